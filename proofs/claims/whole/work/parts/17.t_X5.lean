theorem dX5_placeOf_0 : decode cX5_placeOf 0 = .ok (.iconst 0, 1) := by decide +kernel
theorem dX5_placeOf_1 : decode cX5_placeOf 1 = .ok (.istore_n 3, 1) := by decide +kernel
theorem dX5_placeOf_2 : decode cX5_placeOf 2 = .ok (.iload_n 3, 1) := by decide +kernel
theorem dX5_placeOf_3 : decode cX5_placeOf 3 = .ok (.aload_n 0, 1) := by decide +kernel
theorem dX5_placeOf_4 : decode cX5_placeOf 4 = .ok (.getfield 19, 3) := by decide +kernel
theorem dX5_placeOf_7 : decode cX5_placeOf 7 = .ok (.if_icmp .ge 31, 3) := by decide +kernel
theorem dX5_placeOf_10 : decode cX5_placeOf 10 = .ok (.aload_n 0, 1) := by decide +kernel
theorem dX5_placeOf_11 : decode cX5_placeOf 11 = .ok (.getfield 11, 3) := by decide +kernel
theorem dX5_placeOf_14 : decode cX5_placeOf 14 = .ok (.iload_n 3, 1) := by decide +kernel
theorem dX5_placeOf_15 : decode cX5_placeOf 15 = .ok (.iaload, 1) := by decide +kernel
theorem dX5_placeOf_16 : decode cX5_placeOf 16 = .ok (.iload_n 1, 1) := by decide +kernel
theorem dX5_placeOf_17 : decode cX5_placeOf 17 = .ok (.if_icmp .ne 15, 3) := by decide +kernel
theorem dX5_placeOf_20 : decode cX5_placeOf 20 = .ok (.aload_n 0, 1) := by decide +kernel
theorem dX5_placeOf_21 : decode cX5_placeOf 21 = .ok (.getfield 15, 3) := by decide +kernel
theorem dX5_placeOf_24 : decode cX5_placeOf 24 = .ok (.iload_n 3, 1) := by decide +kernel
theorem dX5_placeOf_25 : decode cX5_placeOf 25 = .ok (.baload, 1) := by decide +kernel
theorem dX5_placeOf_26 : decode cX5_placeOf 26 = .ok (.iload_n 2, 1) := by decide +kernel
theorem dX5_placeOf_27 : decode cX5_placeOf 27 = .ok (.if_icmp .ne 5, 3) := by decide +kernel
theorem dX5_placeOf_30 : decode cX5_placeOf 30 = .ok (.iload_n 3, 1) := by decide +kernel
theorem dX5_placeOf_31 : decode cX5_placeOf 31 = .ok (.ireturn, 1) := by decide +kernel
theorem dX5_placeOf_32 : decode cX5_placeOf 32 = .ok (.iinc 3 1, 3) := by decide +kernel
theorem dX5_placeOf_35 : decode cX5_placeOf 35 = .ok (.goto (-33), 3) := by decide +kernel
theorem dX5_placeOf_38 : decode cX5_placeOf 38 = .ok (.iconst (-1), 1) := by decide +kernel
theorem dX5_placeOf_39 : decode cX5_placeOf 39 = .ok (.ireturn, 1) := by decide +kernel
def b_X5_placeOf_0 (d : Nat) (G : Nat → zK) (Q : zQ) : zK := o_c 0 <| o_is 3 <| G 2
def b_X5_placeOf_38 (d : Nat) (G : Nat → zK) (Q : zQ) : zK := o_c (-1) <| t_iret Q
def b_X5_placeOf_32 (d : Nat) (G : Nat → zK) (Q : zQ) : zK := o_inc 3 1 <| G 2
def b_X5_placeOf_30 (d : Nat) (G : Nat → zK) (Q : zQ) : zK := o_il 3 <| t_iret Q
def b_X5_placeOf_20 (d : Nat) (G : Nat → zK) (Q : zQ) : zK := o_al 0 <| o_gf 3 1 <| o_il 3 <| o_zald <| o_il 2 <| t_ieq (b_X5_placeOf_30 d G Q) (b_X5_placeOf_32 d G Q)
def b_X5_placeOf_10 (d : Nat) (G : Nat → zK) (Q : zQ) : zK := o_al 0 <| o_gf 3 0 <| o_il 3 <| o_iald <| o_il 1 <| t_ieq (b_X5_placeOf_20 d G Q) (b_X5_placeOf_32 d G Q)
def b_X5_placeOf_2 (d : Nat) (G : Nat → zK) (Q : zQ) : zK := o_il 3 <| o_al 0 <| o_gf 3 2 <| t_ilt (b_X5_placeOf_10 d G Q) (b_X5_placeOf_38 d G Q)
set_option maxRecDepth 20000 in
theorem k_X5_placeOf_0 {p : Program} {l : Launch} {e : Env} {s : State} {m : MethodId} {args : Array Value} {below : List Frame} {meth : Method} {c : Code} {E : zE} {d : Nat} {Q : zQ} (B : zB p s m args c E mX5_placeOf.1.cls mX5_placeOf.2.1 mX5_placeOf.2.2.1) (hr : meth.sig.returnType = mX5_placeOf.2.2.2) (hlk : meth.locks = false) : zLk (zG p l e (zrm d) s m args below meth c E mX5_placeOf.2.2.1 0 0 (MQ below (zQc E Q) args s 0 0 (zaA E))) 0 (b_X5_placeOf_0 d (zG p l e (zrm d) s m args below meth c E mX5_placeOf.2.2.1 0 0 (MQ below (zQc E Q) args s 0 0 (zaA E))) Q) := by
  unfold b_X5_placeOf_0
  exact lk_c B dX5_placeOf_0 (lk_isn B dX5_placeOf_1 rfl (by decide) (fun _ _ _ h => h))
set_option maxRecDepth 20000 in
theorem k_X5_placeOf_38 {p : Program} {l : Launch} {e : Env} {s : State} {m : MethodId} {args : Array Value} {below : List Frame} {meth : Method} {c : Code} {E : zE} {d : Nat} {Q : zQ} (B : zB p s m args c E mX5_placeOf.1.cls mX5_placeOf.2.1 mX5_placeOf.2.2.1) (hr : meth.sig.returnType = mX5_placeOf.2.2.2) (hlk : meth.locks = false) : zLk (zG p l e (zrm d) s m args below meth c E mX5_placeOf.2.2.1 0 0 (MQ below (zQc E Q) args s 0 0 (zaA E))) 38 (b_X5_placeOf_38 d (zG p l e (zrm d) s m args below meth c E mX5_placeOf.2.2.1 0 0 (MQ below (zQc E Q) args s 0 0 (zaA E))) Q) := by
  unfold b_X5_placeOf_38
  exact lk_c B dX5_placeOf_38 (lk_iret B hr hlk dX5_placeOf_39)
set_option maxRecDepth 20000 in
theorem k_X5_placeOf_32 {p : Program} {l : Launch} {e : Env} {s : State} {m : MethodId} {args : Array Value} {below : List Frame} {meth : Method} {c : Code} {E : zE} {d : Nat} {Q : zQ} (B : zB p s m args c E mX5_placeOf.1.cls mX5_placeOf.2.1 mX5_placeOf.2.2.1) (hr : meth.sig.returnType = mX5_placeOf.2.2.2) (hlk : meth.locks = false) : zLk (zG p l e (zrm d) s m args below meth c E mX5_placeOf.2.2.1 0 0 (MQ below (zQc E Q) args s 0 0 (zaA E))) 32 (b_X5_placeOf_32 d (zG p l e (zrm d) s m args below meth c E mX5_placeOf.2.2.1 0 0 (MQ below (zQc E Q) args s 0 0 (zaA E))) Q) := by
  unfold b_X5_placeOf_32
  exact lk_inc B dX5_placeOf_32 (by decide) (lk_goto B dX5_placeOf_35 (by decide) (fun _ _ _ h => h))
set_option maxRecDepth 20000 in
theorem k_X5_placeOf_30 {p : Program} {l : Launch} {e : Env} {s : State} {m : MethodId} {args : Array Value} {below : List Frame} {meth : Method} {c : Code} {E : zE} {d : Nat} {Q : zQ} (B : zB p s m args c E mX5_placeOf.1.cls mX5_placeOf.2.1 mX5_placeOf.2.2.1) (hr : meth.sig.returnType = mX5_placeOf.2.2.2) (hlk : meth.locks = false) : zLk (zG p l e (zrm d) s m args below meth c E mX5_placeOf.2.2.1 0 0 (MQ below (zQc E Q) args s 0 0 (zaA E))) 30 (b_X5_placeOf_30 d (zG p l e (zrm d) s m args below meth c E mX5_placeOf.2.2.1 0 0 (MQ below (zQc E Q) args s 0 0 (zaA E))) Q) := by
  unfold b_X5_placeOf_30
  exact lk_iln B dX5_placeOf_30 rfl (lk_iret B hr hlk dX5_placeOf_31)
set_option maxRecDepth 20000 in
theorem k_X5_placeOf_20 {p : Program} {l : Launch} {e : Env} {s : State} {m : MethodId} {args : Array Value} {below : List Frame} {meth : Method} {c : Code} {E : zE} {d : Nat} {Q : zQ} (B : zB p s m args c E mX5_placeOf.1.cls mX5_placeOf.2.1 mX5_placeOf.2.2.1) (hr : meth.sig.returnType = mX5_placeOf.2.2.2) (hlk : meth.locks = false) : zLk (zG p l e (zrm d) s m args below meth c E mX5_placeOf.2.2.1 0 0 (MQ below (zQc E Q) args s 0 0 (zaA E))) 20 (b_X5_placeOf_20 d (zG p l e (zrm d) s m args below meth c E mX5_placeOf.2.2.1 0 0 (MQ below (zQc E Q) args s 0 0 (zaA E))) Q) := by
  unfold b_X5_placeOf_20
  exact lk_aln B dX5_placeOf_20 rfl (lk_gf (T := TX5) B cl_X5 (by decide) in_X5 zw_109 dX5_placeOf_21 (lk_iln B dX5_placeOf_24 rfl (lk_zald B dX5_placeOf_25 (lk_iln B dX5_placeOf_26 rfl (lk_ine B dX5_placeOf_27 (by decide) (k_X5_placeOf_32 B hr hlk) (k_X5_placeOf_30 B hr hlk))))))
set_option maxRecDepth 20000 in
theorem k_X5_placeOf_10 {p : Program} {l : Launch} {e : Env} {s : State} {m : MethodId} {args : Array Value} {below : List Frame} {meth : Method} {c : Code} {E : zE} {d : Nat} {Q : zQ} (B : zB p s m args c E mX5_placeOf.1.cls mX5_placeOf.2.1 mX5_placeOf.2.2.1) (hr : meth.sig.returnType = mX5_placeOf.2.2.2) (hlk : meth.locks = false) : zLk (zG p l e (zrm d) s m args below meth c E mX5_placeOf.2.2.1 0 0 (MQ below (zQc E Q) args s 0 0 (zaA E))) 10 (b_X5_placeOf_10 d (zG p l e (zrm d) s m args below meth c E mX5_placeOf.2.2.1 0 0 (MQ below (zQc E Q) args s 0 0 (zaA E))) Q) := by
  unfold b_X5_placeOf_10
  exact lk_aln B dX5_placeOf_10 rfl (lk_gf (T := TX5) B cl_X5 (by decide) in_X5 zw_108 dX5_placeOf_11 (lk_iln B dX5_placeOf_14 rfl (lk_iald B dX5_placeOf_15 (lk_iln B dX5_placeOf_16 rfl (lk_ine B dX5_placeOf_17 (by decide) (k_X5_placeOf_32 B hr hlk) (k_X5_placeOf_20 B hr hlk))))))
set_option maxRecDepth 20000 in
theorem k_X5_placeOf_2 {p : Program} {l : Launch} {e : Env} {s : State} {m : MethodId} {args : Array Value} {below : List Frame} {meth : Method} {c : Code} {E : zE} {d : Nat} {Q : zQ} (B : zB p s m args c E mX5_placeOf.1.cls mX5_placeOf.2.1 mX5_placeOf.2.2.1) (hr : meth.sig.returnType = mX5_placeOf.2.2.2) (hlk : meth.locks = false) : zLk (zG p l e (zrm d) s m args below meth c E mX5_placeOf.2.2.1 0 0 (MQ below (zQc E Q) args s 0 0 (zaA E))) 2 (b_X5_placeOf_2 d (zG p l e (zrm d) s m args below meth c E mX5_placeOf.2.2.1 0 0 (MQ below (zQc E Q) args s 0 0 (zaA E))) Q) := by
  unfold b_X5_placeOf_2
  exact lk_iln B dX5_placeOf_2 rfl (lk_aln B dX5_placeOf_3 rfl (lk_gf (T := TX5) B cl_X5 (by decide) in_X5 zw_110 dX5_placeOf_4 (lk_ige B dX5_placeOf_7 (by decide) (k_X5_placeOf_38 B hr hlk) (k_X5_placeOf_10 B hr hlk))))
def S_X5_placeOf (d : Nat) (G : Nat → zK) (Q : zQ) : Prop := zLk G 0 (b_X5_placeOf_0 d G Q) ∧ zLk G 2 (b_X5_placeOf_2 d G Q)
theorem s_X5_placeOf_0 {d : Nat} {G : Nat → zK} {Q : zQ} (h : S_X5_placeOf d G Q) {ls st : List zV} {μ : zM} (k : b_X5_placeOf_0 d G Q ls st μ) : G 0 ls st μ := h.1 ls st μ k
theorem s_X5_placeOf_2 {d : Nat} {G : Nat → zK} {Q : zQ} (h : S_X5_placeOf d G Q) {ls st : List zV} {μ : zM} (k : b_X5_placeOf_2 d G Q ls st μ) : G 2 ls st μ := h.2 ls st μ k
theorem of_X5_placeOf {d : Nat} {a0 a1 a2 : zV} {μ : zM} {Q : zQ} (h : ∀ G : Nat → zK, S_X5_placeOf d G Q → G 0 [a0, a1, a2, .inr none] [] μ) : zCt d mX5_placeOf [a0, a1, a2] μ Q := zCt.mk (by decide) (Nat.le_of_ble_eq_true rfl) (fun p l e s m args below meth c E B hr hlk => h _ ⟨k_X5_placeOf_0 B hr hlk, k_X5_placeOf_2 B hr hlk⟩)
theorem dX5_insert_0 : decode cX5_insert 0 = .ok (.aload_n 0, 1) := by decide +kernel
theorem dX5_insert_1 : decode cX5_insert 1 = .ok (.getfield 19, 3) := by decide +kernel
theorem dX5_insert_4 : decode cX5_insert 4 = .ok (.bipush 8, 2) := by decide +kernel
theorem dX5_insert_6 : decode cX5_insert 6 = .ok (.if_icmp .ge 12, 3) := by decide +kernel
theorem dX5_insert_9 : decode cX5_insert 9 = .ok (.aload_n 0, 1) := by decide +kernel
theorem dX5_insert_10 : decode cX5_insert 10 = .ok (.iload_n 1, 1) := by decide +kernel
theorem dX5_insert_11 : decode cX5_insert 11 = .ok (.iload_n 2, 1) := by decide +kernel
theorem dX5_insert_12 : decode cX5_insert 12 = .ok (.invokevirtual 23, 3) := by decide +kernel
theorem dX5_insert_15 : decode cX5_insert 15 = .ok (.ifCond .lt 5, 3) := by decide +kernel
theorem dX5_insert_18 : decode cX5_insert 18 = .ok (.iconst 0, 1) := by decide +kernel
theorem dX5_insert_19 : decode cX5_insert 19 = .ok (.ireturn, 1) := by decide +kernel
theorem dX5_insert_20 : decode cX5_insert 20 = .ok (.aload_n 0, 1) := by decide +kernel
theorem dX5_insert_21 : decode cX5_insert 21 = .ok (.getfield 11, 3) := by decide +kernel
theorem dX5_insert_24 : decode cX5_insert 24 = .ok (.aload_n 0, 1) := by decide +kernel
theorem dX5_insert_25 : decode cX5_insert 25 = .ok (.getfield 19, 3) := by decide +kernel
theorem dX5_insert_28 : decode cX5_insert 28 = .ok (.iload_n 1, 1) := by decide +kernel
theorem dX5_insert_29 : decode cX5_insert 29 = .ok (.iastore, 1) := by decide +kernel
theorem dX5_insert_30 : decode cX5_insert 30 = .ok (.aload_n 0, 1) := by decide +kernel
theorem dX5_insert_31 : decode cX5_insert 31 = .ok (.getfield 15, 3) := by decide +kernel
theorem dX5_insert_34 : decode cX5_insert 34 = .ok (.aload_n 0, 1) := by decide +kernel
theorem dX5_insert_35 : decode cX5_insert 35 = .ok (.getfield 19, 3) := by decide +kernel
theorem dX5_insert_38 : decode cX5_insert 38 = .ok (.iload_n 2, 1) := by decide +kernel
theorem dX5_insert_39 : decode cX5_insert 39 = .ok (.bastore, 1) := by decide +kernel
theorem dX5_insert_40 : decode cX5_insert 40 = .ok (.aload_n 0, 1) := by decide +kernel
theorem dX5_insert_41 : decode cX5_insert 41 = .ok (.dup, 1) := by decide +kernel
theorem dX5_insert_42 : decode cX5_insert 42 = .ok (.getfield 19, 3) := by decide +kernel
theorem dX5_insert_45 : decode cX5_insert 45 = .ok (.iconst 1, 1) := by decide +kernel
theorem dX5_insert_46 : decode cX5_insert 46 = .ok (.iadd, 1) := by decide +kernel
theorem dX5_insert_47 : decode cX5_insert 47 = .ok (.putfield 19, 3) := by decide +kernel
theorem dX5_insert_50 : decode cX5_insert 50 = .ok (.iconst 1, 1) := by decide +kernel
theorem dX5_insert_51 : decode cX5_insert 51 = .ok (.ireturn, 1) := by decide +kernel
def b_X5_insert_18 (d : Nat) (G : Nat → zK) (Q : zQ) : zK := o_c 0 <| t_zret Q
def b_X5_insert_20 (d : Nat) (G : Nat → zK) (Q : zQ) : zK := o_al 0 <| o_gf 3 0 <| o_al 0 <| o_gf 3 2 <| o_il 1 <| o_iast <| o_al 0 <| o_gf 3 1 <| o_al 0 <| o_gf 3 2 <| o_il 2 <| o_zast <| o_al 0 <| o_dup <| o_gf 3 2 <| o_c 1 <| o_add <| o_pf 3 2 <| o_c 1 <| t_zret Q
def b_X5_insert_9 (d : Nat) (G : Nat → zK) (Q : zQ) : zK := o_al 0 <| o_il 1 <| o_il 2 <| o_callv (zCt (d - 1) mX5_placeOf) 3 3 <| t_zlt (b_X5_insert_20 d G Q) (b_X5_insert_18 d G Q)
def b_X5_insert_0 (d : Nat) (G : Nat → zK) (Q : zQ) : zK := o_al 0 <| o_gf 3 2 <| o_c 8 <| t_ilt (b_X5_insert_9 d G Q) (b_X5_insert_18 d G Q)
set_option maxRecDepth 20000 in
theorem k_X5_insert_18 {p : Program} {l : Launch} {e : Env} {s : State} {m : MethodId} {args : Array Value} {below : List Frame} {meth : Method} {c : Code} {E : zE} {d : Nat} {Q : zQ} (hd1 : 1 ≤ d) (B : zB p s m args c E mX5_insert.1.cls mX5_insert.2.1 mX5_insert.2.2.1) (hr : meth.sig.returnType = mX5_insert.2.2.2) (hlk : meth.locks = false) : zLk (zG p l e (zrm d) s m args below meth c E mX5_insert.2.2.1 0 0 (MQ below (zQc E Q) args s 0 0 (zaA E))) 18 (b_X5_insert_18 d (zG p l e (zrm d) s m args below meth c E mX5_insert.2.2.1 0 0 (MQ below (zQc E Q) args s 0 0 (zaA E))) Q) := by
  unfold b_X5_insert_18
  exact lk_c B dX5_insert_18 (lk_zret B hr hlk dX5_insert_19)
set_option maxRecDepth 20000 in
theorem k_X5_insert_20 {p : Program} {l : Launch} {e : Env} {s : State} {m : MethodId} {args : Array Value} {below : List Frame} {meth : Method} {c : Code} {E : zE} {d : Nat} {Q : zQ} (hd1 : 1 ≤ d) (B : zB p s m args c E mX5_insert.1.cls mX5_insert.2.1 mX5_insert.2.2.1) (hr : meth.sig.returnType = mX5_insert.2.2.2) (hlk : meth.locks = false) : zLk (zG p l e (zrm d) s m args below meth c E mX5_insert.2.2.1 0 0 (MQ below (zQc E Q) args s 0 0 (zaA E))) 20 (b_X5_insert_20 d (zG p l e (zrm d) s m args below meth c E mX5_insert.2.2.1 0 0 (MQ below (zQc E Q) args s 0 0 (zaA E))) Q) := by
  unfold b_X5_insert_20
  exact lk_aln B dX5_insert_20 rfl (lk_gf (T := TX5) B cl_X5 (by decide) in_X5 zw_108 dX5_insert_21 (lk_aln B dX5_insert_24 rfl (lk_gf (T := TX5) B cl_X5 (by decide) in_X5 zw_110 dX5_insert_25 (lk_iln B dX5_insert_28 rfl (lk_iast B dX5_insert_29 (lk_aln B dX5_insert_30 rfl (lk_gf (T := TX5) B cl_X5 (by decide) in_X5 zw_109 dX5_insert_31 (lk_aln B dX5_insert_34 rfl (lk_gf (T := TX5) B cl_X5 (by decide) in_X5 zw_110 dX5_insert_35 (lk_iln B dX5_insert_38 rfl (lk_zast B dX5_insert_39 (lk_aln B dX5_insert_40 rfl (lk_dup B dX5_insert_41 (lk_gf (T := TX5) B cl_X5 (by decide) in_X5 zw_110 dX5_insert_42 (lk_c B dX5_insert_45 (lk_add B dX5_insert_46 (lk_pf (T := TX5) B cl_X5 (by decide) in_X5 tyX5_ok nmX5 zw_110 rfl (by decide +kernel) dX5_insert_47 (lk_c B dX5_insert_50 (lk_zret B hr hlk dX5_insert_51)))))))))))))))))))
set_option maxRecDepth 20000 in
theorem k_X5_insert_9 {p : Program} {l : Launch} {e : Env} {s : State} {m : MethodId} {args : Array Value} {below : List Frame} {meth : Method} {c : Code} {E : zE} {d : Nat} {Q : zQ} (hd1 : 1 ≤ d) (B : zB p s m args c E mX5_insert.1.cls mX5_insert.2.1 mX5_insert.2.2.1) (hr : meth.sig.returnType = mX5_insert.2.2.2) (hlk : meth.locks = false) : zLk (zG p l e (zrm d) s m args below meth c E mX5_insert.2.2.1 0 0 (MQ below (zQc E Q) args s 0 0 (zaA E))) 9 (b_X5_insert_9 d (zG p l e (zrm d) s m args below meth c E mX5_insert.2.2.1 0 0 (MQ below (zQc E Q) args s 0 0 (zaA E))) Q) := by
  unfold b_X5_insert_9
  exact lk_aln B dX5_insert_9 rfl (lk_iln B dX5_insert_10 rfl (lk_iln B dX5_insert_11 rfl (lk_callv (M := mX5_placeOf) (T := TX5) (N := 3) B (zhR hd1 (by decide)) ⟨Nat.zero_le _, Nat.zero_le _⟩ cl_X5 (zw5 zw_601 zw_598 zw_600 zw_10 zw_52) (by decide +kernel) dX5_insert_12 (lk_zlt B dX5_insert_15 (by decide) (k_X5_insert_20 hd1 B hr hlk) (k_X5_insert_18 hd1 B hr hlk)))))
set_option maxRecDepth 20000 in
theorem k_X5_insert_0 {p : Program} {l : Launch} {e : Env} {s : State} {m : MethodId} {args : Array Value} {below : List Frame} {meth : Method} {c : Code} {E : zE} {d : Nat} {Q : zQ} (hd1 : 1 ≤ d) (B : zB p s m args c E mX5_insert.1.cls mX5_insert.2.1 mX5_insert.2.2.1) (hr : meth.sig.returnType = mX5_insert.2.2.2) (hlk : meth.locks = false) : zLk (zG p l e (zrm d) s m args below meth c E mX5_insert.2.2.1 0 0 (MQ below (zQc E Q) args s 0 0 (zaA E))) 0 (b_X5_insert_0 d (zG p l e (zrm d) s m args below meth c E mX5_insert.2.2.1 0 0 (MQ below (zQc E Q) args s 0 0 (zaA E))) Q) := by
  unfold b_X5_insert_0
  exact lk_aln B dX5_insert_0 rfl (lk_gf (T := TX5) B cl_X5 (by decide) in_X5 zw_110 dX5_insert_1 (lk_b B dX5_insert_4 rfl (lk_ige B dX5_insert_6 (by decide) (k_X5_insert_18 hd1 B hr hlk) (k_X5_insert_9 hd1 B hr hlk))))
def S_X5_insert (d : Nat) (G : Nat → zK) (Q : zQ) : Prop := zLk G 0 (b_X5_insert_0 d G Q)
theorem s_X5_insert_0 {d : Nat} {G : Nat → zK} {Q : zQ} (h : S_X5_insert d G Q) {ls st : List zV} {μ : zM} (k : b_X5_insert_0 d G Q ls st μ) : G 0 ls st μ := h ls st μ k
theorem of_X5_insert {d : Nat} {a0 a1 a2 : zV} {μ : zM} {Q : zQ} (hd1 : 1 ≤ d) (h : ∀ G : Nat → zK, S_X5_insert d G Q → G 0 [a0, a1, a2] [] μ) : zCt d mX5_insert [a0, a1, a2] μ Q := zCt.mk (by decide) (Nat.le_of_ble_eq_true rfl) (fun p l e s m args below meth c E B hr hlk => h _ (k_X5_insert_0 hd1 B hr hlk))
theorem dX5_remove_0 : decode cX5_remove 0 = .ok (.aload_n 0, 1) := by decide +kernel
theorem dX5_remove_1 : decode cX5_remove 1 = .ok (.iload_n 1, 1) := by decide +kernel
theorem dX5_remove_2 : decode cX5_remove 2 = .ok (.iload_n 2, 1) := by decide +kernel
theorem dX5_remove_3 : decode cX5_remove 3 = .ok (.invokevirtual 23, 3) := by decide +kernel
theorem dX5_remove_6 : decode cX5_remove 6 = .ok (.istore_n 3, 1) := by decide +kernel
theorem dX5_remove_7 : decode cX5_remove 7 = .ok (.iload_n 3, 1) := by decide +kernel
theorem dX5_remove_8 : decode cX5_remove 8 = .ok (.ifCond .ge 5, 3) := by decide +kernel
theorem dX5_remove_11 : decode cX5_remove 11 = .ok (.iconst 0, 1) := by decide +kernel
theorem dX5_remove_12 : decode cX5_remove 12 = .ok (.ireturn, 1) := by decide +kernel
theorem dX5_remove_13 : decode cX5_remove 13 = .ok (.aload_n 0, 1) := by decide +kernel
theorem dX5_remove_14 : decode cX5_remove 14 = .ok (.dup, 1) := by decide +kernel
theorem dX5_remove_15 : decode cX5_remove 15 = .ok (.getfield 19, 3) := by decide +kernel
theorem dX5_remove_18 : decode cX5_remove 18 = .ok (.iconst 1, 1) := by decide +kernel
theorem dX5_remove_19 : decode cX5_remove 19 = .ok (.isub, 1) := by decide +kernel
theorem dX5_remove_20 : decode cX5_remove 20 = .ok (.putfield 19, 3) := by decide +kernel
theorem dX5_remove_23 : decode cX5_remove 23 = .ok (.aload_n 0, 1) := by decide +kernel
theorem dX5_remove_24 : decode cX5_remove 24 = .ok (.getfield 11, 3) := by decide +kernel
theorem dX5_remove_27 : decode cX5_remove 27 = .ok (.iload_n 3, 1) := by decide +kernel
theorem dX5_remove_28 : decode cX5_remove 28 = .ok (.aload_n 0, 1) := by decide +kernel
theorem dX5_remove_29 : decode cX5_remove 29 = .ok (.getfield 11, 3) := by decide +kernel
theorem dX5_remove_32 : decode cX5_remove 32 = .ok (.aload_n 0, 1) := by decide +kernel
theorem dX5_remove_33 : decode cX5_remove 33 = .ok (.getfield 19, 3) := by decide +kernel
theorem dX5_remove_36 : decode cX5_remove 36 = .ok (.iaload, 1) := by decide +kernel
theorem dX5_remove_37 : decode cX5_remove 37 = .ok (.iastore, 1) := by decide +kernel
theorem dX5_remove_38 : decode cX5_remove 38 = .ok (.aload_n 0, 1) := by decide +kernel
theorem dX5_remove_39 : decode cX5_remove 39 = .ok (.getfield 15, 3) := by decide +kernel
theorem dX5_remove_42 : decode cX5_remove 42 = .ok (.iload_n 3, 1) := by decide +kernel
theorem dX5_remove_43 : decode cX5_remove 43 = .ok (.aload_n 0, 1) := by decide +kernel
theorem dX5_remove_44 : decode cX5_remove 44 = .ok (.getfield 15, 3) := by decide +kernel
theorem dX5_remove_47 : decode cX5_remove 47 = .ok (.aload_n 0, 1) := by decide +kernel
theorem dX5_remove_48 : decode cX5_remove 48 = .ok (.getfield 19, 3) := by decide +kernel
theorem dX5_remove_51 : decode cX5_remove 51 = .ok (.baload, 1) := by decide +kernel
theorem dX5_remove_52 : decode cX5_remove 52 = .ok (.bastore, 1) := by decide +kernel
theorem dX5_remove_53 : decode cX5_remove 53 = .ok (.iconst 1, 1) := by decide +kernel
theorem dX5_remove_54 : decode cX5_remove 54 = .ok (.ireturn, 1) := by decide +kernel
def b_X5_remove_13 (d : Nat) (G : Nat → zK) (Q : zQ) : zK := o_al 0 <| o_dup <| o_gf 3 2 <| o_c 1 <| o_sub <| o_pf 3 2 <| o_al 0 <| o_gf 3 0 <| o_il 3 <| o_al 0 <| o_gf 3 0 <| o_al 0 <| o_gf 3 2 <| o_iald <| o_iast <| o_al 0 <| o_gf 3 1 <| o_il 3 <| o_al 0 <| o_gf 3 1 <| o_al 0 <| o_gf 3 2 <| o_zald <| o_zast <| o_c 1 <| t_zret Q
def b_X5_remove_11 (d : Nat) (G : Nat → zK) (Q : zQ) : zK := o_c 0 <| t_zret Q
def b_X5_remove_0 (d : Nat) (G : Nat → zK) (Q : zQ) : zK := o_al 0 <| o_il 1 <| o_il 2 <| o_callv (zCt (d - 1) mX5_placeOf) 3 3 <| o_is 3 <| o_il 3 <| t_zlt (b_X5_remove_11 d G Q) (b_X5_remove_13 d G Q)
set_option maxRecDepth 20000 in
theorem k_X5_remove_13 {p : Program} {l : Launch} {e : Env} {s : State} {m : MethodId} {args : Array Value} {below : List Frame} {meth : Method} {c : Code} {E : zE} {d : Nat} {Q : zQ} (hd1 : 1 ≤ d) (B : zB p s m args c E mX5_remove.1.cls mX5_remove.2.1 mX5_remove.2.2.1) (hr : meth.sig.returnType = mX5_remove.2.2.2) (hlk : meth.locks = false) : zLk (zG p l e (zrm d) s m args below meth c E mX5_remove.2.2.1 0 0 (MQ below (zQc E Q) args s 0 0 (zaA E))) 13 (b_X5_remove_13 d (zG p l e (zrm d) s m args below meth c E mX5_remove.2.2.1 0 0 (MQ below (zQc E Q) args s 0 0 (zaA E))) Q) := by
  unfold b_X5_remove_13
  exact lk_aln B dX5_remove_13 rfl (lk_dup B dX5_remove_14 (lk_gf (T := TX5) B cl_X5 (by decide) in_X5 zw_110 dX5_remove_15 (lk_c B dX5_remove_18 (lk_sub B dX5_remove_19 (lk_pf (T := TX5) B cl_X5 (by decide) in_X5 tyX5_ok nmX5 zw_110 rfl (by decide +kernel) dX5_remove_20 (lk_aln B dX5_remove_23 rfl (lk_gf (T := TX5) B cl_X5 (by decide) in_X5 zw_108 dX5_remove_24 (lk_iln B dX5_remove_27 rfl (lk_aln B dX5_remove_28 rfl (lk_gf (T := TX5) B cl_X5 (by decide) in_X5 zw_108 dX5_remove_29 (lk_aln B dX5_remove_32 rfl (lk_gf (T := TX5) B cl_X5 (by decide) in_X5 zw_110 dX5_remove_33 (lk_iald B dX5_remove_36 (lk_iast B dX5_remove_37 (lk_aln B dX5_remove_38 rfl (lk_gf (T := TX5) B cl_X5 (by decide) in_X5 zw_109 dX5_remove_39 (lk_iln B dX5_remove_42 rfl (lk_aln B dX5_remove_43 rfl (lk_gf (T := TX5) B cl_X5 (by decide) in_X5 zw_109 dX5_remove_44 (lk_aln B dX5_remove_47 rfl (lk_gf (T := TX5) B cl_X5 (by decide) in_X5 zw_110 dX5_remove_48 (lk_zald B dX5_remove_51 (lk_zast B dX5_remove_52 (lk_c B dX5_remove_53 (lk_zret B hr hlk dX5_remove_54)))))))))))))))))))))))))
set_option maxRecDepth 20000 in
theorem k_X5_remove_11 {p : Program} {l : Launch} {e : Env} {s : State} {m : MethodId} {args : Array Value} {below : List Frame} {meth : Method} {c : Code} {E : zE} {d : Nat} {Q : zQ} (hd1 : 1 ≤ d) (B : zB p s m args c E mX5_remove.1.cls mX5_remove.2.1 mX5_remove.2.2.1) (hr : meth.sig.returnType = mX5_remove.2.2.2) (hlk : meth.locks = false) : zLk (zG p l e (zrm d) s m args below meth c E mX5_remove.2.2.1 0 0 (MQ below (zQc E Q) args s 0 0 (zaA E))) 11 (b_X5_remove_11 d (zG p l e (zrm d) s m args below meth c E mX5_remove.2.2.1 0 0 (MQ below (zQc E Q) args s 0 0 (zaA E))) Q) := by
  unfold b_X5_remove_11
  exact lk_c B dX5_remove_11 (lk_zret B hr hlk dX5_remove_12)
set_option maxRecDepth 20000 in
theorem k_X5_remove_0 {p : Program} {l : Launch} {e : Env} {s : State} {m : MethodId} {args : Array Value} {below : List Frame} {meth : Method} {c : Code} {E : zE} {d : Nat} {Q : zQ} (hd1 : 1 ≤ d) (B : zB p s m args c E mX5_remove.1.cls mX5_remove.2.1 mX5_remove.2.2.1) (hr : meth.sig.returnType = mX5_remove.2.2.2) (hlk : meth.locks = false) : zLk (zG p l e (zrm d) s m args below meth c E mX5_remove.2.2.1 0 0 (MQ below (zQc E Q) args s 0 0 (zaA E))) 0 (b_X5_remove_0 d (zG p l e (zrm d) s m args below meth c E mX5_remove.2.2.1 0 0 (MQ below (zQc E Q) args s 0 0 (zaA E))) Q) := by
  unfold b_X5_remove_0
  exact lk_aln B dX5_remove_0 rfl (lk_iln B dX5_remove_1 rfl (lk_iln B dX5_remove_2 rfl (lk_callv (M := mX5_placeOf) (T := TX5) (N := 3) B (zhR hd1 (by decide)) ⟨Nat.zero_le _, Nat.zero_le _⟩ cl_X5 (zw5 zw_601 zw_598 zw_600 zw_10 zw_52) (by decide +kernel) dX5_remove_3 (lk_isn B dX5_remove_6 rfl (by decide) (lk_iln B dX5_remove_7 rfl (lk_zge B dX5_remove_8 (by decide) (k_X5_remove_13 hd1 B hr hlk) (k_X5_remove_11 hd1 B hr hlk)))))))
def S_X5_remove (d : Nat) (G : Nat → zK) (Q : zQ) : Prop := zLk G 0 (b_X5_remove_0 d G Q)
theorem s_X5_remove_0 {d : Nat} {G : Nat → zK} {Q : zQ} (h : S_X5_remove d G Q) {ls st : List zV} {μ : zM} (k : b_X5_remove_0 d G Q ls st μ) : G 0 ls st μ := h ls st μ k
theorem of_X5_remove {d : Nat} {a0 a1 a2 : zV} {μ : zM} {Q : zQ} (hd1 : 1 ≤ d) (h : ∀ G : Nat → zK, S_X5_remove d G Q → G 0 [a0, a1, a2, .inr none] [] μ) : zCt d mX5_remove [a0, a1, a2] μ Q := zCt.mk (by decide) (Nat.le_of_ble_eq_true rfl) (fun p l e s m args below meth c E B hr hlk => h _ (k_X5_remove_0 hd1 B hr hlk))
theorem dX5_reachUnderDeep_0 : decode cX5_reachUnderDeep 0 = .ok (.iconst 0, 1) := by decide +kernel
theorem dX5_reachUnderDeep_1 : decode cX5_reachUnderDeep 1 = .ok (.istore_n 3, 1) := by decide +kernel
theorem dX5_reachUnderDeep_2 : decode cX5_reachUnderDeep 2 = .ok (.iload_n 3, 1) := by decide +kernel
theorem dX5_reachUnderDeep_3 : decode cX5_reachUnderDeep 3 = .ok (.aload_n 0, 1) := by decide +kernel
theorem dX5_reachUnderDeep_4 : decode cX5_reachUnderDeep 4 = .ok (.getfield 19, 3) := by decide +kernel
theorem dX5_reachUnderDeep_7 : decode cX5_reachUnderDeep 7 = .ok (.if_icmp .ge 29, 3) := by decide +kernel
theorem dX5_reachUnderDeep_10 : decode cX5_reachUnderDeep 10 = .ok (.aload_n 0, 1) := by decide +kernel
theorem dX5_reachUnderDeep_11 : decode cX5_reachUnderDeep 11 = .ok (.getfield 15, 3) := by decide +kernel
theorem dX5_reachUnderDeep_14 : decode cX5_reachUnderDeep 14 = .ok (.iload_n 3, 1) := by decide +kernel
theorem dX5_reachUnderDeep_15 : decode cX5_reachUnderDeep 15 = .ok (.baload, 1) := by decide +kernel
theorem dX5_reachUnderDeep_16 : decode cX5_reachUnderDeep 16 = .ok (.ifCond .eq 14, 3) := by decide +kernel
theorem dX5_reachUnderDeep_19 : decode cX5_reachUnderDeep 19 = .ok (.aload_n 2, 1) := by decide +kernel
theorem dX5_reachUnderDeep_20 : decode cX5_reachUnderDeep 20 = .ok (.aload_n 1, 1) := by decide +kernel
theorem dX5_reachUnderDeep_21 : decode cX5_reachUnderDeep 21 = .ok (.aload_n 0, 1) := by decide +kernel
theorem dX5_reachUnderDeep_22 : decode cX5_reachUnderDeep 22 = .ok (.getfield 11, 3) := by decide +kernel
theorem dX5_reachUnderDeep_25 : decode cX5_reachUnderDeep 25 = .ok (.iload_n 3, 1) := by decide +kernel
theorem dX5_reachUnderDeep_26 : decode cX5_reachUnderDeep 26 = .ok (.iaload, 1) := by decide +kernel
theorem dX5_reachUnderDeep_27 : decode cX5_reachUnderDeep 27 = .ok (.invokevirtual 27, 3) := by decide +kernel
theorem dX5_reachUnderDeep_30 : decode cX5_reachUnderDeep 30 = .ok (.iinc 3 1, 3) := by decide +kernel
theorem dX5_reachUnderDeep_33 : decode cX5_reachUnderDeep 33 = .ok (.goto (-31), 3) := by decide +kernel
theorem dX5_reachUnderDeep_36 : decode cX5_reachUnderDeep 36 = .ok (.return_, 1) := by decide +kernel
def b_X5_reachUnderDeep_0 (d : Nat) (G : Nat → zK) (Q : zQ) : zK := o_c 0 <| o_is 3 <| G 2
def b_X5_reachUnderDeep_36 (d : Nat) (G : Nat → zK) (Q : zQ) : zK := t_vret Q
def b_X5_reachUnderDeep_30 (d : Nat) (G : Nat → zK) (Q : zQ) : zK := o_inc 3 1 <| G 2
def b_X5_reachUnderDeep_19 (d : Nat) (G : Nat → zK) (Q : zQ) : zK := o_al 2 <| o_al 1 <| o_al 0 <| o_gf 3 0 <| o_il 3 <| o_iald <| o_callv (zCt (d - 1) mX9_goUnder) 7 3 <| b_X5_reachUnderDeep_30 d G Q
def b_X5_reachUnderDeep_10 (d : Nat) (G : Nat → zK) (Q : zQ) : zK := o_al 0 <| o_gf 3 1 <| o_il 3 <| o_zald <| t_zeq (b_X5_reachUnderDeep_30 d G Q) (b_X5_reachUnderDeep_19 d G Q)
def b_X5_reachUnderDeep_2 (d : Nat) (G : Nat → zK) (Q : zQ) : zK := o_il 3 <| o_al 0 <| o_gf 3 2 <| t_ilt (b_X5_reachUnderDeep_10 d G Q) (b_X5_reachUnderDeep_36 d G Q)
set_option maxRecDepth 20000 in
theorem k_X5_reachUnderDeep_0 {p : Program} {l : Launch} {e : Env} {s : State} {m : MethodId} {args : Array Value} {below : List Frame} {meth : Method} {c : Code} {E : zE} {d : Nat} {Q : zQ} (hd1 : 1 ≤ d) (B : zB p s m args c E mX5_reachUnderDeep.1.cls mX5_reachUnderDeep.2.1 mX5_reachUnderDeep.2.2.1) (hr : meth.sig.returnType = mX5_reachUnderDeep.2.2.2) (hlk : meth.locks = false) : zLk (zG p l e (zrm d) s m args below meth c E mX5_reachUnderDeep.2.2.1 0 0 (MQ below (zQc E Q) args s 0 0 (zaA E))) 0 (b_X5_reachUnderDeep_0 d (zG p l e (zrm d) s m args below meth c E mX5_reachUnderDeep.2.2.1 0 0 (MQ below (zQc E Q) args s 0 0 (zaA E))) Q) := by
  unfold b_X5_reachUnderDeep_0
  exact lk_c B dX5_reachUnderDeep_0 (lk_isn B dX5_reachUnderDeep_1 rfl (by decide) (fun _ _ _ h => h))
set_option maxRecDepth 20000 in
theorem k_X5_reachUnderDeep_36 {p : Program} {l : Launch} {e : Env} {s : State} {m : MethodId} {args : Array Value} {below : List Frame} {meth : Method} {c : Code} {E : zE} {d : Nat} {Q : zQ} (hd1 : 1 ≤ d) (B : zB p s m args c E mX5_reachUnderDeep.1.cls mX5_reachUnderDeep.2.1 mX5_reachUnderDeep.2.2.1) (hr : meth.sig.returnType = mX5_reachUnderDeep.2.2.2) (hlk : meth.locks = false) : zLk (zG p l e (zrm d) s m args below meth c E mX5_reachUnderDeep.2.2.1 0 0 (MQ below (zQc E Q) args s 0 0 (zaA E))) 36 (b_X5_reachUnderDeep_36 d (zG p l e (zrm d) s m args below meth c E mX5_reachUnderDeep.2.2.1 0 0 (MQ below (zQc E Q) args s 0 0 (zaA E))) Q) := by
  unfold b_X5_reachUnderDeep_36
  exact lk_vret B hr hlk dX5_reachUnderDeep_36
set_option maxRecDepth 20000 in
theorem k_X5_reachUnderDeep_30 {p : Program} {l : Launch} {e : Env} {s : State} {m : MethodId} {args : Array Value} {below : List Frame} {meth : Method} {c : Code} {E : zE} {d : Nat} {Q : zQ} (hd1 : 1 ≤ d) (B : zB p s m args c E mX5_reachUnderDeep.1.cls mX5_reachUnderDeep.2.1 mX5_reachUnderDeep.2.2.1) (hr : meth.sig.returnType = mX5_reachUnderDeep.2.2.2) (hlk : meth.locks = false) : zLk (zG p l e (zrm d) s m args below meth c E mX5_reachUnderDeep.2.2.1 0 0 (MQ below (zQc E Q) args s 0 0 (zaA E))) 30 (b_X5_reachUnderDeep_30 d (zG p l e (zrm d) s m args below meth c E mX5_reachUnderDeep.2.2.1 0 0 (MQ below (zQc E Q) args s 0 0 (zaA E))) Q) := by
  unfold b_X5_reachUnderDeep_30
  exact lk_inc B dX5_reachUnderDeep_30 (by decide) (lk_goto B dX5_reachUnderDeep_33 (by decide) (fun _ _ _ h => h))
set_option maxRecDepth 20000 in
theorem k_X5_reachUnderDeep_19 {p : Program} {l : Launch} {e : Env} {s : State} {m : MethodId} {args : Array Value} {below : List Frame} {meth : Method} {c : Code} {E : zE} {d : Nat} {Q : zQ} (hd1 : 1 ≤ d) (B : zB p s m args c E mX5_reachUnderDeep.1.cls mX5_reachUnderDeep.2.1 mX5_reachUnderDeep.2.2.1) (hr : meth.sig.returnType = mX5_reachUnderDeep.2.2.2) (hlk : meth.locks = false) : zLk (zG p l e (zrm d) s m args below meth c E mX5_reachUnderDeep.2.2.1 0 0 (MQ below (zQc E Q) args s 0 0 (zaA E))) 19 (b_X5_reachUnderDeep_19 d (zG p l e (zrm d) s m args below meth c E mX5_reachUnderDeep.2.2.1 0 0 (MQ below (zQc E Q) args s 0 0 (zaA E))) Q) := by
  unfold b_X5_reachUnderDeep_19
  exact lk_aln B dX5_reachUnderDeep_19 rfl (lk_aln B dX5_reachUnderDeep_20 rfl (lk_aln B dX5_reachUnderDeep_21 rfl (lk_gf (T := TX5) B cl_X5 (by decide) in_X5 zw_108 dX5_reachUnderDeep_22 (lk_iln B dX5_reachUnderDeep_25 rfl (lk_iald B dX5_reachUnderDeep_26 (lk_callv (M := mX9_goUnder) (T := TX9) (N := 5) B (zhR hd1 (by decide)) ⟨Nat.zero_le _, Nat.zero_le _⟩ cl_X9 (zw5 zw_429 zw_622 zw_427 zw_428 zw_57) (by decide +kernel) dX5_reachUnderDeep_27 (k_X5_reachUnderDeep_30 hd1 B hr hlk)))))))
set_option maxRecDepth 20000 in
theorem k_X5_reachUnderDeep_10 {p : Program} {l : Launch} {e : Env} {s : State} {m : MethodId} {args : Array Value} {below : List Frame} {meth : Method} {c : Code} {E : zE} {d : Nat} {Q : zQ} (hd1 : 1 ≤ d) (B : zB p s m args c E mX5_reachUnderDeep.1.cls mX5_reachUnderDeep.2.1 mX5_reachUnderDeep.2.2.1) (hr : meth.sig.returnType = mX5_reachUnderDeep.2.2.2) (hlk : meth.locks = false) : zLk (zG p l e (zrm d) s m args below meth c E mX5_reachUnderDeep.2.2.1 0 0 (MQ below (zQc E Q) args s 0 0 (zaA E))) 10 (b_X5_reachUnderDeep_10 d (zG p l e (zrm d) s m args below meth c E mX5_reachUnderDeep.2.2.1 0 0 (MQ below (zQc E Q) args s 0 0 (zaA E))) Q) := by
  unfold b_X5_reachUnderDeep_10
  exact lk_aln B dX5_reachUnderDeep_10 rfl (lk_gf (T := TX5) B cl_X5 (by decide) in_X5 zw_109 dX5_reachUnderDeep_11 (lk_iln B dX5_reachUnderDeep_14 rfl (lk_zald B dX5_reachUnderDeep_15 (lk_zeq B dX5_reachUnderDeep_16 (by decide) (k_X5_reachUnderDeep_30 hd1 B hr hlk) (k_X5_reachUnderDeep_19 hd1 B hr hlk)))))
set_option maxRecDepth 20000 in
theorem k_X5_reachUnderDeep_2 {p : Program} {l : Launch} {e : Env} {s : State} {m : MethodId} {args : Array Value} {below : List Frame} {meth : Method} {c : Code} {E : zE} {d : Nat} {Q : zQ} (hd1 : 1 ≤ d) (B : zB p s m args c E mX5_reachUnderDeep.1.cls mX5_reachUnderDeep.2.1 mX5_reachUnderDeep.2.2.1) (hr : meth.sig.returnType = mX5_reachUnderDeep.2.2.2) (hlk : meth.locks = false) : zLk (zG p l e (zrm d) s m args below meth c E mX5_reachUnderDeep.2.2.1 0 0 (MQ below (zQc E Q) args s 0 0 (zaA E))) 2 (b_X5_reachUnderDeep_2 d (zG p l e (zrm d) s m args below meth c E mX5_reachUnderDeep.2.2.1 0 0 (MQ below (zQc E Q) args s 0 0 (zaA E))) Q) := by
  unfold b_X5_reachUnderDeep_2
  exact lk_iln B dX5_reachUnderDeep_2 rfl (lk_aln B dX5_reachUnderDeep_3 rfl (lk_gf (T := TX5) B cl_X5 (by decide) in_X5 zw_110 dX5_reachUnderDeep_4 (lk_ige B dX5_reachUnderDeep_7 (by decide) (k_X5_reachUnderDeep_36 hd1 B hr hlk) (k_X5_reachUnderDeep_10 hd1 B hr hlk))))
def S_X5_reachUnderDeep (d : Nat) (G : Nat → zK) (Q : zQ) : Prop := zLk G 0 (b_X5_reachUnderDeep_0 d G Q) ∧ zLk G 2 (b_X5_reachUnderDeep_2 d G Q)
theorem s_X5_reachUnderDeep_0 {d : Nat} {G : Nat → zK} {Q : zQ} (h : S_X5_reachUnderDeep d G Q) {ls st : List zV} {μ : zM} (k : b_X5_reachUnderDeep_0 d G Q ls st μ) : G 0 ls st μ := h.1 ls st μ k
theorem s_X5_reachUnderDeep_2 {d : Nat} {G : Nat → zK} {Q : zQ} (h : S_X5_reachUnderDeep d G Q) {ls st : List zV} {μ : zM} (k : b_X5_reachUnderDeep_2 d G Q ls st μ) : G 2 ls st μ := h.2 ls st μ k
theorem of_X5_reachUnderDeep {d : Nat} {a0 a1 a2 : zV} {μ : zM} {Q : zQ} (hd1 : 1 ≤ d) (h : ∀ G : Nat → zK, S_X5_reachUnderDeep d G Q → G 0 [a0, a1, a2, .inr none] [] μ) : zCt d mX5_reachUnderDeep [a0, a1, a2] μ Q := zCt.mk (by decide) (Nat.le_of_ble_eq_true rfl) (fun p l e s m args below meth c E B hr hlk => h _ ⟨k_X5_reachUnderDeep_0 hd1 B hr hlk, k_X5_reachUnderDeep_2 hd1 B hr hlk⟩)
theorem dX5_reachPinned_0 : decode cX5_reachPinned 0 = .ok (.iconst 0, 1) := by decide +kernel
theorem dX5_reachPinned_1 : decode cX5_reachPinned 1 = .ok (.istore_n 3, 1) := by decide +kernel
theorem dX5_reachPinned_2 : decode cX5_reachPinned 2 = .ok (.iload_n 3, 1) := by decide +kernel
theorem dX5_reachPinned_3 : decode cX5_reachPinned 3 = .ok (.aload_n 0, 1) := by decide +kernel
theorem dX5_reachPinned_4 : decode cX5_reachPinned 4 = .ok (.getfield 19, 3) := by decide +kernel
theorem dX5_reachPinned_7 : decode cX5_reachPinned 7 = .ok (.if_icmp .ge 23, 3) := by decide +kernel
theorem dX5_reachPinned_10 : decode cX5_reachPinned 10 = .ok (.aload_n 2, 1) := by decide +kernel
theorem dX5_reachPinned_11 : decode cX5_reachPinned 11 = .ok (.aload_n 1, 1) := by decide +kernel
theorem dX5_reachPinned_12 : decode cX5_reachPinned 12 = .ok (.aload_n 0, 1) := by decide +kernel
theorem dX5_reachPinned_13 : decode cX5_reachPinned 13 = .ok (.getfield 11, 3) := by decide +kernel
theorem dX5_reachPinned_16 : decode cX5_reachPinned 16 = .ok (.iload_n 3, 1) := by decide +kernel
theorem dX5_reachPinned_17 : decode cX5_reachPinned 17 = .ok (.iaload, 1) := by decide +kernel
theorem dX5_reachPinned_18 : decode cX5_reachPinned 18 = .ok (.invokevirtual 33, 3) := by decide +kernel
theorem dX5_reachPinned_21 : decode cX5_reachPinned 21 = .ok (.invokevirtual 39, 3) := by decide +kernel
theorem dX5_reachPinned_24 : decode cX5_reachPinned 24 = .ok (.iinc 3 1, 3) := by decide +kernel
theorem dX5_reachPinned_27 : decode cX5_reachPinned 27 = .ok (.goto (-25), 3) := by decide +kernel
theorem dX5_reachPinned_30 : decode cX5_reachPinned 30 = .ok (.return_, 1) := by decide +kernel
def b_X5_reachPinned_0 (d : Nat) (G : Nat → zK) (Q : zQ) : zK := o_c 0 <| o_is 3 <| G 2
def b_X5_reachPinned_30 (d : Nat) (G : Nat → zK) (Q : zQ) : zK := t_vret Q
def b_X5_reachPinned_10 (d : Nat) (G : Nat → zK) (Q : zQ) : zK := o_al 2 <| o_al 1 <| o_al 0 <| o_gf 3 0 <| o_il 3 <| o_iald <| o_callv (zCt (d - 1) mX6_slotOf) 4 2 <| o_callv (zCt (d - 1) mX9_reachSlot) 7 2 <| o_inc 3 1 <| G 2
def b_X5_reachPinned_2 (d : Nat) (G : Nat → zK) (Q : zQ) : zK := o_il 3 <| o_al 0 <| o_gf 3 2 <| t_ilt (b_X5_reachPinned_10 d G Q) (b_X5_reachPinned_30 d G Q)
set_option maxRecDepth 20000 in
theorem k_X5_reachPinned_0 {p : Program} {l : Launch} {e : Env} {s : State} {m : MethodId} {args : Array Value} {below : List Frame} {meth : Method} {c : Code} {E : zE} {d : Nat} {Q : zQ} (hd1 : 1 ≤ d) (B : zB p s m args c E mX5_reachPinned.1.cls mX5_reachPinned.2.1 mX5_reachPinned.2.2.1) (hr : meth.sig.returnType = mX5_reachPinned.2.2.2) (hlk : meth.locks = false) : zLk (zG p l e (zrm d) s m args below meth c E mX5_reachPinned.2.2.1 0 0 (MQ below (zQc E Q) args s 0 0 (zaA E))) 0 (b_X5_reachPinned_0 d (zG p l e (zrm d) s m args below meth c E mX5_reachPinned.2.2.1 0 0 (MQ below (zQc E Q) args s 0 0 (zaA E))) Q) := by
  unfold b_X5_reachPinned_0
  exact lk_c B dX5_reachPinned_0 (lk_isn B dX5_reachPinned_1 rfl (by decide) (fun _ _ _ h => h))
set_option maxRecDepth 20000 in
theorem k_X5_reachPinned_30 {p : Program} {l : Launch} {e : Env} {s : State} {m : MethodId} {args : Array Value} {below : List Frame} {meth : Method} {c : Code} {E : zE} {d : Nat} {Q : zQ} (hd1 : 1 ≤ d) (B : zB p s m args c E mX5_reachPinned.1.cls mX5_reachPinned.2.1 mX5_reachPinned.2.2.1) (hr : meth.sig.returnType = mX5_reachPinned.2.2.2) (hlk : meth.locks = false) : zLk (zG p l e (zrm d) s m args below meth c E mX5_reachPinned.2.2.1 0 0 (MQ below (zQc E Q) args s 0 0 (zaA E))) 30 (b_X5_reachPinned_30 d (zG p l e (zrm d) s m args below meth c E mX5_reachPinned.2.2.1 0 0 (MQ below (zQc E Q) args s 0 0 (zaA E))) Q) := by
  unfold b_X5_reachPinned_30
  exact lk_vret B hr hlk dX5_reachPinned_30
set_option maxRecDepth 20000 in
theorem k_X5_reachPinned_10 {p : Program} {l : Launch} {e : Env} {s : State} {m : MethodId} {args : Array Value} {below : List Frame} {meth : Method} {c : Code} {E : zE} {d : Nat} {Q : zQ} (hd1 : 1 ≤ d) (B : zB p s m args c E mX5_reachPinned.1.cls mX5_reachPinned.2.1 mX5_reachPinned.2.2.1) (hr : meth.sig.returnType = mX5_reachPinned.2.2.2) (hlk : meth.locks = false) : zLk (zG p l e (zrm d) s m args below meth c E mX5_reachPinned.2.2.1 0 0 (MQ below (zQc E Q) args s 0 0 (zaA E))) 10 (b_X5_reachPinned_10 d (zG p l e (zrm d) s m args below meth c E mX5_reachPinned.2.2.1 0 0 (MQ below (zQc E Q) args s 0 0 (zaA E))) Q) := by
  unfold b_X5_reachPinned_10
  exact lk_aln B dX5_reachPinned_10 rfl (lk_aln B dX5_reachPinned_11 rfl (lk_aln B dX5_reachPinned_12 rfl (lk_gf (T := TX5) B cl_X5 (by decide) in_X5 zw_108 dX5_reachPinned_13 (lk_iln B dX5_reachPinned_16 rfl (lk_iald B dX5_reachPinned_17 (lk_callv (M := mX6_slotOf) (T := TX6) (N := 5) B (zhR hd1 (by decide)) ⟨Nat.zero_le _, Nat.zero_le _⟩ cl_X6 (zw5 zw_310 zw_628 zw_308 zw_309 zw_51) (by decide +kernel) dX5_reachPinned_18 (lk_callv (M := mX9_reachSlot) (T := TX9) (N := 5) B (zhR hd1 (by decide)) ⟨Nat.zero_le _, Nat.zero_le _⟩ cl_X9 (zw5 zw_454 zw_629 zw_452 zw_453 zw_57) (by decide +kernel) dX5_reachPinned_21 (lk_inc B dX5_reachPinned_24 (by decide) (lk_goto B dX5_reachPinned_27 (by decide) (fun _ _ _ h => h))))))))))
set_option maxRecDepth 20000 in
theorem k_X5_reachPinned_2 {p : Program} {l : Launch} {e : Env} {s : State} {m : MethodId} {args : Array Value} {below : List Frame} {meth : Method} {c : Code} {E : zE} {d : Nat} {Q : zQ} (hd1 : 1 ≤ d) (B : zB p s m args c E mX5_reachPinned.1.cls mX5_reachPinned.2.1 mX5_reachPinned.2.2.1) (hr : meth.sig.returnType = mX5_reachPinned.2.2.2) (hlk : meth.locks = false) : zLk (zG p l e (zrm d) s m args below meth c E mX5_reachPinned.2.2.1 0 0 (MQ below (zQc E Q) args s 0 0 (zaA E))) 2 (b_X5_reachPinned_2 d (zG p l e (zrm d) s m args below meth c E mX5_reachPinned.2.2.1 0 0 (MQ below (zQc E Q) args s 0 0 (zaA E))) Q) := by
  unfold b_X5_reachPinned_2
  exact lk_iln B dX5_reachPinned_2 rfl (lk_aln B dX5_reachPinned_3 rfl (lk_gf (T := TX5) B cl_X5 (by decide) in_X5 zw_110 dX5_reachPinned_4 (lk_ige B dX5_reachPinned_7 (by decide) (k_X5_reachPinned_30 hd1 B hr hlk) (k_X5_reachPinned_10 hd1 B hr hlk))))
def S_X5_reachPinned (d : Nat) (G : Nat → zK) (Q : zQ) : Prop := zLk G 0 (b_X5_reachPinned_0 d G Q) ∧ zLk G 2 (b_X5_reachPinned_2 d G Q)
theorem s_X5_reachPinned_0 {d : Nat} {G : Nat → zK} {Q : zQ} (h : S_X5_reachPinned d G Q) {ls st : List zV} {μ : zM} (k : b_X5_reachPinned_0 d G Q ls st μ) : G 0 ls st μ := h.1 ls st μ k
theorem s_X5_reachPinned_2 {d : Nat} {G : Nat → zK} {Q : zQ} (h : S_X5_reachPinned d G Q) {ls st : List zV} {μ : zM} (k : b_X5_reachPinned_2 d G Q ls st μ) : G 2 ls st μ := h.2 ls st μ k
theorem of_X5_reachPinned {d : Nat} {a0 a1 a2 : zV} {μ : zM} {Q : zQ} (hd1 : 1 ≤ d) (h : ∀ G : Nat → zK, S_X5_reachPinned d G Q → G 0 [a0, a1, a2, .inr none] [] μ) : zCt d mX5_reachPinned [a0, a1, a2] μ Q := zCt.mk (by decide) (Nat.le_of_ble_eq_true rfl) (fun p l e s m args below meth c E B hr hlk => h _ ⟨k_X5_reachPinned_0 hd1 B hr hlk, k_X5_reachPinned_2 hd1 B hr hlk⟩)
