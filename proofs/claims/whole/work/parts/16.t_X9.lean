theorem dX9_restart_0 : decode cX9_restart 0 = .ok (.iconst 0, 1) := by decide +kernel
theorem dX9_restart_1 : decode cX9_restart 1 = .ok (.istore_n 1, 1) := by decide +kernel
theorem dX9_restart_2 : decode cX9_restart 2 = .ok (.iload_n 1, 1) := by decide +kernel
theorem dX9_restart_3 : decode cX9_restart 3 = .ok (.bipush 64, 2) := by decide +kernel
theorem dX9_restart_5 : decode cX9_restart 5 = .ok (.if_icmp .ge 16, 3) := by decide +kernel
theorem dX9_restart_8 : decode cX9_restart 8 = .ok (.aload_n 0, 1) := by decide +kernel
theorem dX9_restart_9 : decode cX9_restart 9 = .ok (.getfield 11, 3) := by decide +kernel
theorem dX9_restart_12 : decode cX9_restart 12 = .ok (.iload_n 1, 1) := by decide +kernel
theorem dX9_restart_13 : decode cX9_restart 13 = .ok (.iconst 0, 1) := by decide +kernel
theorem dX9_restart_14 : decode cX9_restart 14 = .ok (.bastore, 1) := by decide +kernel
theorem dX9_restart_15 : decode cX9_restart 15 = .ok (.iinc 1 1, 3) := by decide +kernel
theorem dX9_restart_18 : decode cX9_restart 18 = .ok (.goto (-16), 3) := by decide +kernel
theorem dX9_restart_21 : decode cX9_restart 21 = .ok (.aload_n 0, 1) := by decide +kernel
theorem dX9_restart_22 : decode cX9_restart 22 = .ok (.iconst 0, 1) := by decide +kernel
theorem dX9_restart_23 : decode cX9_restart 23 = .ok (.putfield 21, 3) := by decide +kernel
theorem dX9_restart_26 : decode cX9_restart 26 = .ok (.return_, 1) := by decide +kernel
def b_X9_restart_0 (d : Nat) (G : Nat → zK) (Q : zQ) : zK := o_c 0 <| o_is 1 <| G 2
def b_X9_restart_21 (d : Nat) (G : Nat → zK) (Q : zQ) : zK := o_al 0 <| o_c 0 <| o_pf 7 2 <| t_vret Q
def b_X9_restart_8 (d : Nat) (G : Nat → zK) (Q : zQ) : zK := o_al 0 <| o_gf 7 0 <| o_il 1 <| o_c 0 <| o_zast <| o_inc 1 1 <| G 2
def b_X9_restart_2 (d : Nat) (G : Nat → zK) (Q : zQ) : zK := o_il 1 <| o_c 64 <| t_ilt (b_X9_restart_8 d G Q) (b_X9_restart_21 d G Q)
set_option maxRecDepth 20000 in
theorem k_X9_restart_0 {p : Program} {l : Launch} {e : Env} {s : State} {m : MethodId} {args : Array Value} {below : List Frame} {meth : Method} {c : Code} {E : zE} {d : Nat} {Q : zQ} (B : zB p s m args c E mX9_restart.1.cls mX9_restart.2.1 mX9_restart.2.2.1) (hr : meth.sig.returnType = mX9_restart.2.2.2) (hlk : meth.locks = false) : zLk (zG p l e (zrm d) s m args below meth c E mX9_restart.2.2.1 0 0 (MQ below (zQc E Q) args s 0 0 (zaA E))) 0 (b_X9_restart_0 d (zG p l e (zrm d) s m args below meth c E mX9_restart.2.2.1 0 0 (MQ below (zQc E Q) args s 0 0 (zaA E))) Q) := by
  unfold b_X9_restart_0
  exact lk_c B dX9_restart_0 (lk_isn B dX9_restart_1 rfl (by decide) (fun _ _ _ h => h))
set_option maxRecDepth 20000 in
theorem k_X9_restart_21 {p : Program} {l : Launch} {e : Env} {s : State} {m : MethodId} {args : Array Value} {below : List Frame} {meth : Method} {c : Code} {E : zE} {d : Nat} {Q : zQ} (B : zB p s m args c E mX9_restart.1.cls mX9_restart.2.1 mX9_restart.2.2.1) (hr : meth.sig.returnType = mX9_restart.2.2.2) (hlk : meth.locks = false) : zLk (zG p l e (zrm d) s m args below meth c E mX9_restart.2.2.1 0 0 (MQ below (zQc E Q) args s 0 0 (zaA E))) 21 (b_X9_restart_21 d (zG p l e (zrm d) s m args below meth c E mX9_restart.2.2.1 0 0 (MQ below (zQc E Q) args s 0 0 (zaA E))) Q) := by
  unfold b_X9_restart_21
  exact lk_aln B dX9_restart_21 rfl (lk_c B dX9_restart_22 (lk_pf (T := TX9) B cl_X9 (by decide) in_X9 tyX9_ok nmX9 zw_220 rfl (by decide +kernel) dX9_restart_23 (lk_vret B hr hlk dX9_restart_26)))
set_option maxRecDepth 20000 in
theorem k_X9_restart_8 {p : Program} {l : Launch} {e : Env} {s : State} {m : MethodId} {args : Array Value} {below : List Frame} {meth : Method} {c : Code} {E : zE} {d : Nat} {Q : zQ} (B : zB p s m args c E mX9_restart.1.cls mX9_restart.2.1 mX9_restart.2.2.1) (hr : meth.sig.returnType = mX9_restart.2.2.2) (hlk : meth.locks = false) : zLk (zG p l e (zrm d) s m args below meth c E mX9_restart.2.2.1 0 0 (MQ below (zQc E Q) args s 0 0 (zaA E))) 8 (b_X9_restart_8 d (zG p l e (zrm d) s m args below meth c E mX9_restart.2.2.1 0 0 (MQ below (zQc E Q) args s 0 0 (zaA E))) Q) := by
  unfold b_X9_restart_8
  exact lk_aln B dX9_restart_8 rfl (lk_gf (T := TX9) B cl_X9 (by decide) in_X9 zw_218 dX9_restart_9 (lk_iln B dX9_restart_12 rfl (lk_c B dX9_restart_13 (lk_zast B dX9_restart_14 (lk_inc B dX9_restart_15 (by decide) (lk_goto B dX9_restart_18 (by decide) (fun _ _ _ h => h)))))))
set_option maxRecDepth 20000 in
theorem k_X9_restart_2 {p : Program} {l : Launch} {e : Env} {s : State} {m : MethodId} {args : Array Value} {below : List Frame} {meth : Method} {c : Code} {E : zE} {d : Nat} {Q : zQ} (B : zB p s m args c E mX9_restart.1.cls mX9_restart.2.1 mX9_restart.2.2.1) (hr : meth.sig.returnType = mX9_restart.2.2.2) (hlk : meth.locks = false) : zLk (zG p l e (zrm d) s m args below meth c E mX9_restart.2.2.1 0 0 (MQ below (zQc E Q) args s 0 0 (zaA E))) 2 (b_X9_restart_2 d (zG p l e (zrm d) s m args below meth c E mX9_restart.2.2.1 0 0 (MQ below (zQc E Q) args s 0 0 (zaA E))) Q) := by
  unfold b_X9_restart_2
  exact lk_iln B dX9_restart_2 rfl (lk_b B dX9_restart_3 rfl (lk_ige B dX9_restart_5 (by decide) (k_X9_restart_21 B hr hlk) (k_X9_restart_8 B hr hlk)))
def S_X9_restart (d : Nat) (G : Nat → zK) (Q : zQ) : Prop := zLk G 0 (b_X9_restart_0 d G Q) ∧ zLk G 2 (b_X9_restart_2 d G Q)
theorem s_X9_restart_0 {d : Nat} {G : Nat → zK} {Q : zQ} (h : S_X9_restart d G Q) {ls st : List zV} {μ : zM} (k : b_X9_restart_0 d G Q ls st μ) : G 0 ls st μ := h.1 ls st μ k
theorem s_X9_restart_2 {d : Nat} {G : Nat → zK} {Q : zQ} (h : S_X9_restart d G Q) {ls st : List zV} {μ : zM} (k : b_X9_restart_2 d G Q ls st μ) : G 2 ls st μ := h.2 ls st μ k
theorem of_X9_restart {d : Nat} {a0 : zV} {μ : zM} {Q : zQ} (h : ∀ G : Nat → zK, S_X9_restart d G Q → G 0 [a0, .inr none] [] μ) : zCt d mX9_restart [a0] μ Q := zCt.mk (by decide) (Nat.le_of_ble_eq_true rfl) (fun p l e s m args below meth c E B hr hlk => h _ ⟨k_X9_restart_0 B hr hlk, k_X9_restart_2 B hr hlk⟩)
theorem dX9_missingCount_0 : decode cX9_missingCount 0 = .ok (.aload_n 0, 1) := by decide +kernel
theorem dX9_missingCount_1 : decode cX9_missingCount 1 = .ok (.getfield 21, 3) := by decide +kernel
theorem dX9_missingCount_4 : decode cX9_missingCount 4 = .ok (.ireturn, 1) := by decide +kernel
def b_X9_missingCount_0 (d : Nat) (G : Nat → zK) (Q : zQ) : zK := o_al 0 <| o_gf 7 2 <| t_iret Q
set_option maxRecDepth 20000 in
theorem k_X9_missingCount_0 {p : Program} {l : Launch} {e : Env} {s : State} {m : MethodId} {args : Array Value} {below : List Frame} {meth : Method} {c : Code} {E : zE} {d : Nat} {Q : zQ} (B : zB p s m args c E mX9_missingCount.1.cls mX9_missingCount.2.1 mX9_missingCount.2.2.1) (hr : meth.sig.returnType = mX9_missingCount.2.2.2) (hlk : meth.locks = false) : zLk (zG p l e (zrm d) s m args below meth c E mX9_missingCount.2.2.1 0 0 (MQ below (zQc E Q) args s 0 0 (zaA E))) 0 (b_X9_missingCount_0 d (zG p l e (zrm d) s m args below meth c E mX9_missingCount.2.2.1 0 0 (MQ below (zQc E Q) args s 0 0 (zaA E))) Q) := by
  unfold b_X9_missingCount_0
  exact lk_aln B dX9_missingCount_0 rfl (lk_gf (T := TX9) B cl_X9 (by decide) in_X9 zw_220 dX9_missingCount_1 (lk_iret B hr hlk dX9_missingCount_4))
def S_X9_missingCount (d : Nat) (G : Nat → zK) (Q : zQ) : Prop := zLk G 0 (b_X9_missingCount_0 d G Q)
theorem s_X9_missingCount_0 {d : Nat} {G : Nat → zK} {Q : zQ} (h : S_X9_missingCount d G Q) {ls st : List zV} {μ : zM} (k : b_X9_missingCount_0 d G Q ls st μ) : G 0 ls st μ := h ls st μ k
theorem of_X9_missingCount {d : Nat} {a0 : zV} {μ : zM} {Q : zQ} (h : ∀ G : Nat → zK, S_X9_missingCount d G Q → G 0 [a0] [] μ) : zCt d mX9_missingCount [a0] μ Q := zCt.mk (by decide) (Nat.le_of_ble_eq_true rfl) (fun p l e s m args below meth c E B hr hlk => h _ (k_X9_missingCount_0 B hr hlk))
theorem dX9_missingAt_0 : decode cX9_missingAt 0 = .ok (.iload_n 1, 1) := by decide +kernel
theorem dX9_missingAt_1 : decode cX9_missingAt 1 = .ok (.ifCond .lt 20, 3) := by decide +kernel
theorem dX9_missingAt_4 : decode cX9_missingAt 4 = .ok (.iload_n 1, 1) := by decide +kernel
theorem dX9_missingAt_5 : decode cX9_missingAt 5 = .ok (.aload_n 0, 1) := by decide +kernel
theorem dX9_missingAt_6 : decode cX9_missingAt 6 = .ok (.getfield 21, 3) := by decide +kernel
theorem dX9_missingAt_9 : decode cX9_missingAt 9 = .ok (.if_icmp .ge 12, 3) := by decide +kernel
theorem dX9_missingAt_12 : decode cX9_missingAt 12 = .ok (.aload_n 0, 1) := by decide +kernel
theorem dX9_missingAt_13 : decode cX9_missingAt 13 = .ok (.getfield 17, 3) := by decide +kernel
theorem dX9_missingAt_16 : decode cX9_missingAt 16 = .ok (.iload_n 1, 1) := by decide +kernel
theorem dX9_missingAt_17 : decode cX9_missingAt 17 = .ok (.iaload, 1) := by decide +kernel
theorem dX9_missingAt_18 : decode cX9_missingAt 18 = .ok (.goto 4, 3) := by decide +kernel
theorem dX9_missingAt_21 : decode cX9_missingAt 21 = .ok (.iconst (-1), 1) := by decide +kernel
theorem dX9_missingAt_22 : decode cX9_missingAt 22 = .ok (.ireturn, 1) := by decide +kernel
def b_X9_missingAt_22 (d : Nat) (G : Nat → zK) (Q : zQ) : zK := t_iret Q
def b_X9_missingAt_21 (d : Nat) (G : Nat → zK) (Q : zQ) : zK := o_c (-1) <| b_X9_missingAt_22 d G Q
def b_X9_missingAt_12 (d : Nat) (G : Nat → zK) (Q : zQ) : zK := o_al 0 <| o_gf 7 1 <| o_il 1 <| o_iald <| b_X9_missingAt_22 d G Q
def b_X9_missingAt_4 (d : Nat) (G : Nat → zK) (Q : zQ) : zK := o_il 1 <| o_al 0 <| o_gf 7 2 <| t_ilt (b_X9_missingAt_12 d G Q) (b_X9_missingAt_21 d G Q)
def b_X9_missingAt_0 (d : Nat) (G : Nat → zK) (Q : zQ) : zK := o_il 1 <| t_zlt (b_X9_missingAt_21 d G Q) (b_X9_missingAt_4 d G Q)
set_option maxRecDepth 20000 in
theorem k_X9_missingAt_22 {p : Program} {l : Launch} {e : Env} {s : State} {m : MethodId} {args : Array Value} {below : List Frame} {meth : Method} {c : Code} {E : zE} {d : Nat} {Q : zQ} (B : zB p s m args c E mX9_missingAt.1.cls mX9_missingAt.2.1 mX9_missingAt.2.2.1) (hr : meth.sig.returnType = mX9_missingAt.2.2.2) (hlk : meth.locks = false) : zLk (zG p l e (zrm d) s m args below meth c E mX9_missingAt.2.2.1 0 0 (MQ below (zQc E Q) args s 0 0 (zaA E))) 22 (b_X9_missingAt_22 d (zG p l e (zrm d) s m args below meth c E mX9_missingAt.2.2.1 0 0 (MQ below (zQc E Q) args s 0 0 (zaA E))) Q) := by
  unfold b_X9_missingAt_22
  exact lk_iret B hr hlk dX9_missingAt_22
set_option maxRecDepth 20000 in
theorem k_X9_missingAt_21 {p : Program} {l : Launch} {e : Env} {s : State} {m : MethodId} {args : Array Value} {below : List Frame} {meth : Method} {c : Code} {E : zE} {d : Nat} {Q : zQ} (B : zB p s m args c E mX9_missingAt.1.cls mX9_missingAt.2.1 mX9_missingAt.2.2.1) (hr : meth.sig.returnType = mX9_missingAt.2.2.2) (hlk : meth.locks = false) : zLk (zG p l e (zrm d) s m args below meth c E mX9_missingAt.2.2.1 0 0 (MQ below (zQc E Q) args s 0 0 (zaA E))) 21 (b_X9_missingAt_21 d (zG p l e (zrm d) s m args below meth c E mX9_missingAt.2.2.1 0 0 (MQ below (zQc E Q) args s 0 0 (zaA E))) Q) := by
  unfold b_X9_missingAt_21
  exact lk_c B dX9_missingAt_21 (k_X9_missingAt_22 B hr hlk)
set_option maxRecDepth 20000 in
theorem k_X9_missingAt_12 {p : Program} {l : Launch} {e : Env} {s : State} {m : MethodId} {args : Array Value} {below : List Frame} {meth : Method} {c : Code} {E : zE} {d : Nat} {Q : zQ} (B : zB p s m args c E mX9_missingAt.1.cls mX9_missingAt.2.1 mX9_missingAt.2.2.1) (hr : meth.sig.returnType = mX9_missingAt.2.2.2) (hlk : meth.locks = false) : zLk (zG p l e (zrm d) s m args below meth c E mX9_missingAt.2.2.1 0 0 (MQ below (zQc E Q) args s 0 0 (zaA E))) 12 (b_X9_missingAt_12 d (zG p l e (zrm d) s m args below meth c E mX9_missingAt.2.2.1 0 0 (MQ below (zQc E Q) args s 0 0 (zaA E))) Q) := by
  unfold b_X9_missingAt_12
  exact lk_aln B dX9_missingAt_12 rfl (lk_gf (T := TX9) B cl_X9 (by decide) in_X9 zw_219 dX9_missingAt_13 (lk_iln B dX9_missingAt_16 rfl (lk_iald B dX9_missingAt_17 (lk_goto B dX9_missingAt_18 (by decide) (k_X9_missingAt_22 B hr hlk)))))
set_option maxRecDepth 20000 in
theorem k_X9_missingAt_4 {p : Program} {l : Launch} {e : Env} {s : State} {m : MethodId} {args : Array Value} {below : List Frame} {meth : Method} {c : Code} {E : zE} {d : Nat} {Q : zQ} (B : zB p s m args c E mX9_missingAt.1.cls mX9_missingAt.2.1 mX9_missingAt.2.2.1) (hr : meth.sig.returnType = mX9_missingAt.2.2.2) (hlk : meth.locks = false) : zLk (zG p l e (zrm d) s m args below meth c E mX9_missingAt.2.2.1 0 0 (MQ below (zQc E Q) args s 0 0 (zaA E))) 4 (b_X9_missingAt_4 d (zG p l e (zrm d) s m args below meth c E mX9_missingAt.2.2.1 0 0 (MQ below (zQc E Q) args s 0 0 (zaA E))) Q) := by
  unfold b_X9_missingAt_4
  exact lk_iln B dX9_missingAt_4 rfl (lk_aln B dX9_missingAt_5 rfl (lk_gf (T := TX9) B cl_X9 (by decide) in_X9 zw_220 dX9_missingAt_6 (lk_ige B dX9_missingAt_9 (by decide) (k_X9_missingAt_21 B hr hlk) (k_X9_missingAt_12 B hr hlk))))
set_option maxRecDepth 20000 in
theorem k_X9_missingAt_0 {p : Program} {l : Launch} {e : Env} {s : State} {m : MethodId} {args : Array Value} {below : List Frame} {meth : Method} {c : Code} {E : zE} {d : Nat} {Q : zQ} (B : zB p s m args c E mX9_missingAt.1.cls mX9_missingAt.2.1 mX9_missingAt.2.2.1) (hr : meth.sig.returnType = mX9_missingAt.2.2.2) (hlk : meth.locks = false) : zLk (zG p l e (zrm d) s m args below meth c E mX9_missingAt.2.2.1 0 0 (MQ below (zQc E Q) args s 0 0 (zaA E))) 0 (b_X9_missingAt_0 d (zG p l e (zrm d) s m args below meth c E mX9_missingAt.2.2.1 0 0 (MQ below (zQc E Q) args s 0 0 (zaA E))) Q) := by
  unfold b_X9_missingAt_0
  exact lk_iln B dX9_missingAt_0 rfl (lk_zlt B dX9_missingAt_1 (by decide) (k_X9_missingAt_21 B hr hlk) (k_X9_missingAt_4 B hr hlk))
def S_X9_missingAt (d : Nat) (G : Nat → zK) (Q : zQ) : Prop := zLk G 0 (b_X9_missingAt_0 d G Q)
theorem s_X9_missingAt_0 {d : Nat} {G : Nat → zK} {Q : zQ} (h : S_X9_missingAt d G Q) {ls st : List zV} {μ : zM} (k : b_X9_missingAt_0 d G Q ls st μ) : G 0 ls st μ := h ls st μ k
theorem of_X9_missingAt {d : Nat} {a0 a1 : zV} {μ : zM} {Q : zQ} (h : ∀ G : Nat → zK, S_X9_missingAt d G Q → G 0 [a0, a1] [] μ) : zCt d mX9_missingAt [a0, a1] μ Q := zCt.mk (by decide) (Nat.le_of_ble_eq_true rfl) (fun p l e s m args below meth c E B hr hlk => h _ (k_X9_missingAt_0 B hr hlk))
theorem dX9_misses_0 : decode cX9_misses 0 = .ok (.iconst 0, 1) := by decide +kernel
theorem dX9_misses_1 : decode cX9_misses 1 = .ok (.istore_n 2, 1) := by decide +kernel
theorem dX9_misses_2 : decode cX9_misses 2 = .ok (.iload_n 2, 1) := by decide +kernel
theorem dX9_misses_3 : decode cX9_misses 3 = .ok (.aload_n 0, 1) := by decide +kernel
theorem dX9_misses_4 : decode cX9_misses 4 = .ok (.getfield 21, 3) := by decide +kernel
theorem dX9_misses_7 : decode cX9_misses 7 = .ok (.if_icmp .ge 21, 3) := by decide +kernel
theorem dX9_misses_10 : decode cX9_misses 10 = .ok (.aload_n 0, 1) := by decide +kernel
theorem dX9_misses_11 : decode cX9_misses 11 = .ok (.getfield 17, 3) := by decide +kernel
theorem dX9_misses_14 : decode cX9_misses 14 = .ok (.iload_n 2, 1) := by decide +kernel
theorem dX9_misses_15 : decode cX9_misses 15 = .ok (.iaload, 1) := by decide +kernel
theorem dX9_misses_16 : decode cX9_misses 16 = .ok (.iload_n 1, 1) := by decide +kernel
theorem dX9_misses_17 : decode cX9_misses 17 = .ok (.if_icmp .ne 5, 3) := by decide +kernel
theorem dX9_misses_20 : decode cX9_misses 20 = .ok (.iconst 1, 1) := by decide +kernel
theorem dX9_misses_21 : decode cX9_misses 21 = .ok (.ireturn, 1) := by decide +kernel
theorem dX9_misses_22 : decode cX9_misses 22 = .ok (.iinc 2 1, 3) := by decide +kernel
theorem dX9_misses_25 : decode cX9_misses 25 = .ok (.goto (-23), 3) := by decide +kernel
theorem dX9_misses_28 : decode cX9_misses 28 = .ok (.iconst 0, 1) := by decide +kernel
theorem dX9_misses_29 : decode cX9_misses 29 = .ok (.ireturn, 1) := by decide +kernel
def b_X9_misses_0 (d : Nat) (G : Nat → zK) (Q : zQ) : zK := o_c 0 <| o_is 2 <| G 2
def b_X9_misses_28 (d : Nat) (G : Nat → zK) (Q : zQ) : zK := o_c 0 <| t_zret Q
def b_X9_misses_22 (d : Nat) (G : Nat → zK) (Q : zQ) : zK := o_inc 2 1 <| G 2
def b_X9_misses_20 (d : Nat) (G : Nat → zK) (Q : zQ) : zK := o_c 1 <| t_zret Q
def b_X9_misses_10 (d : Nat) (G : Nat → zK) (Q : zQ) : zK := o_al 0 <| o_gf 7 1 <| o_il 2 <| o_iald <| o_il 1 <| t_ieq (b_X9_misses_20 d G Q) (b_X9_misses_22 d G Q)
def b_X9_misses_2 (d : Nat) (G : Nat → zK) (Q : zQ) : zK := o_il 2 <| o_al 0 <| o_gf 7 2 <| t_ilt (b_X9_misses_10 d G Q) (b_X9_misses_28 d G Q)
set_option maxRecDepth 20000 in
theorem k_X9_misses_0 {p : Program} {l : Launch} {e : Env} {s : State} {m : MethodId} {args : Array Value} {below : List Frame} {meth : Method} {c : Code} {E : zE} {d : Nat} {Q : zQ} (B : zB p s m args c E mX9_misses.1.cls mX9_misses.2.1 mX9_misses.2.2.1) (hr : meth.sig.returnType = mX9_misses.2.2.2) (hlk : meth.locks = false) : zLk (zG p l e (zrm d) s m args below meth c E mX9_misses.2.2.1 0 0 (MQ below (zQc E Q) args s 0 0 (zaA E))) 0 (b_X9_misses_0 d (zG p l e (zrm d) s m args below meth c E mX9_misses.2.2.1 0 0 (MQ below (zQc E Q) args s 0 0 (zaA E))) Q) := by
  unfold b_X9_misses_0
  exact lk_c B dX9_misses_0 (lk_isn B dX9_misses_1 rfl (by decide) (fun _ _ _ h => h))
set_option maxRecDepth 20000 in
theorem k_X9_misses_28 {p : Program} {l : Launch} {e : Env} {s : State} {m : MethodId} {args : Array Value} {below : List Frame} {meth : Method} {c : Code} {E : zE} {d : Nat} {Q : zQ} (B : zB p s m args c E mX9_misses.1.cls mX9_misses.2.1 mX9_misses.2.2.1) (hr : meth.sig.returnType = mX9_misses.2.2.2) (hlk : meth.locks = false) : zLk (zG p l e (zrm d) s m args below meth c E mX9_misses.2.2.1 0 0 (MQ below (zQc E Q) args s 0 0 (zaA E))) 28 (b_X9_misses_28 d (zG p l e (zrm d) s m args below meth c E mX9_misses.2.2.1 0 0 (MQ below (zQc E Q) args s 0 0 (zaA E))) Q) := by
  unfold b_X9_misses_28
  exact lk_c B dX9_misses_28 (lk_zret B hr hlk dX9_misses_29)
set_option maxRecDepth 20000 in
theorem k_X9_misses_22 {p : Program} {l : Launch} {e : Env} {s : State} {m : MethodId} {args : Array Value} {below : List Frame} {meth : Method} {c : Code} {E : zE} {d : Nat} {Q : zQ} (B : zB p s m args c E mX9_misses.1.cls mX9_misses.2.1 mX9_misses.2.2.1) (hr : meth.sig.returnType = mX9_misses.2.2.2) (hlk : meth.locks = false) : zLk (zG p l e (zrm d) s m args below meth c E mX9_misses.2.2.1 0 0 (MQ below (zQc E Q) args s 0 0 (zaA E))) 22 (b_X9_misses_22 d (zG p l e (zrm d) s m args below meth c E mX9_misses.2.2.1 0 0 (MQ below (zQc E Q) args s 0 0 (zaA E))) Q) := by
  unfold b_X9_misses_22
  exact lk_inc B dX9_misses_22 (by decide) (lk_goto B dX9_misses_25 (by decide) (fun _ _ _ h => h))
set_option maxRecDepth 20000 in
theorem k_X9_misses_20 {p : Program} {l : Launch} {e : Env} {s : State} {m : MethodId} {args : Array Value} {below : List Frame} {meth : Method} {c : Code} {E : zE} {d : Nat} {Q : zQ} (B : zB p s m args c E mX9_misses.1.cls mX9_misses.2.1 mX9_misses.2.2.1) (hr : meth.sig.returnType = mX9_misses.2.2.2) (hlk : meth.locks = false) : zLk (zG p l e (zrm d) s m args below meth c E mX9_misses.2.2.1 0 0 (MQ below (zQc E Q) args s 0 0 (zaA E))) 20 (b_X9_misses_20 d (zG p l e (zrm d) s m args below meth c E mX9_misses.2.2.1 0 0 (MQ below (zQc E Q) args s 0 0 (zaA E))) Q) := by
  unfold b_X9_misses_20
  exact lk_c B dX9_misses_20 (lk_zret B hr hlk dX9_misses_21)
set_option maxRecDepth 20000 in
theorem k_X9_misses_10 {p : Program} {l : Launch} {e : Env} {s : State} {m : MethodId} {args : Array Value} {below : List Frame} {meth : Method} {c : Code} {E : zE} {d : Nat} {Q : zQ} (B : zB p s m args c E mX9_misses.1.cls mX9_misses.2.1 mX9_misses.2.2.1) (hr : meth.sig.returnType = mX9_misses.2.2.2) (hlk : meth.locks = false) : zLk (zG p l e (zrm d) s m args below meth c E mX9_misses.2.2.1 0 0 (MQ below (zQc E Q) args s 0 0 (zaA E))) 10 (b_X9_misses_10 d (zG p l e (zrm d) s m args below meth c E mX9_misses.2.2.1 0 0 (MQ below (zQc E Q) args s 0 0 (zaA E))) Q) := by
  unfold b_X9_misses_10
  exact lk_aln B dX9_misses_10 rfl (lk_gf (T := TX9) B cl_X9 (by decide) in_X9 zw_219 dX9_misses_11 (lk_iln B dX9_misses_14 rfl (lk_iald B dX9_misses_15 (lk_iln B dX9_misses_16 rfl (lk_ine B dX9_misses_17 (by decide) (k_X9_misses_22 B hr hlk) (k_X9_misses_20 B hr hlk))))))
set_option maxRecDepth 20000 in
theorem k_X9_misses_2 {p : Program} {l : Launch} {e : Env} {s : State} {m : MethodId} {args : Array Value} {below : List Frame} {meth : Method} {c : Code} {E : zE} {d : Nat} {Q : zQ} (B : zB p s m args c E mX9_misses.1.cls mX9_misses.2.1 mX9_misses.2.2.1) (hr : meth.sig.returnType = mX9_misses.2.2.2) (hlk : meth.locks = false) : zLk (zG p l e (zrm d) s m args below meth c E mX9_misses.2.2.1 0 0 (MQ below (zQc E Q) args s 0 0 (zaA E))) 2 (b_X9_misses_2 d (zG p l e (zrm d) s m args below meth c E mX9_misses.2.2.1 0 0 (MQ below (zQc E Q) args s 0 0 (zaA E))) Q) := by
  unfold b_X9_misses_2
  exact lk_iln B dX9_misses_2 rfl (lk_aln B dX9_misses_3 rfl (lk_gf (T := TX9) B cl_X9 (by decide) in_X9 zw_220 dX9_misses_4 (lk_ige B dX9_misses_7 (by decide) (k_X9_misses_28 B hr hlk) (k_X9_misses_10 B hr hlk))))
def S_X9_misses (d : Nat) (G : Nat → zK) (Q : zQ) : Prop := zLk G 0 (b_X9_misses_0 d G Q) ∧ zLk G 2 (b_X9_misses_2 d G Q)
theorem s_X9_misses_0 {d : Nat} {G : Nat → zK} {Q : zQ} (h : S_X9_misses d G Q) {ls st : List zV} {μ : zM} (k : b_X9_misses_0 d G Q ls st μ) : G 0 ls st μ := h.1 ls st μ k
theorem s_X9_misses_2 {d : Nat} {G : Nat → zK} {Q : zQ} (h : S_X9_misses d G Q) {ls st : List zV} {μ : zM} (k : b_X9_misses_2 d G Q ls st μ) : G 2 ls st μ := h.2 ls st μ k
theorem of_X9_misses {d : Nat} {a0 a1 : zV} {μ : zM} {Q : zQ} (h : ∀ G : Nat → zK, S_X9_misses d G Q → G 0 [a0, a1, .inr none] [] μ) : zCt d mX9_misses [a0, a1] μ Q := zCt.mk (by decide) (Nat.le_of_ble_eq_true rfl) (fun p l e s m args below meth c E B hr hlk => h _ ⟨k_X9_misses_0 B hr hlk, k_X9_misses_2 B hr hlk⟩)
theorem dX9_hasReached_0 : decode cX9_hasReached 0 = .ok (.iload_n 1, 1) := by decide +kernel
theorem dX9_hasReached_1 : decode cX9_hasReached 1 = .ok (.ifCond .lt 22, 3) := by decide +kernel
theorem dX9_hasReached_4 : decode cX9_hasReached 4 = .ok (.iload_n 1, 1) := by decide +kernel
theorem dX9_hasReached_5 : decode cX9_hasReached 5 = .ok (.bipush 64, 2) := by decide +kernel
theorem dX9_hasReached_7 : decode cX9_hasReached 7 = .ok (.if_icmp .ge 16, 3) := by decide +kernel
theorem dX9_hasReached_10 : decode cX9_hasReached 10 = .ok (.aload_n 0, 1) := by decide +kernel
theorem dX9_hasReached_11 : decode cX9_hasReached 11 = .ok (.getfield 11, 3) := by decide +kernel
theorem dX9_hasReached_14 : decode cX9_hasReached 14 = .ok (.iload_n 1, 1) := by decide +kernel
theorem dX9_hasReached_15 : decode cX9_hasReached 15 = .ok (.baload, 1) := by decide +kernel
theorem dX9_hasReached_16 : decode cX9_hasReached 16 = .ok (.ifCond .eq 7, 3) := by decide +kernel
theorem dX9_hasReached_19 : decode cX9_hasReached 19 = .ok (.iconst 1, 1) := by decide +kernel
theorem dX9_hasReached_20 : decode cX9_hasReached 20 = .ok (.goto 4, 3) := by decide +kernel
theorem dX9_hasReached_23 : decode cX9_hasReached 23 = .ok (.iconst 0, 1) := by decide +kernel
theorem dX9_hasReached_24 : decode cX9_hasReached 24 = .ok (.ireturn, 1) := by decide +kernel
def b_X9_hasReached_24 (d : Nat) (G : Nat → zK) (Q : zQ) : zK := t_zret Q
def b_X9_hasReached_23 (d : Nat) (G : Nat → zK) (Q : zQ) : zK := o_c 0 <| b_X9_hasReached_24 d G Q
def b_X9_hasReached_19 (d : Nat) (G : Nat → zK) (Q : zQ) : zK := o_c 1 <| b_X9_hasReached_24 d G Q
def b_X9_hasReached_10 (d : Nat) (G : Nat → zK) (Q : zQ) : zK := o_al 0 <| o_gf 7 0 <| o_il 1 <| o_zald <| t_zeq (b_X9_hasReached_23 d G Q) (b_X9_hasReached_19 d G Q)
def b_X9_hasReached_4 (d : Nat) (G : Nat → zK) (Q : zQ) : zK := o_il 1 <| o_c 64 <| t_ilt (b_X9_hasReached_10 d G Q) (b_X9_hasReached_23 d G Q)
def b_X9_hasReached_0 (d : Nat) (G : Nat → zK) (Q : zQ) : zK := o_il 1 <| t_zlt (b_X9_hasReached_23 d G Q) (b_X9_hasReached_4 d G Q)
set_option maxRecDepth 20000 in
theorem k_X9_hasReached_24 {p : Program} {l : Launch} {e : Env} {s : State} {m : MethodId} {args : Array Value} {below : List Frame} {meth : Method} {c : Code} {E : zE} {d : Nat} {Q : zQ} (B : zB p s m args c E mX9_hasReached.1.cls mX9_hasReached.2.1 mX9_hasReached.2.2.1) (hr : meth.sig.returnType = mX9_hasReached.2.2.2) (hlk : meth.locks = false) : zLk (zG p l e (zrm d) s m args below meth c E mX9_hasReached.2.2.1 0 0 (MQ below (zQc E Q) args s 0 0 (zaA E))) 24 (b_X9_hasReached_24 d (zG p l e (zrm d) s m args below meth c E mX9_hasReached.2.2.1 0 0 (MQ below (zQc E Q) args s 0 0 (zaA E))) Q) := by
  unfold b_X9_hasReached_24
  exact lk_zret B hr hlk dX9_hasReached_24
set_option maxRecDepth 20000 in
theorem k_X9_hasReached_23 {p : Program} {l : Launch} {e : Env} {s : State} {m : MethodId} {args : Array Value} {below : List Frame} {meth : Method} {c : Code} {E : zE} {d : Nat} {Q : zQ} (B : zB p s m args c E mX9_hasReached.1.cls mX9_hasReached.2.1 mX9_hasReached.2.2.1) (hr : meth.sig.returnType = mX9_hasReached.2.2.2) (hlk : meth.locks = false) : zLk (zG p l e (zrm d) s m args below meth c E mX9_hasReached.2.2.1 0 0 (MQ below (zQc E Q) args s 0 0 (zaA E))) 23 (b_X9_hasReached_23 d (zG p l e (zrm d) s m args below meth c E mX9_hasReached.2.2.1 0 0 (MQ below (zQc E Q) args s 0 0 (zaA E))) Q) := by
  unfold b_X9_hasReached_23
  exact lk_c B dX9_hasReached_23 (k_X9_hasReached_24 B hr hlk)
set_option maxRecDepth 20000 in
theorem k_X9_hasReached_19 {p : Program} {l : Launch} {e : Env} {s : State} {m : MethodId} {args : Array Value} {below : List Frame} {meth : Method} {c : Code} {E : zE} {d : Nat} {Q : zQ} (B : zB p s m args c E mX9_hasReached.1.cls mX9_hasReached.2.1 mX9_hasReached.2.2.1) (hr : meth.sig.returnType = mX9_hasReached.2.2.2) (hlk : meth.locks = false) : zLk (zG p l e (zrm d) s m args below meth c E mX9_hasReached.2.2.1 0 0 (MQ below (zQc E Q) args s 0 0 (zaA E))) 19 (b_X9_hasReached_19 d (zG p l e (zrm d) s m args below meth c E mX9_hasReached.2.2.1 0 0 (MQ below (zQc E Q) args s 0 0 (zaA E))) Q) := by
  unfold b_X9_hasReached_19
  exact lk_c B dX9_hasReached_19 (lk_goto B dX9_hasReached_20 (by decide) (k_X9_hasReached_24 B hr hlk))
set_option maxRecDepth 20000 in
theorem k_X9_hasReached_10 {p : Program} {l : Launch} {e : Env} {s : State} {m : MethodId} {args : Array Value} {below : List Frame} {meth : Method} {c : Code} {E : zE} {d : Nat} {Q : zQ} (B : zB p s m args c E mX9_hasReached.1.cls mX9_hasReached.2.1 mX9_hasReached.2.2.1) (hr : meth.sig.returnType = mX9_hasReached.2.2.2) (hlk : meth.locks = false) : zLk (zG p l e (zrm d) s m args below meth c E mX9_hasReached.2.2.1 0 0 (MQ below (zQc E Q) args s 0 0 (zaA E))) 10 (b_X9_hasReached_10 d (zG p l e (zrm d) s m args below meth c E mX9_hasReached.2.2.1 0 0 (MQ below (zQc E Q) args s 0 0 (zaA E))) Q) := by
  unfold b_X9_hasReached_10
  exact lk_aln B dX9_hasReached_10 rfl (lk_gf (T := TX9) B cl_X9 (by decide) in_X9 zw_218 dX9_hasReached_11 (lk_iln B dX9_hasReached_14 rfl (lk_zald B dX9_hasReached_15 (lk_zeq B dX9_hasReached_16 (by decide) (k_X9_hasReached_23 B hr hlk) (k_X9_hasReached_19 B hr hlk)))))
set_option maxRecDepth 20000 in
theorem k_X9_hasReached_4 {p : Program} {l : Launch} {e : Env} {s : State} {m : MethodId} {args : Array Value} {below : List Frame} {meth : Method} {c : Code} {E : zE} {d : Nat} {Q : zQ} (B : zB p s m args c E mX9_hasReached.1.cls mX9_hasReached.2.1 mX9_hasReached.2.2.1) (hr : meth.sig.returnType = mX9_hasReached.2.2.2) (hlk : meth.locks = false) : zLk (zG p l e (zrm d) s m args below meth c E mX9_hasReached.2.2.1 0 0 (MQ below (zQc E Q) args s 0 0 (zaA E))) 4 (b_X9_hasReached_4 d (zG p l e (zrm d) s m args below meth c E mX9_hasReached.2.2.1 0 0 (MQ below (zQc E Q) args s 0 0 (zaA E))) Q) := by
  unfold b_X9_hasReached_4
  exact lk_iln B dX9_hasReached_4 rfl (lk_b B dX9_hasReached_5 rfl (lk_ige B dX9_hasReached_7 (by decide) (k_X9_hasReached_23 B hr hlk) (k_X9_hasReached_10 B hr hlk)))
set_option maxRecDepth 20000 in
theorem k_X9_hasReached_0 {p : Program} {l : Launch} {e : Env} {s : State} {m : MethodId} {args : Array Value} {below : List Frame} {meth : Method} {c : Code} {E : zE} {d : Nat} {Q : zQ} (B : zB p s m args c E mX9_hasReached.1.cls mX9_hasReached.2.1 mX9_hasReached.2.2.1) (hr : meth.sig.returnType = mX9_hasReached.2.2.2) (hlk : meth.locks = false) : zLk (zG p l e (zrm d) s m args below meth c E mX9_hasReached.2.2.1 0 0 (MQ below (zQc E Q) args s 0 0 (zaA E))) 0 (b_X9_hasReached_0 d (zG p l e (zrm d) s m args below meth c E mX9_hasReached.2.2.1 0 0 (MQ below (zQc E Q) args s 0 0 (zaA E))) Q) := by
  unfold b_X9_hasReached_0
  exact lk_iln B dX9_hasReached_0 rfl (lk_zlt B dX9_hasReached_1 (by decide) (k_X9_hasReached_23 B hr hlk) (k_X9_hasReached_4 B hr hlk))
def S_X9_hasReached (d : Nat) (G : Nat → zK) (Q : zQ) : Prop := zLk G 0 (b_X9_hasReached_0 d G Q)
theorem s_X9_hasReached_0 {d : Nat} {G : Nat → zK} {Q : zQ} (h : S_X9_hasReached d G Q) {ls st : List zV} {μ : zM} (k : b_X9_hasReached_0 d G Q ls st μ) : G 0 ls st μ := h ls st μ k
theorem of_X9_hasReached {d : Nat} {a0 a1 : zV} {μ : zM} {Q : zQ} (h : ∀ G : Nat → zK, S_X9_hasReached d G Q → G 0 [a0, a1] [] μ) : zCt d mX9_hasReached [a0, a1] μ Q := zCt.mk (by decide) (Nat.le_of_ble_eq_true rfl) (fun p l e s m args below meth c E B hr hlk => h _ (k_X9_hasReached_0 B hr hlk))
theorem dX9_reachSlot_0 : decode cX9_reachSlot 0 = .ok (.iload_n 1, 1) := by decide +kernel
theorem dX9_reachSlot_1 : decode cX9_reachSlot 1 = .ok (.ifCond .lt 16, 3) := by decide +kernel
theorem dX9_reachSlot_4 : decode cX9_reachSlot 4 = .ok (.iload_n 1, 1) := by decide +kernel
theorem dX9_reachSlot_5 : decode cX9_reachSlot 5 = .ok (.bipush 64, 2) := by decide +kernel
theorem dX9_reachSlot_7 : decode cX9_reachSlot 7 = .ok (.if_icmp .ge 10, 3) := by decide +kernel
theorem dX9_reachSlot_10 : decode cX9_reachSlot 10 = .ok (.aload_n 0, 1) := by decide +kernel
theorem dX9_reachSlot_11 : decode cX9_reachSlot 11 = .ok (.getfield 11, 3) := by decide +kernel
theorem dX9_reachSlot_14 : decode cX9_reachSlot 14 = .ok (.iload_n 1, 1) := by decide +kernel
theorem dX9_reachSlot_15 : decode cX9_reachSlot 15 = .ok (.iconst 1, 1) := by decide +kernel
theorem dX9_reachSlot_16 : decode cX9_reachSlot 16 = .ok (.bastore, 1) := by decide +kernel
theorem dX9_reachSlot_17 : decode cX9_reachSlot 17 = .ok (.return_, 1) := by decide +kernel
def b_X9_reachSlot_17 (d : Nat) (G : Nat → zK) (Q : zQ) : zK := t_vret Q
def b_X9_reachSlot_10 (d : Nat) (G : Nat → zK) (Q : zQ) : zK := o_al 0 <| o_gf 7 0 <| o_il 1 <| o_c 1 <| o_zast <| b_X9_reachSlot_17 d G Q
def b_X9_reachSlot_4 (d : Nat) (G : Nat → zK) (Q : zQ) : zK := o_il 1 <| o_c 64 <| t_ilt (b_X9_reachSlot_10 d G Q) (b_X9_reachSlot_17 d G Q)
def b_X9_reachSlot_0 (d : Nat) (G : Nat → zK) (Q : zQ) : zK := o_il 1 <| t_zlt (b_X9_reachSlot_17 d G Q) (b_X9_reachSlot_4 d G Q)
set_option maxRecDepth 20000 in
theorem k_X9_reachSlot_17 {p : Program} {l : Launch} {e : Env} {s : State} {m : MethodId} {args : Array Value} {below : List Frame} {meth : Method} {c : Code} {E : zE} {d : Nat} {Q : zQ} (B : zB p s m args c E mX9_reachSlot.1.cls mX9_reachSlot.2.1 mX9_reachSlot.2.2.1) (hr : meth.sig.returnType = mX9_reachSlot.2.2.2) (hlk : meth.locks = false) : zLk (zG p l e (zrm d) s m args below meth c E mX9_reachSlot.2.2.1 0 0 (MQ below (zQc E Q) args s 0 0 (zaA E))) 17 (b_X9_reachSlot_17 d (zG p l e (zrm d) s m args below meth c E mX9_reachSlot.2.2.1 0 0 (MQ below (zQc E Q) args s 0 0 (zaA E))) Q) := by
  unfold b_X9_reachSlot_17
  exact lk_vret B hr hlk dX9_reachSlot_17
set_option maxRecDepth 20000 in
theorem k_X9_reachSlot_10 {p : Program} {l : Launch} {e : Env} {s : State} {m : MethodId} {args : Array Value} {below : List Frame} {meth : Method} {c : Code} {E : zE} {d : Nat} {Q : zQ} (B : zB p s m args c E mX9_reachSlot.1.cls mX9_reachSlot.2.1 mX9_reachSlot.2.2.1) (hr : meth.sig.returnType = mX9_reachSlot.2.2.2) (hlk : meth.locks = false) : zLk (zG p l e (zrm d) s m args below meth c E mX9_reachSlot.2.2.1 0 0 (MQ below (zQc E Q) args s 0 0 (zaA E))) 10 (b_X9_reachSlot_10 d (zG p l e (zrm d) s m args below meth c E mX9_reachSlot.2.2.1 0 0 (MQ below (zQc E Q) args s 0 0 (zaA E))) Q) := by
  unfold b_X9_reachSlot_10
  exact lk_aln B dX9_reachSlot_10 rfl (lk_gf (T := TX9) B cl_X9 (by decide) in_X9 zw_218 dX9_reachSlot_11 (lk_iln B dX9_reachSlot_14 rfl (lk_c B dX9_reachSlot_15 (lk_zast B dX9_reachSlot_16 (k_X9_reachSlot_17 B hr hlk)))))
set_option maxRecDepth 20000 in
theorem k_X9_reachSlot_4 {p : Program} {l : Launch} {e : Env} {s : State} {m : MethodId} {args : Array Value} {below : List Frame} {meth : Method} {c : Code} {E : zE} {d : Nat} {Q : zQ} (B : zB p s m args c E mX9_reachSlot.1.cls mX9_reachSlot.2.1 mX9_reachSlot.2.2.1) (hr : meth.sig.returnType = mX9_reachSlot.2.2.2) (hlk : meth.locks = false) : zLk (zG p l e (zrm d) s m args below meth c E mX9_reachSlot.2.2.1 0 0 (MQ below (zQc E Q) args s 0 0 (zaA E))) 4 (b_X9_reachSlot_4 d (zG p l e (zrm d) s m args below meth c E mX9_reachSlot.2.2.1 0 0 (MQ below (zQc E Q) args s 0 0 (zaA E))) Q) := by
  unfold b_X9_reachSlot_4
  exact lk_iln B dX9_reachSlot_4 rfl (lk_b B dX9_reachSlot_5 rfl (lk_ige B dX9_reachSlot_7 (by decide) (k_X9_reachSlot_17 B hr hlk) (k_X9_reachSlot_10 B hr hlk)))
set_option maxRecDepth 20000 in
theorem k_X9_reachSlot_0 {p : Program} {l : Launch} {e : Env} {s : State} {m : MethodId} {args : Array Value} {below : List Frame} {meth : Method} {c : Code} {E : zE} {d : Nat} {Q : zQ} (B : zB p s m args c E mX9_reachSlot.1.cls mX9_reachSlot.2.1 mX9_reachSlot.2.2.1) (hr : meth.sig.returnType = mX9_reachSlot.2.2.2) (hlk : meth.locks = false) : zLk (zG p l e (zrm d) s m args below meth c E mX9_reachSlot.2.2.1 0 0 (MQ below (zQc E Q) args s 0 0 (zaA E))) 0 (b_X9_reachSlot_0 d (zG p l e (zrm d) s m args below meth c E mX9_reachSlot.2.2.1 0 0 (MQ below (zQc E Q) args s 0 0 (zaA E))) Q) := by
  unfold b_X9_reachSlot_0
  exact lk_iln B dX9_reachSlot_0 rfl (lk_zlt B dX9_reachSlot_1 (by decide) (k_X9_reachSlot_17 B hr hlk) (k_X9_reachSlot_4 B hr hlk))
def S_X9_reachSlot (d : Nat) (G : Nat → zK) (Q : zQ) : Prop := zLk G 0 (b_X9_reachSlot_0 d G Q)
theorem s_X9_reachSlot_0 {d : Nat} {G : Nat → zK} {Q : zQ} (h : S_X9_reachSlot d G Q) {ls st : List zV} {μ : zM} (k : b_X9_reachSlot_0 d G Q ls st μ) : G 0 ls st μ := h ls st μ k
theorem of_X9_reachSlot {d : Nat} {a0 a1 : zV} {μ : zM} {Q : zQ} (h : ∀ G : Nat → zK, S_X9_reachSlot d G Q → G 0 [a0, a1] [] μ) : zCt d mX9_reachSlot [a0, a1] μ Q := zCt.mk (by decide) (Nat.le_of_ble_eq_true rfl) (fun p l e s m args below meth c E B hr hlk => h _ (k_X9_reachSlot_0 B hr hlk))
theorem dX9_goUnder_0 : decode cX9_goUnder 0 = .ok (.aload_n 0, 1) := by decide +kernel
theorem dX9_goUnder_1 : decode cX9_goUnder 1 = .ok (.iconst 0, 1) := by decide +kernel
theorem dX9_goUnder_2 : decode cX9_goUnder 2 = .ok (.putfield 28, 3) := by decide +kernel
theorem dX9_goUnder_5 : decode cX9_goUnder 5 = .ok (.aload_n 0, 1) := by decide +kernel
theorem dX9_goUnder_6 : decode cX9_goUnder 6 = .ok (.iload_n 2, 1) := by decide +kernel
theorem dX9_goUnder_7 : decode cX9_goUnder 7 = .ok (.invokevirtual 31, 3) := by decide +kernel
theorem dX9_goUnder_10 : decode cX9_goUnder 10 = .ok (.iconst 0, 1) := by decide +kernel
theorem dX9_goUnder_11 : decode cX9_goUnder 11 = .ok (.istore_n 3, 1) := by decide +kernel
theorem dX9_goUnder_12 : decode cX9_goUnder 12 = .ok (.iload_n 3, 1) := by decide +kernel
theorem dX9_goUnder_13 : decode cX9_goUnder 13 = .ok (.sipush 256, 3) := by decide +kernel
theorem dX9_goUnder_16 : decode cX9_goUnder 16 = .ok (.if_icmp .gt 40, 3) := by decide +kernel
theorem dX9_goUnder_19 : decode cX9_goUnder 19 = .ok (.aload_n 0, 1) := by decide +kernel
theorem dX9_goUnder_20 : decode cX9_goUnder 20 = .ok (.getfield 28, 3) := by decide +kernel
theorem dX9_goUnder_23 : decode cX9_goUnder 23 = .ok (.ifCond .le 33, 3) := by decide +kernel
theorem dX9_goUnder_26 : decode cX9_goUnder 26 = .ok (.aload_n 0, 1) := by decide +kernel
theorem dX9_goUnder_27 : decode cX9_goUnder 27 = .ok (.dup, 1) := by decide +kernel
theorem dX9_goUnder_28 : decode cX9_goUnder 28 = .ok (.getfield 28, 3) := by decide +kernel
theorem dX9_goUnder_31 : decode cX9_goUnder 31 = .ok (.iconst 1, 1) := by decide +kernel
theorem dX9_goUnder_32 : decode cX9_goUnder 32 = .ok (.isub, 1) := by decide +kernel
theorem dX9_goUnder_33 : decode cX9_goUnder 33 = .ok (.putfield 28, 3) := by decide +kernel
theorem dX9_goUnder_36 : decode cX9_goUnder 36 = .ok (.aload_n 0, 1) := by decide +kernel
theorem dX9_goUnder_37 : decode cX9_goUnder 37 = .ok (.aload_n 1, 1) := by decide +kernel
theorem dX9_goUnder_38 : decode cX9_goUnder 38 = .ok (.aload_n 0, 1) := by decide +kernel
theorem dX9_goUnder_39 : decode cX9_goUnder 39 = .ok (.getfield 25, 3) := by decide +kernel
theorem dX9_goUnder_42 : decode cX9_goUnder 42 = .ok (.aload_n 0, 1) := by decide +kernel
theorem dX9_goUnder_43 : decode cX9_goUnder 43 = .ok (.getfield 28, 3) := by decide +kernel
theorem dX9_goUnder_46 : decode cX9_goUnder 46 = .ok (.iaload, 1) := by decide +kernel
theorem dX9_goUnder_47 : decode cX9_goUnder 47 = .ok (.invokevirtual 35, 3) := by decide +kernel
theorem dX9_goUnder_50 : decode cX9_goUnder 50 = .ok (.iinc 3 1, 3) := by decide +kernel
theorem dX9_goUnder_53 : decode cX9_goUnder 53 = .ok (.goto (-41), 3) := by decide +kernel
theorem dX9_goUnder_56 : decode cX9_goUnder 56 = .ok (.return_, 1) := by decide +kernel
def b_X9_goUnder_0 (d : Nat) (G : Nat → zK) (Q : zQ) : zK := o_al 0 <| o_c 0 <| o_pf 7 4 <| o_al 0 <| o_il 2 <| o_callv (zCt (d - 1) mX9_remember) 7 2 <| o_c 0 <| o_is 3 <| G 12
def b_X9_goUnder_56 (d : Nat) (G : Nat → zK) (Q : zQ) : zK := t_vret Q
def b_X9_goUnder_26 (d : Nat) (G : Nat → zK) (Q : zQ) : zK := o_al 0 <| o_dup <| o_gf 7 4 <| o_c 1 <| o_sub <| o_pf 7 4 <| o_al 0 <| o_al 1 <| o_al 0 <| o_gf 7 3 <| o_al 0 <| o_gf 7 4 <| o_iald <| o_callv (zCt (d - 1) mX9_visit) 7 3 <| o_inc 3 1 <| G 12
def b_X9_goUnder_19 (d : Nat) (G : Nat → zK) (Q : zQ) : zK := o_al 0 <| o_gf 7 4 <| t_zgt (b_X9_goUnder_26 d G Q) (b_X9_goUnder_56 d G Q)
def b_X9_goUnder_12 (d : Nat) (G : Nat → zK) (Q : zQ) : zK := o_il 3 <| o_c 256 <| t_igt (b_X9_goUnder_56 d G Q) (b_X9_goUnder_19 d G Q)
set_option maxRecDepth 20000 in
theorem k_X9_goUnder_0 {p : Program} {l : Launch} {e : Env} {s : State} {m : MethodId} {args : Array Value} {below : List Frame} {meth : Method} {c : Code} {E : zE} {d : Nat} {Q : zQ} (hd1 : 1 ≤ d) (B : zB p s m args c E mX9_goUnder.1.cls mX9_goUnder.2.1 mX9_goUnder.2.2.1) (hr : meth.sig.returnType = mX9_goUnder.2.2.2) (hlk : meth.locks = false) : zLk (zG p l e (zrm d) s m args below meth c E mX9_goUnder.2.2.1 0 0 (MQ below (zQc E Q) args s 0 0 (zaA E))) 0 (b_X9_goUnder_0 d (zG p l e (zrm d) s m args below meth c E mX9_goUnder.2.2.1 0 0 (MQ below (zQc E Q) args s 0 0 (zaA E))) Q) := by
  unfold b_X9_goUnder_0
  exact lk_aln B dX9_goUnder_0 rfl (lk_c B dX9_goUnder_1 (lk_pf (T := TX9) B cl_X9 (by decide) in_X9 tyX9_ok nmX9 zw_222 rfl (by decide +kernel) dX9_goUnder_2 (lk_aln B dX9_goUnder_5 rfl (lk_iln B dX9_goUnder_6 rfl (lk_callv (M := mX9_remember) (T := TX9) (N := 5) B (zhR hd1 (by decide)) ⟨Nat.zero_le _, Nat.zero_le _⟩ cl_X9 (zw5 zw_433 zw_430 zw_432 zw_1 zw_57) (by decide +kernel) dX9_goUnder_7 (lk_c B dX9_goUnder_10 (lk_isn B dX9_goUnder_11 rfl (by decide) (fun _ _ _ h => h))))))))
set_option maxRecDepth 20000 in
theorem k_X9_goUnder_56 {p : Program} {l : Launch} {e : Env} {s : State} {m : MethodId} {args : Array Value} {below : List Frame} {meth : Method} {c : Code} {E : zE} {d : Nat} {Q : zQ} (hd1 : 1 ≤ d) (B : zB p s m args c E mX9_goUnder.1.cls mX9_goUnder.2.1 mX9_goUnder.2.2.1) (hr : meth.sig.returnType = mX9_goUnder.2.2.2) (hlk : meth.locks = false) : zLk (zG p l e (zrm d) s m args below meth c E mX9_goUnder.2.2.1 0 0 (MQ below (zQc E Q) args s 0 0 (zaA E))) 56 (b_X9_goUnder_56 d (zG p l e (zrm d) s m args below meth c E mX9_goUnder.2.2.1 0 0 (MQ below (zQc E Q) args s 0 0 (zaA E))) Q) := by
  unfold b_X9_goUnder_56
  exact lk_vret B hr hlk dX9_goUnder_56
set_option maxRecDepth 20000 in
theorem k_X9_goUnder_26 {p : Program} {l : Launch} {e : Env} {s : State} {m : MethodId} {args : Array Value} {below : List Frame} {meth : Method} {c : Code} {E : zE} {d : Nat} {Q : zQ} (hd1 : 1 ≤ d) (B : zB p s m args c E mX9_goUnder.1.cls mX9_goUnder.2.1 mX9_goUnder.2.2.1) (hr : meth.sig.returnType = mX9_goUnder.2.2.2) (hlk : meth.locks = false) : zLk (zG p l e (zrm d) s m args below meth c E mX9_goUnder.2.2.1 0 0 (MQ below (zQc E Q) args s 0 0 (zaA E))) 26 (b_X9_goUnder_26 d (zG p l e (zrm d) s m args below meth c E mX9_goUnder.2.2.1 0 0 (MQ below (zQc E Q) args s 0 0 (zaA E))) Q) := by
  unfold b_X9_goUnder_26
  exact lk_aln B dX9_goUnder_26 rfl (lk_dup B dX9_goUnder_27 (lk_gf (T := TX9) B cl_X9 (by decide) in_X9 zw_222 dX9_goUnder_28 (lk_c B dX9_goUnder_31 (lk_sub B dX9_goUnder_32 (lk_pf (T := TX9) B cl_X9 (by decide) in_X9 tyX9_ok nmX9 zw_222 rfl (by decide +kernel) dX9_goUnder_33 (lk_aln B dX9_goUnder_36 rfl (lk_aln B dX9_goUnder_37 rfl (lk_aln B dX9_goUnder_38 rfl (lk_gf (T := TX9) B cl_X9 (by decide) in_X9 zw_221 dX9_goUnder_39 (lk_aln B dX9_goUnder_42 rfl (lk_gf (T := TX9) B cl_X9 (by decide) in_X9 zw_222 dX9_goUnder_43 (lk_iald B dX9_goUnder_46 (lk_callv (M := mX9_visit) (T := TX9) (N := 5) B (zhR hd1 (by decide)) ⟨Nat.zero_le _, Nat.zero_le _⟩ cl_X9 (zw5 zw_437 zw_434 zw_436 zw_2 zw_57) (by decide +kernel) dX9_goUnder_47 (lk_inc B dX9_goUnder_50 (by decide) (lk_goto B dX9_goUnder_53 (by decide) (fun _ _ _ h => h))))))))))))))))
set_option maxRecDepth 20000 in
theorem k_X9_goUnder_19 {p : Program} {l : Launch} {e : Env} {s : State} {m : MethodId} {args : Array Value} {below : List Frame} {meth : Method} {c : Code} {E : zE} {d : Nat} {Q : zQ} (hd1 : 1 ≤ d) (B : zB p s m args c E mX9_goUnder.1.cls mX9_goUnder.2.1 mX9_goUnder.2.2.1) (hr : meth.sig.returnType = mX9_goUnder.2.2.2) (hlk : meth.locks = false) : zLk (zG p l e (zrm d) s m args below meth c E mX9_goUnder.2.2.1 0 0 (MQ below (zQc E Q) args s 0 0 (zaA E))) 19 (b_X9_goUnder_19 d (zG p l e (zrm d) s m args below meth c E mX9_goUnder.2.2.1 0 0 (MQ below (zQc E Q) args s 0 0 (zaA E))) Q) := by
  unfold b_X9_goUnder_19
  exact lk_aln B dX9_goUnder_19 rfl (lk_gf (T := TX9) B cl_X9 (by decide) in_X9 zw_222 dX9_goUnder_20 (lk_zle B dX9_goUnder_23 (by decide) (k_X9_goUnder_56 hd1 B hr hlk) (k_X9_goUnder_26 hd1 B hr hlk)))
set_option maxRecDepth 20000 in
theorem k_X9_goUnder_12 {p : Program} {l : Launch} {e : Env} {s : State} {m : MethodId} {args : Array Value} {below : List Frame} {meth : Method} {c : Code} {E : zE} {d : Nat} {Q : zQ} (hd1 : 1 ≤ d) (B : zB p s m args c E mX9_goUnder.1.cls mX9_goUnder.2.1 mX9_goUnder.2.2.1) (hr : meth.sig.returnType = mX9_goUnder.2.2.2) (hlk : meth.locks = false) : zLk (zG p l e (zrm d) s m args below meth c E mX9_goUnder.2.2.1 0 0 (MQ below (zQc E Q) args s 0 0 (zaA E))) 12 (b_X9_goUnder_12 d (zG p l e (zrm d) s m args below meth c E mX9_goUnder.2.2.1 0 0 (MQ below (zQc E Q) args s 0 0 (zaA E))) Q) := by
  unfold b_X9_goUnder_12
  exact lk_iln B dX9_goUnder_12 rfl (lk_s B dX9_goUnder_13 rfl (lk_igt B dX9_goUnder_16 (by decide) (k_X9_goUnder_56 hd1 B hr hlk) (k_X9_goUnder_19 hd1 B hr hlk)))
def S_X9_goUnder (d : Nat) (G : Nat → zK) (Q : zQ) : Prop := zLk G 0 (b_X9_goUnder_0 d G Q) ∧ zLk G 12 (b_X9_goUnder_12 d G Q)
theorem s_X9_goUnder_0 {d : Nat} {G : Nat → zK} {Q : zQ} (h : S_X9_goUnder d G Q) {ls st : List zV} {μ : zM} (k : b_X9_goUnder_0 d G Q ls st μ) : G 0 ls st μ := h.1 ls st μ k
theorem s_X9_goUnder_12 {d : Nat} {G : Nat → zK} {Q : zQ} (h : S_X9_goUnder d G Q) {ls st : List zV} {μ : zM} (k : b_X9_goUnder_12 d G Q ls st μ) : G 12 ls st μ := h.2 ls st μ k
theorem of_X9_goUnder {d : Nat} {a0 a1 a2 : zV} {μ : zM} {Q : zQ} (hd1 : 1 ≤ d) (h : ∀ G : Nat → zK, S_X9_goUnder d G Q → G 0 [a0, a1, a2, .inr none] [] μ) : zCt d mX9_goUnder [a0, a1, a2] μ Q := zCt.mk (by decide) (Nat.le_of_ble_eq_true rfl) (fun p l e s m args below meth c E B hr hlk => h _ ⟨k_X9_goUnder_0 hd1 B hr hlk, k_X9_goUnder_12 hd1 B hr hlk⟩)
theorem dX9_visit_0 : decode cX9_visit 0 = .ok (.aload_n 1, 1) := by decide +kernel
theorem dX9_visit_1 : decode cX9_visit 1 = .ok (.iload_n 2, 1) := by decide +kernel
theorem dX9_visit_2 : decode cX9_visit 2 = .ok (.invokevirtual 39, 3) := by decide +kernel
theorem dX9_visit_5 : decode cX9_visit 5 = .ok (.istore_n 3, 1) := by decide +kernel
theorem dX9_visit_6 : decode cX9_visit 6 = .ok (.iload_n 3, 1) := by decide +kernel
theorem dX9_visit_7 : decode cX9_visit 7 = .ok (.ifCond .ge 11, 3) := by decide +kernel
theorem dX9_visit_10 : decode cX9_visit 10 = .ok (.aload_n 0, 1) := by decide +kernel
theorem dX9_visit_11 : decode cX9_visit 11 = .ok (.iload_n 2, 1) := by decide +kernel
theorem dX9_visit_12 : decode cX9_visit 12 = .ok (.invokevirtual 45, 3) := by decide +kernel
theorem dX9_visit_15 : decode cX9_visit 15 = .ok (.goto 47, 3) := by decide +kernel
theorem dX9_visit_18 : decode cX9_visit 18 = .ok (.aload_n 0, 1) := by decide +kernel
theorem dX9_visit_19 : decode cX9_visit 19 = .ok (.iload_n 3, 1) := by decide +kernel
theorem dX9_visit_20 : decode cX9_visit 20 = .ok (.invokevirtual 48, 3) := by decide +kernel
theorem dX9_visit_23 : decode cX9_visit 23 = .ok (.ifCond .ne 39, 3) := by decide +kernel
theorem dX9_visit_26 : decode cX9_visit 26 = .ok (.aload_n 0, 1) := by decide +kernel
theorem dX9_visit_27 : decode cX9_visit 27 = .ok (.iload_n 3, 1) := by decide +kernel
theorem dX9_visit_28 : decode cX9_visit 28 = .ok (.invokevirtual 52, 3) := by decide +kernel
theorem dX9_visit_31 : decode cX9_visit 31 = .ok (.aload_n 1, 1) := by decide +kernel
theorem dX9_visit_32 : decode cX9_visit 32 = .ok (.iload_n 3, 1) := by decide +kernel
theorem dX9_visit_33 : decode cX9_visit 33 = .ok (.invokestatic 55, 3) := by decide +kernel
theorem dX9_visit_36 : decode cX9_visit 36 = .ok (.iconst 1, 1) := by decide +kernel
theorem dX9_visit_37 : decode cX9_visit 37 = .ok (.isub, 1) := by decide +kernel
theorem dX9_visit_38 : decode cX9_visit 38 = .ok (.istore 4, 2) := by decide +kernel
theorem dX9_visit_40 : decode cX9_visit 40 = .ok (.iload 4, 2) := by decide +kernel
theorem dX9_visit_42 : decode cX9_visit 42 = .ok (.ifCond .lt 20, 3) := by decide +kernel
theorem dX9_visit_45 : decode cX9_visit 45 = .ok (.aload_n 0, 1) := by decide +kernel
theorem dX9_visit_46 : decode cX9_visit 46 = .ok (.aload_n 1, 1) := by decide +kernel
theorem dX9_visit_47 : decode cX9_visit 47 = .ok (.iload_n 3, 1) := by decide +kernel
theorem dX9_visit_48 : decode cX9_visit 48 = .ok (.iload 4, 2) := by decide +kernel
theorem dX9_visit_50 : decode cX9_visit 50 = .ok (.invokestatic 59, 3) := by decide +kernel
theorem dX9_visit_53 : decode cX9_visit 53 = .ok (.invokevirtual 31, 3) := by decide +kernel
theorem dX9_visit_56 : decode cX9_visit 56 = .ok (.iinc 4 (-1), 3) := by decide +kernel
theorem dX9_visit_59 : decode cX9_visit 59 = .ok (.goto (-19), 3) := by decide +kernel
theorem dX9_visit_62 : decode cX9_visit 62 = .ok (.return_, 1) := by decide +kernel
def b_X9_visit_62 (d : Nat) (G : Nat → zK) (Q : zQ) : zK := t_vret Q
def b_X9_visit_26 (d : Nat) (G : Nat → zK) (Q : zQ) : zK := o_al 0 <| o_il 3 <| o_callv (zCt (d - 1) mX9_reachSlot) 7 2 <| o_al 1 <| o_il 3 <| o_call (zCt (d - 1) mX2_partCount) 2 <| o_c 1 <| o_sub <| o_is 4 <| G 40
def b_X9_visit_18 (d : Nat) (G : Nat → zK) (Q : zQ) : zK := o_al 0 <| o_il 3 <| o_callv (zCt (d - 1) mX9_hasReached) 7 2 <| t_zeq (b_X9_visit_26 d G Q) (b_X9_visit_62 d G Q)
def b_X9_visit_10 (d : Nat) (G : Nat → zK) (Q : zQ) : zK := o_al 0 <| o_il 2 <| o_callv (zCt (d - 1) mX9_noteMissing) 7 2 <| b_X9_visit_62 d G Q
def b_X9_visit_0 (d : Nat) (G : Nat → zK) (Q : zQ) : zK := o_al 1 <| o_il 2 <| o_callv (zCt (d - 1) mX6_slotOf) 4 2 <| o_is 3 <| o_il 3 <| t_zlt (b_X9_visit_10 d G Q) (b_X9_visit_18 d G Q)
def b_X9_visit_45 (d : Nat) (G : Nat → zK) (Q : zQ) : zK := o_al 0 <| o_al 1 <| o_il 3 <| o_il 4 <| o_call (zCt (d - 1) mX2_linkAt) 3 <| o_callv (zCt (d - 1) mX9_remember) 7 2 <| o_inc 4 (-1) <| G 40
def b_X9_visit_40 (d : Nat) (G : Nat → zK) (Q : zQ) : zK := o_il 4 <| t_zlt (b_X9_visit_62 d G Q) (b_X9_visit_45 d G Q)
set_option maxRecDepth 20000 in
theorem k_X9_visit_62 {p : Program} {l : Launch} {e : Env} {s : State} {m : MethodId} {args : Array Value} {below : List Frame} {meth : Method} {c : Code} {E : zE} {d : Nat} {Q : zQ} (hd1 : 1 ≤ d) (B : zB p s m args c E mX9_visit.1.cls mX9_visit.2.1 mX9_visit.2.2.1) (hr : meth.sig.returnType = mX9_visit.2.2.2) (hlk : meth.locks = false) : zLk (zG p l e (zrm d) s m args below meth c E mX9_visit.2.2.1 0 0 (MQ below (zQc E Q) args s 0 0 (zaA E))) 62 (b_X9_visit_62 d (zG p l e (zrm d) s m args below meth c E mX9_visit.2.2.1 0 0 (MQ below (zQc E Q) args s 0 0 (zaA E))) Q) := by
  unfold b_X9_visit_62
  exact lk_vret B hr hlk dX9_visit_62
set_option maxRecDepth 20000 in
theorem k_X9_visit_26 {p : Program} {l : Launch} {e : Env} {s : State} {m : MethodId} {args : Array Value} {below : List Frame} {meth : Method} {c : Code} {E : zE} {d : Nat} {Q : zQ} (hd1 : 1 ≤ d) (B : zB p s m args c E mX9_visit.1.cls mX9_visit.2.1 mX9_visit.2.2.1) (hr : meth.sig.returnType = mX9_visit.2.2.2) (hlk : meth.locks = false) : zLk (zG p l e (zrm d) s m args below meth c E mX9_visit.2.2.1 0 0 (MQ below (zQc E Q) args s 0 0 (zaA E))) 26 (b_X9_visit_26 d (zG p l e (zrm d) s m args below meth c E mX9_visit.2.2.1 0 0 (MQ below (zQc E Q) args s 0 0 (zaA E))) Q) := by
  unfold b_X9_visit_26
  exact lk_aln B dX9_visit_26 rfl (lk_iln B dX9_visit_27 rfl (lk_callv (M := mX9_reachSlot) (T := TX9) (N := 5) B (zhR hd1 (by decide)) ⟨Nat.zero_le _, Nat.zero_le _⟩ cl_X9 (zw5 zw_454 zw_451 zw_452 zw_453 zw_57) (by decide +kernel) dX9_visit_28 (lk_aln B dX9_visit_31 rfl (lk_iln B dX9_visit_32 rfl (lk_calls (M := mX2_partCount) B (zhR hd1 (by decide)) ⟨Nat.zero_le _, Nat.zero_le _⟩ (zw4 zw_354 zw_455 zw_353 zw_60) (by decide +kernel) dX9_visit_33 (lk_c B dX9_visit_36 (lk_sub B dX9_visit_37 (lk_is B dX9_visit_38 (by decide) (fun _ _ _ h => h)))))))))
set_option maxRecDepth 20000 in
theorem k_X9_visit_18 {p : Program} {l : Launch} {e : Env} {s : State} {m : MethodId} {args : Array Value} {below : List Frame} {meth : Method} {c : Code} {E : zE} {d : Nat} {Q : zQ} (hd1 : 1 ≤ d) (B : zB p s m args c E mX9_visit.1.cls mX9_visit.2.1 mX9_visit.2.2.1) (hr : meth.sig.returnType = mX9_visit.2.2.2) (hlk : meth.locks = false) : zLk (zG p l e (zrm d) s m args below meth c E mX9_visit.2.2.1 0 0 (MQ below (zQc E Q) args s 0 0 (zaA E))) 18 (b_X9_visit_18 d (zG p l e (zrm d) s m args below meth c E mX9_visit.2.2.1 0 0 (MQ below (zQc E Q) args s 0 0 (zaA E))) Q) := by
  unfold b_X9_visit_18
  exact lk_aln B dX9_visit_18 rfl (lk_iln B dX9_visit_19 rfl (lk_callv (M := mX9_hasReached) (T := TX9) (N := 5) B (zhR hd1 (by decide)) ⟨Nat.zero_le _, Nat.zero_le _⟩ cl_X9 (zw5 zw_450 zw_447 zw_448 zw_449 zw_57) (by decide +kernel) dX9_visit_20 (lk_zne B dX9_visit_23 (by decide) (k_X9_visit_62 hd1 B hr hlk) (k_X9_visit_26 hd1 B hr hlk))))
set_option maxRecDepth 20000 in
theorem k_X9_visit_10 {p : Program} {l : Launch} {e : Env} {s : State} {m : MethodId} {args : Array Value} {below : List Frame} {meth : Method} {c : Code} {E : zE} {d : Nat} {Q : zQ} (hd1 : 1 ≤ d) (B : zB p s m args c E mX9_visit.1.cls mX9_visit.2.1 mX9_visit.2.2.1) (hr : meth.sig.returnType = mX9_visit.2.2.2) (hlk : meth.locks = false) : zLk (zG p l e (zrm d) s m args below meth c E mX9_visit.2.2.1 0 0 (MQ below (zQc E Q) args s 0 0 (zaA E))) 10 (b_X9_visit_10 d (zG p l e (zrm d) s m args below meth c E mX9_visit.2.2.1 0 0 (MQ below (zQc E Q) args s 0 0 (zaA E))) Q) := by
  unfold b_X9_visit_10
  exact lk_aln B dX9_visit_10 rfl (lk_iln B dX9_visit_11 rfl (lk_callv (M := mX9_noteMissing) (T := TX9) (N := 5) B (zhR hd1 (by decide)) ⟨Nat.zero_le _, Nat.zero_le _⟩ cl_X9 (zw5 zw_442 zw_439 zw_441 zw_3 zw_57) (by decide +kernel) dX9_visit_12 (lk_goto B dX9_visit_15 (by decide) (k_X9_visit_62 hd1 B hr hlk))))
set_option maxRecDepth 20000 in
theorem k_X9_visit_0 {p : Program} {l : Launch} {e : Env} {s : State} {m : MethodId} {args : Array Value} {below : List Frame} {meth : Method} {c : Code} {E : zE} {d : Nat} {Q : zQ} (hd1 : 1 ≤ d) (B : zB p s m args c E mX9_visit.1.cls mX9_visit.2.1 mX9_visit.2.2.1) (hr : meth.sig.returnType = mX9_visit.2.2.2) (hlk : meth.locks = false) : zLk (zG p l e (zrm d) s m args below meth c E mX9_visit.2.2.1 0 0 (MQ below (zQc E Q) args s 0 0 (zaA E))) 0 (b_X9_visit_0 d (zG p l e (zrm d) s m args below meth c E mX9_visit.2.2.1 0 0 (MQ below (zQc E Q) args s 0 0 (zaA E))) Q) := by
  unfold b_X9_visit_0
  exact lk_aln B dX9_visit_0 rfl (lk_iln B dX9_visit_1 rfl (lk_callv (M := mX6_slotOf) (T := TX6) (N := 5) B (zhR hd1 (by decide)) ⟨Nat.zero_le _, Nat.zero_le _⟩ cl_X6 (zw5 zw_310 zw_438 zw_308 zw_309 zw_51) (by decide +kernel) dX9_visit_2 (lk_isn B dX9_visit_5 rfl (by decide) (lk_iln B dX9_visit_6 rfl (lk_zge B dX9_visit_7 (by decide) (k_X9_visit_18 hd1 B hr hlk) (k_X9_visit_10 hd1 B hr hlk))))))
set_option maxRecDepth 20000 in
theorem k_X9_visit_45 {p : Program} {l : Launch} {e : Env} {s : State} {m : MethodId} {args : Array Value} {below : List Frame} {meth : Method} {c : Code} {E : zE} {d : Nat} {Q : zQ} (hd1 : 1 ≤ d) (B : zB p s m args c E mX9_visit.1.cls mX9_visit.2.1 mX9_visit.2.2.1) (hr : meth.sig.returnType = mX9_visit.2.2.2) (hlk : meth.locks = false) : zLk (zG p l e (zrm d) s m args below meth c E mX9_visit.2.2.1 0 0 (MQ below (zQc E Q) args s 0 0 (zaA E))) 45 (b_X9_visit_45 d (zG p l e (zrm d) s m args below meth c E mX9_visit.2.2.1 0 0 (MQ below (zQc E Q) args s 0 0 (zaA E))) Q) := by
  unfold b_X9_visit_45
  exact lk_aln B dX9_visit_45 rfl (lk_aln B dX9_visit_46 rfl (lk_iln B dX9_visit_47 rfl (lk_il B dX9_visit_48 (lk_calls (M := mX2_linkAt) B (zhR hd1 (by decide)) ⟨Nat.zero_le _, Nat.zero_le _⟩ (zw4 zw_368 zw_456 zw_367 zw_60) (by decide +kernel) dX9_visit_50 (lk_callv (M := mX9_remember) (T := TX9) (N := 5) B (zhR hd1 (by decide)) ⟨Nat.zero_le _, Nat.zero_le _⟩ cl_X9 (zw5 zw_433 zw_430 zw_432 zw_1 zw_57) (by decide +kernel) dX9_visit_53 (lk_inc B dX9_visit_56 (by decide) (lk_goto B dX9_visit_59 (by decide) (fun _ _ _ h => h))))))))
set_option maxRecDepth 20000 in
theorem k_X9_visit_40 {p : Program} {l : Launch} {e : Env} {s : State} {m : MethodId} {args : Array Value} {below : List Frame} {meth : Method} {c : Code} {E : zE} {d : Nat} {Q : zQ} (hd1 : 1 ≤ d) (B : zB p s m args c E mX9_visit.1.cls mX9_visit.2.1 mX9_visit.2.2.1) (hr : meth.sig.returnType = mX9_visit.2.2.2) (hlk : meth.locks = false) : zLk (zG p l e (zrm d) s m args below meth c E mX9_visit.2.2.1 0 0 (MQ below (zQc E Q) args s 0 0 (zaA E))) 40 (b_X9_visit_40 d (zG p l e (zrm d) s m args below meth c E mX9_visit.2.2.1 0 0 (MQ below (zQc E Q) args s 0 0 (zaA E))) Q) := by
  unfold b_X9_visit_40
  exact lk_il B dX9_visit_40 (lk_zlt B dX9_visit_42 (by decide) (k_X9_visit_62 hd1 B hr hlk) (k_X9_visit_45 hd1 B hr hlk))
def S_X9_visit (d : Nat) (G : Nat → zK) (Q : zQ) : Prop := zLk G 0 (b_X9_visit_0 d G Q) ∧ zLk G 40 (b_X9_visit_40 d G Q)
theorem s_X9_visit_0 {d : Nat} {G : Nat → zK} {Q : zQ} (h : S_X9_visit d G Q) {ls st : List zV} {μ : zM} (k : b_X9_visit_0 d G Q ls st μ) : G 0 ls st μ := h.1 ls st μ k
theorem s_X9_visit_40 {d : Nat} {G : Nat → zK} {Q : zQ} (h : S_X9_visit d G Q) {ls st : List zV} {μ : zM} (k : b_X9_visit_40 d G Q ls st μ) : G 40 ls st μ := h.2 ls st μ k
theorem of_X9_visit {d : Nat} {a0 a1 a2 : zV} {μ : zM} {Q : zQ} (hd1 : 1 ≤ d) (h : ∀ G : Nat → zK, S_X9_visit d G Q → G 0 [a0, a1, a2, .inr none, .inr none] [] μ) : zCt d mX9_visit [a0, a1, a2] μ Q := zCt.mk (by decide) (Nat.le_of_ble_eq_true rfl) (fun p l e s m args below meth c E B hr hlk => h _ ⟨k_X9_visit_0 hd1 B hr hlk, k_X9_visit_40 hd1 B hr hlk⟩)
theorem dX9_remember_0 : decode cX9_remember 0 = .ok (.aload_n 0, 1) := by decide +kernel
theorem dX9_remember_1 : decode cX9_remember 1 = .ok (.getfield 28, 3) := by decide +kernel
theorem dX9_remember_4 : decode cX9_remember 4 = .ok (.sipush 256, 3) := by decide +kernel
theorem dX9_remember_7 : decode cX9_remember 7 = .ok (.if_icmp .gt 23, 3) := by decide +kernel
theorem dX9_remember_10 : decode cX9_remember 10 = .ok (.aload_n 0, 1) := by decide +kernel
theorem dX9_remember_11 : decode cX9_remember 11 = .ok (.getfield 25, 3) := by decide +kernel
theorem dX9_remember_14 : decode cX9_remember 14 = .ok (.aload_n 0, 1) := by decide +kernel
theorem dX9_remember_15 : decode cX9_remember 15 = .ok (.getfield 28, 3) := by decide +kernel
theorem dX9_remember_18 : decode cX9_remember 18 = .ok (.iload_n 1, 1) := by decide +kernel
theorem dX9_remember_19 : decode cX9_remember 19 = .ok (.iastore, 1) := by decide +kernel
theorem dX9_remember_20 : decode cX9_remember 20 = .ok (.aload_n 0, 1) := by decide +kernel
theorem dX9_remember_21 : decode cX9_remember 21 = .ok (.dup, 1) := by decide +kernel
theorem dX9_remember_22 : decode cX9_remember 22 = .ok (.getfield 28, 3) := by decide +kernel
theorem dX9_remember_25 : decode cX9_remember 25 = .ok (.iconst 1, 1) := by decide +kernel
theorem dX9_remember_26 : decode cX9_remember 26 = .ok (.iadd, 1) := by decide +kernel
theorem dX9_remember_27 : decode cX9_remember 27 = .ok (.putfield 28, 3) := by decide +kernel
theorem dX9_remember_30 : decode cX9_remember 30 = .ok (.return_, 1) := by decide +kernel
def b_X9_remember_30 (d : Nat) (G : Nat → zK) (Q : zQ) : zK := t_vret Q
def b_X9_remember_10 (d : Nat) (G : Nat → zK) (Q : zQ) : zK := o_al 0 <| o_gf 7 3 <| o_al 0 <| o_gf 7 4 <| o_il 1 <| o_iast <| o_al 0 <| o_dup <| o_gf 7 4 <| o_c 1 <| o_add <| o_pf 7 4 <| b_X9_remember_30 d G Q
def b_X9_remember_0 (d : Nat) (G : Nat → zK) (Q : zQ) : zK := o_al 0 <| o_gf 7 4 <| o_c 256 <| t_igt (b_X9_remember_30 d G Q) (b_X9_remember_10 d G Q)
set_option maxRecDepth 20000 in
theorem k_X9_remember_30 {p : Program} {l : Launch} {e : Env} {s : State} {m : MethodId} {args : Array Value} {below : List Frame} {meth : Method} {c : Code} {E : zE} {d : Nat} {Q : zQ} (B : zB p s m args c E mX9_remember.1.cls mX9_remember.2.1 mX9_remember.2.2.1) (hr : meth.sig.returnType = mX9_remember.2.2.2) (hlk : meth.locks = false) : zLk (zG p l e (zrm d) s m args below meth c E mX9_remember.2.2.1 0 0 (MQ below (zQc E Q) args s 0 0 (zaA E))) 30 (b_X9_remember_30 d (zG p l e (zrm d) s m args below meth c E mX9_remember.2.2.1 0 0 (MQ below (zQc E Q) args s 0 0 (zaA E))) Q) := by
  unfold b_X9_remember_30
  exact lk_vret B hr hlk dX9_remember_30
set_option maxRecDepth 20000 in
theorem k_X9_remember_10 {p : Program} {l : Launch} {e : Env} {s : State} {m : MethodId} {args : Array Value} {below : List Frame} {meth : Method} {c : Code} {E : zE} {d : Nat} {Q : zQ} (B : zB p s m args c E mX9_remember.1.cls mX9_remember.2.1 mX9_remember.2.2.1) (hr : meth.sig.returnType = mX9_remember.2.2.2) (hlk : meth.locks = false) : zLk (zG p l e (zrm d) s m args below meth c E mX9_remember.2.2.1 0 0 (MQ below (zQc E Q) args s 0 0 (zaA E))) 10 (b_X9_remember_10 d (zG p l e (zrm d) s m args below meth c E mX9_remember.2.2.1 0 0 (MQ below (zQc E Q) args s 0 0 (zaA E))) Q) := by
  unfold b_X9_remember_10
  exact lk_aln B dX9_remember_10 rfl (lk_gf (T := TX9) B cl_X9 (by decide) in_X9 zw_221 dX9_remember_11 (lk_aln B dX9_remember_14 rfl (lk_gf (T := TX9) B cl_X9 (by decide) in_X9 zw_222 dX9_remember_15 (lk_iln B dX9_remember_18 rfl (lk_iast B dX9_remember_19 (lk_aln B dX9_remember_20 rfl (lk_dup B dX9_remember_21 (lk_gf (T := TX9) B cl_X9 (by decide) in_X9 zw_222 dX9_remember_22 (lk_c B dX9_remember_25 (lk_add B dX9_remember_26 (lk_pf (T := TX9) B cl_X9 (by decide) in_X9 tyX9_ok nmX9 zw_222 rfl (by decide +kernel) dX9_remember_27 (k_X9_remember_30 B hr hlk))))))))))))
set_option maxRecDepth 20000 in
theorem k_X9_remember_0 {p : Program} {l : Launch} {e : Env} {s : State} {m : MethodId} {args : Array Value} {below : List Frame} {meth : Method} {c : Code} {E : zE} {d : Nat} {Q : zQ} (B : zB p s m args c E mX9_remember.1.cls mX9_remember.2.1 mX9_remember.2.2.1) (hr : meth.sig.returnType = mX9_remember.2.2.2) (hlk : meth.locks = false) : zLk (zG p l e (zrm d) s m args below meth c E mX9_remember.2.2.1 0 0 (MQ below (zQc E Q) args s 0 0 (zaA E))) 0 (b_X9_remember_0 d (zG p l e (zrm d) s m args below meth c E mX9_remember.2.2.1 0 0 (MQ below (zQc E Q) args s 0 0 (zaA E))) Q) := by
  unfold b_X9_remember_0
  exact lk_aln B dX9_remember_0 rfl (lk_gf (T := TX9) B cl_X9 (by decide) in_X9 zw_222 dX9_remember_1 (lk_s B dX9_remember_4 rfl (lk_igt B dX9_remember_7 (by decide) (k_X9_remember_30 B hr hlk) (k_X9_remember_10 B hr hlk))))
def S_X9_remember (d : Nat) (G : Nat → zK) (Q : zQ) : Prop := zLk G 0 (b_X9_remember_0 d G Q)
theorem s_X9_remember_0 {d : Nat} {G : Nat → zK} {Q : zQ} (h : S_X9_remember d G Q) {ls st : List zV} {μ : zM} (k : b_X9_remember_0 d G Q ls st μ) : G 0 ls st μ := h ls st μ k
theorem of_X9_remember {d : Nat} {a0 a1 : zV} {μ : zM} {Q : zQ} (h : ∀ G : Nat → zK, S_X9_remember d G Q → G 0 [a0, a1] [] μ) : zCt d mX9_remember [a0, a1] μ Q := zCt.mk (by decide) (Nat.le_of_ble_eq_true rfl) (fun p l e s m args below meth c E B hr hlk => h _ (k_X9_remember_0 B hr hlk))
theorem dX9_noteMissing_0 : decode cX9_noteMissing 0 = .ok (.aload_n 0, 1) := by decide +kernel
theorem dX9_noteMissing_1 : decode cX9_noteMissing 1 = .ok (.getfield 21, 3) := by decide +kernel
theorem dX9_noteMissing_4 : decode cX9_noteMissing 4 = .ok (.sipush 256, 3) := by decide +kernel
theorem dX9_noteMissing_7 : decode cX9_noteMissing 7 = .ok (.if_icmp .gt 31, 3) := by decide +kernel
theorem dX9_noteMissing_10 : decode cX9_noteMissing 10 = .ok (.aload_n 0, 1) := by decide +kernel
theorem dX9_noteMissing_11 : decode cX9_noteMissing 11 = .ok (.iload_n 1, 1) := by decide +kernel
theorem dX9_noteMissing_12 : decode cX9_noteMissing 12 = .ok (.invokevirtual 63, 3) := by decide +kernel
theorem dX9_noteMissing_15 : decode cX9_noteMissing 15 = .ok (.ifCond .ne 23, 3) := by decide +kernel
theorem dX9_noteMissing_18 : decode cX9_noteMissing 18 = .ok (.aload_n 0, 1) := by decide +kernel
theorem dX9_noteMissing_19 : decode cX9_noteMissing 19 = .ok (.getfield 17, 3) := by decide +kernel
theorem dX9_noteMissing_22 : decode cX9_noteMissing 22 = .ok (.aload_n 0, 1) := by decide +kernel
theorem dX9_noteMissing_23 : decode cX9_noteMissing 23 = .ok (.getfield 21, 3) := by decide +kernel
theorem dX9_noteMissing_26 : decode cX9_noteMissing 26 = .ok (.iload_n 1, 1) := by decide +kernel
theorem dX9_noteMissing_27 : decode cX9_noteMissing 27 = .ok (.iastore, 1) := by decide +kernel
theorem dX9_noteMissing_28 : decode cX9_noteMissing 28 = .ok (.aload_n 0, 1) := by decide +kernel
theorem dX9_noteMissing_29 : decode cX9_noteMissing 29 = .ok (.dup, 1) := by decide +kernel
theorem dX9_noteMissing_30 : decode cX9_noteMissing 30 = .ok (.getfield 21, 3) := by decide +kernel
theorem dX9_noteMissing_33 : decode cX9_noteMissing 33 = .ok (.iconst 1, 1) := by decide +kernel
theorem dX9_noteMissing_34 : decode cX9_noteMissing 34 = .ok (.iadd, 1) := by decide +kernel
theorem dX9_noteMissing_35 : decode cX9_noteMissing 35 = .ok (.putfield 21, 3) := by decide +kernel
theorem dX9_noteMissing_38 : decode cX9_noteMissing 38 = .ok (.return_, 1) := by decide +kernel
def b_X9_noteMissing_38 (d : Nat) (G : Nat → zK) (Q : zQ) : zK := t_vret Q
def b_X9_noteMissing_18 (d : Nat) (G : Nat → zK) (Q : zQ) : zK := o_al 0 <| o_gf 7 1 <| o_al 0 <| o_gf 7 2 <| o_il 1 <| o_iast <| o_al 0 <| o_dup <| o_gf 7 2 <| o_c 1 <| o_add <| o_pf 7 2 <| b_X9_noteMissing_38 d G Q
def b_X9_noteMissing_10 (d : Nat) (G : Nat → zK) (Q : zQ) : zK := o_al 0 <| o_il 1 <| o_callv (zCt (d - 1) mX9_misses) 7 2 <| t_zeq (b_X9_noteMissing_18 d G Q) (b_X9_noteMissing_38 d G Q)
def b_X9_noteMissing_0 (d : Nat) (G : Nat → zK) (Q : zQ) : zK := o_al 0 <| o_gf 7 2 <| o_c 256 <| t_igt (b_X9_noteMissing_38 d G Q) (b_X9_noteMissing_10 d G Q)
set_option maxRecDepth 20000 in
theorem k_X9_noteMissing_38 {p : Program} {l : Launch} {e : Env} {s : State} {m : MethodId} {args : Array Value} {below : List Frame} {meth : Method} {c : Code} {E : zE} {d : Nat} {Q : zQ} (hd1 : 1 ≤ d) (B : zB p s m args c E mX9_noteMissing.1.cls mX9_noteMissing.2.1 mX9_noteMissing.2.2.1) (hr : meth.sig.returnType = mX9_noteMissing.2.2.2) (hlk : meth.locks = false) : zLk (zG p l e (zrm d) s m args below meth c E mX9_noteMissing.2.2.1 0 0 (MQ below (zQc E Q) args s 0 0 (zaA E))) 38 (b_X9_noteMissing_38 d (zG p l e (zrm d) s m args below meth c E mX9_noteMissing.2.2.1 0 0 (MQ below (zQc E Q) args s 0 0 (zaA E))) Q) := by
  unfold b_X9_noteMissing_38
  exact lk_vret B hr hlk dX9_noteMissing_38
set_option maxRecDepth 20000 in
theorem k_X9_noteMissing_18 {p : Program} {l : Launch} {e : Env} {s : State} {m : MethodId} {args : Array Value} {below : List Frame} {meth : Method} {c : Code} {E : zE} {d : Nat} {Q : zQ} (hd1 : 1 ≤ d) (B : zB p s m args c E mX9_noteMissing.1.cls mX9_noteMissing.2.1 mX9_noteMissing.2.2.1) (hr : meth.sig.returnType = mX9_noteMissing.2.2.2) (hlk : meth.locks = false) : zLk (zG p l e (zrm d) s m args below meth c E mX9_noteMissing.2.2.1 0 0 (MQ below (zQc E Q) args s 0 0 (zaA E))) 18 (b_X9_noteMissing_18 d (zG p l e (zrm d) s m args below meth c E mX9_noteMissing.2.2.1 0 0 (MQ below (zQc E Q) args s 0 0 (zaA E))) Q) := by
  unfold b_X9_noteMissing_18
  exact lk_aln B dX9_noteMissing_18 rfl (lk_gf (T := TX9) B cl_X9 (by decide) in_X9 zw_219 dX9_noteMissing_19 (lk_aln B dX9_noteMissing_22 rfl (lk_gf (T := TX9) B cl_X9 (by decide) in_X9 zw_220 dX9_noteMissing_23 (lk_iln B dX9_noteMissing_26 rfl (lk_iast B dX9_noteMissing_27 (lk_aln B dX9_noteMissing_28 rfl (lk_dup B dX9_noteMissing_29 (lk_gf (T := TX9) B cl_X9 (by decide) in_X9 zw_220 dX9_noteMissing_30 (lk_c B dX9_noteMissing_33 (lk_add B dX9_noteMissing_34 (lk_pf (T := TX9) B cl_X9 (by decide) in_X9 tyX9_ok nmX9 zw_220 rfl (by decide +kernel) dX9_noteMissing_35 (k_X9_noteMissing_38 hd1 B hr hlk))))))))))))
set_option maxRecDepth 20000 in
theorem k_X9_noteMissing_10 {p : Program} {l : Launch} {e : Env} {s : State} {m : MethodId} {args : Array Value} {below : List Frame} {meth : Method} {c : Code} {E : zE} {d : Nat} {Q : zQ} (hd1 : 1 ≤ d) (B : zB p s m args c E mX9_noteMissing.1.cls mX9_noteMissing.2.1 mX9_noteMissing.2.2.1) (hr : meth.sig.returnType = mX9_noteMissing.2.2.2) (hlk : meth.locks = false) : zLk (zG p l e (zrm d) s m args below meth c E mX9_noteMissing.2.2.1 0 0 (MQ below (zQc E Q) args s 0 0 (zaA E))) 10 (b_X9_noteMissing_10 d (zG p l e (zrm d) s m args below meth c E mX9_noteMissing.2.2.1 0 0 (MQ below (zQc E Q) args s 0 0 (zaA E))) Q) := by
  unfold b_X9_noteMissing_10
  exact lk_aln B dX9_noteMissing_10 rfl (lk_iln B dX9_noteMissing_11 rfl (lk_callv (M := mX9_misses) (T := TX9) (N := 5) B (zhR hd1 (by decide)) ⟨Nat.zero_le _, Nat.zero_le _⟩ cl_X9 (zw5 zw_446 zw_443 zw_444 zw_445 zw_57) (by decide +kernel) dX9_noteMissing_12 (lk_zne B dX9_noteMissing_15 (by decide) (k_X9_noteMissing_38 hd1 B hr hlk) (k_X9_noteMissing_18 hd1 B hr hlk))))
set_option maxRecDepth 20000 in
theorem k_X9_noteMissing_0 {p : Program} {l : Launch} {e : Env} {s : State} {m : MethodId} {args : Array Value} {below : List Frame} {meth : Method} {c : Code} {E : zE} {d : Nat} {Q : zQ} (hd1 : 1 ≤ d) (B : zB p s m args c E mX9_noteMissing.1.cls mX9_noteMissing.2.1 mX9_noteMissing.2.2.1) (hr : meth.sig.returnType = mX9_noteMissing.2.2.2) (hlk : meth.locks = false) : zLk (zG p l e (zrm d) s m args below meth c E mX9_noteMissing.2.2.1 0 0 (MQ below (zQc E Q) args s 0 0 (zaA E))) 0 (b_X9_noteMissing_0 d (zG p l e (zrm d) s m args below meth c E mX9_noteMissing.2.2.1 0 0 (MQ below (zQc E Q) args s 0 0 (zaA E))) Q) := by
  unfold b_X9_noteMissing_0
  exact lk_aln B dX9_noteMissing_0 rfl (lk_gf (T := TX9) B cl_X9 (by decide) in_X9 zw_220 dX9_noteMissing_1 (lk_s B dX9_noteMissing_4 rfl (lk_igt B dX9_noteMissing_7 (by decide) (k_X9_noteMissing_38 hd1 B hr hlk) (k_X9_noteMissing_10 hd1 B hr hlk))))
def S_X9_noteMissing (d : Nat) (G : Nat → zK) (Q : zQ) : Prop := zLk G 0 (b_X9_noteMissing_0 d G Q)
theorem s_X9_noteMissing_0 {d : Nat} {G : Nat → zK} {Q : zQ} (h : S_X9_noteMissing d G Q) {ls st : List zV} {μ : zM} (k : b_X9_noteMissing_0 d G Q ls st μ) : G 0 ls st μ := h ls st μ k
theorem of_X9_noteMissing {d : Nat} {a0 a1 : zV} {μ : zM} {Q : zQ} (hd1 : 1 ≤ d) (h : ∀ G : Nat → zK, S_X9_noteMissing d G Q → G 0 [a0, a1] [] μ) : zCt d mX9_noteMissing [a0, a1] μ Q := zCt.mk (by decide) (Nat.le_of_ble_eq_true rfl) (fun p l e s m args below meth c E B hr hlk => h _ (k_X9_noteMissing_0 hd1 B hr hlk))
