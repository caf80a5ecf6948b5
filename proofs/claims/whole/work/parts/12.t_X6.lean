theorem dX6_count_0 : decode cX6_count 0 = .ok (.aload_n 0, 1) := by decide +kernel
theorem dX6_count_1 : decode cX6_count 1 = .ok (.getfield 27, 3) := by decide +kernel
theorem dX6_count_4 : decode cX6_count 4 = .ok (.ireturn, 1) := by decide +kernel
def b_X6_count_0 (d : Nat) (G : Nat → zK) (Q : zQ) : zK := o_al 0 <| o_gf 4 4 <| t_iret Q
set_option maxRecDepth 20000 in
theorem k_X6_count_0 {p : Program} {l : Launch} {e : Env} {s : State} {m : MethodId} {args : Array Value} {below : List Frame} {meth : Method} {c : Code} {E : zE} {d : Nat} {Q : zQ} (B : zB p s m args c E mX6_count.1.cls mX6_count.2.1 mX6_count.2.2.1) (hr : meth.sig.returnType = mX6_count.2.2.2) (hlk : meth.locks = false) : zLk (zG p l e (zrm d) s m args below meth c E mX6_count.2.2.1 0 0 (MQ below (zQc E Q) args s 0 0 (zaA E))) 0 (b_X6_count_0 d (zG p l e (zrm d) s m args below meth c E mX6_count.2.2.1 0 0 (MQ below (zQc E Q) args s 0 0 (zaA E))) Q) := by
  unfold b_X6_count_0
  exact lk_aln B dX6_count_0 rfl (lk_gf (T := TX6) B cl_X6 (by decide) in_X6 zw_89 dX6_count_1 (lk_iret B hr hlk dX6_count_4))
def S_X6_count (d : Nat) (G : Nat → zK) (Q : zQ) : Prop := zLk G 0 (b_X6_count_0 d G Q)
theorem s_X6_count_0 {d : Nat} {G : Nat → zK} {Q : zQ} (h : S_X6_count d G Q) {ls st : List zV} {μ : zM} (k : b_X6_count_0 d G Q ls st μ) : G 0 ls st μ := h ls st μ k
theorem of_X6_count {d : Nat} {a0 : zV} {μ : zM} {Q : zQ} (h : ∀ G : Nat → zK, S_X6_count d G Q → G 0 [a0] [] μ) : zCt d mX6_count [a0] μ Q := zCt.mk (by decide) (Nat.le_of_ble_eq_true rfl) (fun p l e s m args below meth c E B hr hlk => h _ (k_X6_count_0 B hr hlk))
theorem dX6_isFull_0 : decode cX6_isFull 0 = .ok (.aload_n 0, 1) := by decide +kernel
theorem dX6_isFull_1 : decode cX6_isFull 1 = .ok (.getfield 27, 3) := by decide +kernel
theorem dX6_isFull_4 : decode cX6_isFull 4 = .ok (.aload_n 0, 1) := by decide +kernel
theorem dX6_isFull_5 : decode cX6_isFull 5 = .ok (.getfield 9, 3) := by decide +kernel
theorem dX6_isFull_8 : decode cX6_isFull 8 = .ok (.if_icmp .lt 7, 3) := by decide +kernel
theorem dX6_isFull_11 : decode cX6_isFull 11 = .ok (.iconst 1, 1) := by decide +kernel
theorem dX6_isFull_12 : decode cX6_isFull 12 = .ok (.goto 4, 3) := by decide +kernel
theorem dX6_isFull_15 : decode cX6_isFull 15 = .ok (.iconst 0, 1) := by decide +kernel
theorem dX6_isFull_16 : decode cX6_isFull 16 = .ok (.ireturn, 1) := by decide +kernel
def b_X6_isFull_16 (d : Nat) (G : Nat → zK) (Q : zQ) : zK := t_zret Q
def b_X6_isFull_15 (d : Nat) (G : Nat → zK) (Q : zQ) : zK := o_c 0 <| b_X6_isFull_16 d G Q
def b_X6_isFull_11 (d : Nat) (G : Nat → zK) (Q : zQ) : zK := o_c 1 <| b_X6_isFull_16 d G Q
def b_X6_isFull_0 (d : Nat) (G : Nat → zK) (Q : zQ) : zK := o_al 0 <| o_gf 4 4 <| o_al 0 <| o_gf 4 0 <| t_ilt (b_X6_isFull_15 d G Q) (b_X6_isFull_11 d G Q)
set_option maxRecDepth 20000 in
theorem k_X6_isFull_16 {p : Program} {l : Launch} {e : Env} {s : State} {m : MethodId} {args : Array Value} {below : List Frame} {meth : Method} {c : Code} {E : zE} {d : Nat} {Q : zQ} (B : zB p s m args c E mX6_isFull.1.cls mX6_isFull.2.1 mX6_isFull.2.2.1) (hr : meth.sig.returnType = mX6_isFull.2.2.2) (hlk : meth.locks = false) : zLk (zG p l e (zrm d) s m args below meth c E mX6_isFull.2.2.1 0 0 (MQ below (zQc E Q) args s 0 0 (zaA E))) 16 (b_X6_isFull_16 d (zG p l e (zrm d) s m args below meth c E mX6_isFull.2.2.1 0 0 (MQ below (zQc E Q) args s 0 0 (zaA E))) Q) := by
  unfold b_X6_isFull_16
  exact lk_zret B hr hlk dX6_isFull_16
set_option maxRecDepth 20000 in
theorem k_X6_isFull_15 {p : Program} {l : Launch} {e : Env} {s : State} {m : MethodId} {args : Array Value} {below : List Frame} {meth : Method} {c : Code} {E : zE} {d : Nat} {Q : zQ} (B : zB p s m args c E mX6_isFull.1.cls mX6_isFull.2.1 mX6_isFull.2.2.1) (hr : meth.sig.returnType = mX6_isFull.2.2.2) (hlk : meth.locks = false) : zLk (zG p l e (zrm d) s m args below meth c E mX6_isFull.2.2.1 0 0 (MQ below (zQc E Q) args s 0 0 (zaA E))) 15 (b_X6_isFull_15 d (zG p l e (zrm d) s m args below meth c E mX6_isFull.2.2.1 0 0 (MQ below (zQc E Q) args s 0 0 (zaA E))) Q) := by
  unfold b_X6_isFull_15
  exact lk_c B dX6_isFull_15 (k_X6_isFull_16 B hr hlk)
set_option maxRecDepth 20000 in
theorem k_X6_isFull_11 {p : Program} {l : Launch} {e : Env} {s : State} {m : MethodId} {args : Array Value} {below : List Frame} {meth : Method} {c : Code} {E : zE} {d : Nat} {Q : zQ} (B : zB p s m args c E mX6_isFull.1.cls mX6_isFull.2.1 mX6_isFull.2.2.1) (hr : meth.sig.returnType = mX6_isFull.2.2.2) (hlk : meth.locks = false) : zLk (zG p l e (zrm d) s m args below meth c E mX6_isFull.2.2.1 0 0 (MQ below (zQc E Q) args s 0 0 (zaA E))) 11 (b_X6_isFull_11 d (zG p l e (zrm d) s m args below meth c E mX6_isFull.2.2.1 0 0 (MQ below (zQc E Q) args s 0 0 (zaA E))) Q) := by
  unfold b_X6_isFull_11
  exact lk_c B dX6_isFull_11 (lk_goto B dX6_isFull_12 (by decide) (k_X6_isFull_16 B hr hlk))
set_option maxRecDepth 20000 in
theorem k_X6_isFull_0 {p : Program} {l : Launch} {e : Env} {s : State} {m : MethodId} {args : Array Value} {below : List Frame} {meth : Method} {c : Code} {E : zE} {d : Nat} {Q : zQ} (B : zB p s m args c E mX6_isFull.1.cls mX6_isFull.2.1 mX6_isFull.2.2.1) (hr : meth.sig.returnType = mX6_isFull.2.2.2) (hlk : meth.locks = false) : zLk (zG p l e (zrm d) s m args below meth c E mX6_isFull.2.2.1 0 0 (MQ below (zQc E Q) args s 0 0 (zaA E))) 0 (b_X6_isFull_0 d (zG p l e (zrm d) s m args below meth c E mX6_isFull.2.2.1 0 0 (MQ below (zQc E Q) args s 0 0 (zaA E))) Q) := by
  unfold b_X6_isFull_0
  exact lk_aln B dX6_isFull_0 rfl (lk_gf (T := TX6) B cl_X6 (by decide) in_X6 zw_89 dX6_isFull_1 (lk_aln B dX6_isFull_4 rfl (lk_gf (T := TX6) B cl_X6 (by decide) in_X6 zw_85 dX6_isFull_5 (lk_ilt B dX6_isFull_8 (by decide) (k_X6_isFull_15 B hr hlk) (k_X6_isFull_11 B hr hlk)))))
def S_X6_isFull (d : Nat) (G : Nat → zK) (Q : zQ) : Prop := zLk G 0 (b_X6_isFull_0 d G Q)
theorem s_X6_isFull_0 {d : Nat} {G : Nat → zK} {Q : zQ} (h : S_X6_isFull d G Q) {ls st : List zV} {μ : zM} (k : b_X6_isFull_0 d G Q ls st μ) : G 0 ls st μ := h ls st μ k
theorem of_X6_isFull {d : Nat} {a0 : zV} {μ : zM} {Q : zQ} (h : ∀ G : Nat → zK, S_X6_isFull d G Q → G 0 [a0] [] μ) : zCt d mX6_isFull [a0] μ Q := zCt.mk (by decide) (Nat.le_of_ble_eq_true rfl) (fun p l e s m args below meth c E B hr hlk => h _ (k_X6_isFull_0 B hr hlk))
theorem dX6_hasSlot_0 : decode cX6_hasSlot 0 = .ok (.iload_n 1, 1) := by decide +kernel
theorem dX6_hasSlot_1 : decode cX6_hasSlot 1 = .ok (.ifCond .lt 15, 3) := by decide +kernel
theorem dX6_hasSlot_4 : decode cX6_hasSlot 4 = .ok (.iload_n 1, 1) := by decide +kernel
theorem dX6_hasSlot_5 : decode cX6_hasSlot 5 = .ok (.aload_n 0, 1) := by decide +kernel
theorem dX6_hasSlot_6 : decode cX6_hasSlot 6 = .ok (.getfield 27, 3) := by decide +kernel
theorem dX6_hasSlot_9 : decode cX6_hasSlot 9 = .ok (.if_icmp .ge 7, 3) := by decide +kernel
theorem dX6_hasSlot_12 : decode cX6_hasSlot 12 = .ok (.iconst 1, 1) := by decide +kernel
theorem dX6_hasSlot_13 : decode cX6_hasSlot 13 = .ok (.goto 4, 3) := by decide +kernel
theorem dX6_hasSlot_16 : decode cX6_hasSlot 16 = .ok (.iconst 0, 1) := by decide +kernel
theorem dX6_hasSlot_17 : decode cX6_hasSlot 17 = .ok (.ireturn, 1) := by decide +kernel
def b_X6_hasSlot_17 (d : Nat) (G : Nat → zK) (Q : zQ) : zK := t_zret Q
def b_X6_hasSlot_16 (d : Nat) (G : Nat → zK) (Q : zQ) : zK := o_c 0 <| b_X6_hasSlot_17 d G Q
def b_X6_hasSlot_12 (d : Nat) (G : Nat → zK) (Q : zQ) : zK := o_c 1 <| b_X6_hasSlot_17 d G Q
def b_X6_hasSlot_4 (d : Nat) (G : Nat → zK) (Q : zQ) : zK := o_il 1 <| o_al 0 <| o_gf 4 4 <| t_ilt (b_X6_hasSlot_12 d G Q) (b_X6_hasSlot_16 d G Q)
def b_X6_hasSlot_0 (d : Nat) (G : Nat → zK) (Q : zQ) : zK := o_il 1 <| t_zlt (b_X6_hasSlot_16 d G Q) (b_X6_hasSlot_4 d G Q)
set_option maxRecDepth 20000 in
theorem k_X6_hasSlot_17 {p : Program} {l : Launch} {e : Env} {s : State} {m : MethodId} {args : Array Value} {below : List Frame} {meth : Method} {c : Code} {E : zE} {d : Nat} {Q : zQ} (B : zB p s m args c E mX6_hasSlot.1.cls mX6_hasSlot.2.1 mX6_hasSlot.2.2.1) (hr : meth.sig.returnType = mX6_hasSlot.2.2.2) (hlk : meth.locks = false) : zLk (zG p l e (zrm d) s m args below meth c E mX6_hasSlot.2.2.1 0 0 (MQ below (zQc E Q) args s 0 0 (zaA E))) 17 (b_X6_hasSlot_17 d (zG p l e (zrm d) s m args below meth c E mX6_hasSlot.2.2.1 0 0 (MQ below (zQc E Q) args s 0 0 (zaA E))) Q) := by
  unfold b_X6_hasSlot_17
  exact lk_zret B hr hlk dX6_hasSlot_17
set_option maxRecDepth 20000 in
theorem k_X6_hasSlot_16 {p : Program} {l : Launch} {e : Env} {s : State} {m : MethodId} {args : Array Value} {below : List Frame} {meth : Method} {c : Code} {E : zE} {d : Nat} {Q : zQ} (B : zB p s m args c E mX6_hasSlot.1.cls mX6_hasSlot.2.1 mX6_hasSlot.2.2.1) (hr : meth.sig.returnType = mX6_hasSlot.2.2.2) (hlk : meth.locks = false) : zLk (zG p l e (zrm d) s m args below meth c E mX6_hasSlot.2.2.1 0 0 (MQ below (zQc E Q) args s 0 0 (zaA E))) 16 (b_X6_hasSlot_16 d (zG p l e (zrm d) s m args below meth c E mX6_hasSlot.2.2.1 0 0 (MQ below (zQc E Q) args s 0 0 (zaA E))) Q) := by
  unfold b_X6_hasSlot_16
  exact lk_c B dX6_hasSlot_16 (k_X6_hasSlot_17 B hr hlk)
set_option maxRecDepth 20000 in
theorem k_X6_hasSlot_12 {p : Program} {l : Launch} {e : Env} {s : State} {m : MethodId} {args : Array Value} {below : List Frame} {meth : Method} {c : Code} {E : zE} {d : Nat} {Q : zQ} (B : zB p s m args c E mX6_hasSlot.1.cls mX6_hasSlot.2.1 mX6_hasSlot.2.2.1) (hr : meth.sig.returnType = mX6_hasSlot.2.2.2) (hlk : meth.locks = false) : zLk (zG p l e (zrm d) s m args below meth c E mX6_hasSlot.2.2.1 0 0 (MQ below (zQc E Q) args s 0 0 (zaA E))) 12 (b_X6_hasSlot_12 d (zG p l e (zrm d) s m args below meth c E mX6_hasSlot.2.2.1 0 0 (MQ below (zQc E Q) args s 0 0 (zaA E))) Q) := by
  unfold b_X6_hasSlot_12
  exact lk_c B dX6_hasSlot_12 (lk_goto B dX6_hasSlot_13 (by decide) (k_X6_hasSlot_17 B hr hlk))
set_option maxRecDepth 20000 in
theorem k_X6_hasSlot_4 {p : Program} {l : Launch} {e : Env} {s : State} {m : MethodId} {args : Array Value} {below : List Frame} {meth : Method} {c : Code} {E : zE} {d : Nat} {Q : zQ} (B : zB p s m args c E mX6_hasSlot.1.cls mX6_hasSlot.2.1 mX6_hasSlot.2.2.1) (hr : meth.sig.returnType = mX6_hasSlot.2.2.2) (hlk : meth.locks = false) : zLk (zG p l e (zrm d) s m args below meth c E mX6_hasSlot.2.2.1 0 0 (MQ below (zQc E Q) args s 0 0 (zaA E))) 4 (b_X6_hasSlot_4 d (zG p l e (zrm d) s m args below meth c E mX6_hasSlot.2.2.1 0 0 (MQ below (zQc E Q) args s 0 0 (zaA E))) Q) := by
  unfold b_X6_hasSlot_4
  exact lk_iln B dX6_hasSlot_4 rfl (lk_aln B dX6_hasSlot_5 rfl (lk_gf (T := TX6) B cl_X6 (by decide) in_X6 zw_89 dX6_hasSlot_6 (lk_ige B dX6_hasSlot_9 (by decide) (k_X6_hasSlot_16 B hr hlk) (k_X6_hasSlot_12 B hr hlk))))
set_option maxRecDepth 20000 in
theorem k_X6_hasSlot_0 {p : Program} {l : Launch} {e : Env} {s : State} {m : MethodId} {args : Array Value} {below : List Frame} {meth : Method} {c : Code} {E : zE} {d : Nat} {Q : zQ} (B : zB p s m args c E mX6_hasSlot.1.cls mX6_hasSlot.2.1 mX6_hasSlot.2.2.1) (hr : meth.sig.returnType = mX6_hasSlot.2.2.2) (hlk : meth.locks = false) : zLk (zG p l e (zrm d) s m args below meth c E mX6_hasSlot.2.2.1 0 0 (MQ below (zQc E Q) args s 0 0 (zaA E))) 0 (b_X6_hasSlot_0 d (zG p l e (zrm d) s m args below meth c E mX6_hasSlot.2.2.1 0 0 (MQ below (zQc E Q) args s 0 0 (zaA E))) Q) := by
  unfold b_X6_hasSlot_0
  exact lk_iln B dX6_hasSlot_0 rfl (lk_zlt B dX6_hasSlot_1 (by decide) (k_X6_hasSlot_16 B hr hlk) (k_X6_hasSlot_4 B hr hlk))
def S_X6_hasSlot (d : Nat) (G : Nat → zK) (Q : zQ) : Prop := zLk G 0 (b_X6_hasSlot_0 d G Q)
theorem s_X6_hasSlot_0 {d : Nat} {G : Nat → zK} {Q : zQ} (h : S_X6_hasSlot d G Q) {ls st : List zV} {μ : zM} (k : b_X6_hasSlot_0 d G Q ls st μ) : G 0 ls st μ := h ls st μ k
theorem of_X6_hasSlot {d : Nat} {a0 a1 : zV} {μ : zM} {Q : zQ} (h : ∀ G : Nat → zK, S_X6_hasSlot d G Q → G 0 [a0, a1] [] μ) : zCt d mX6_hasSlot [a0, a1] μ Q := zCt.mk (by decide) (Nat.le_of_ble_eq_true rfl) (fun p l e s m args below meth c E B hr hlk => h _ (k_X6_hasSlot_0 B hr hlk))
theorem dX6_slotOf_0 : decode cX6_slotOf 0 = .ok (.iconst 0, 1) := by decide +kernel
theorem dX6_slotOf_1 : decode cX6_slotOf 1 = .ok (.istore_n 2, 1) := by decide +kernel
theorem dX6_slotOf_2 : decode cX6_slotOf 2 = .ok (.iload_n 2, 1) := by decide +kernel
theorem dX6_slotOf_3 : decode cX6_slotOf 3 = .ok (.aload_n 0, 1) := by decide +kernel
theorem dX6_slotOf_4 : decode cX6_slotOf 4 = .ok (.getfield 27, 3) := by decide +kernel
theorem dX6_slotOf_7 : decode cX6_slotOf 7 = .ok (.if_icmp .ge 21, 3) := by decide +kernel
theorem dX6_slotOf_10 : decode cX6_slotOf 10 = .ok (.aload_n 0, 1) := by decide +kernel
theorem dX6_slotOf_11 : decode cX6_slotOf 11 = .ok (.getfield 24, 3) := by decide +kernel
theorem dX6_slotOf_14 : decode cX6_slotOf 14 = .ok (.iload_n 2, 1) := by decide +kernel
theorem dX6_slotOf_15 : decode cX6_slotOf 15 = .ok (.iaload, 1) := by decide +kernel
theorem dX6_slotOf_16 : decode cX6_slotOf 16 = .ok (.iload_n 1, 1) := by decide +kernel
theorem dX6_slotOf_17 : decode cX6_slotOf 17 = .ok (.if_icmp .ne 5, 3) := by decide +kernel
theorem dX6_slotOf_20 : decode cX6_slotOf 20 = .ok (.iload_n 2, 1) := by decide +kernel
theorem dX6_slotOf_21 : decode cX6_slotOf 21 = .ok (.ireturn, 1) := by decide +kernel
theorem dX6_slotOf_22 : decode cX6_slotOf 22 = .ok (.iinc 2 1, 3) := by decide +kernel
theorem dX6_slotOf_25 : decode cX6_slotOf 25 = .ok (.goto (-23), 3) := by decide +kernel
theorem dX6_slotOf_28 : decode cX6_slotOf 28 = .ok (.iconst (-1), 1) := by decide +kernel
theorem dX6_slotOf_29 : decode cX6_slotOf 29 = .ok (.ireturn, 1) := by decide +kernel
def b_X6_slotOf_0 (d : Nat) (G : Nat → zK) (Q : zQ) : zK := o_c 0 <| o_is 2 <| G 2
def b_X6_slotOf_28 (d : Nat) (G : Nat → zK) (Q : zQ) : zK := o_c (-1) <| t_iret Q
def b_X6_slotOf_22 (d : Nat) (G : Nat → zK) (Q : zQ) : zK := o_inc 2 1 <| G 2
def b_X6_slotOf_20 (d : Nat) (G : Nat → zK) (Q : zQ) : zK := o_il 2 <| t_iret Q
def b_X6_slotOf_10 (d : Nat) (G : Nat → zK) (Q : zQ) : zK := o_al 0 <| o_gf 4 3 <| o_il 2 <| o_iald <| o_il 1 <| t_ieq (b_X6_slotOf_20 d G Q) (b_X6_slotOf_22 d G Q)
def b_X6_slotOf_2 (d : Nat) (G : Nat → zK) (Q : zQ) : zK := o_il 2 <| o_al 0 <| o_gf 4 4 <| t_ilt (b_X6_slotOf_10 d G Q) (b_X6_slotOf_28 d G Q)
set_option maxRecDepth 20000 in
theorem k_X6_slotOf_0 {p : Program} {l : Launch} {e : Env} {s : State} {m : MethodId} {args : Array Value} {below : List Frame} {meth : Method} {c : Code} {E : zE} {d : Nat} {Q : zQ} (B : zB p s m args c E mX6_slotOf.1.cls mX6_slotOf.2.1 mX6_slotOf.2.2.1) (hr : meth.sig.returnType = mX6_slotOf.2.2.2) (hlk : meth.locks = false) : zLk (zG p l e (zrm d) s m args below meth c E mX6_slotOf.2.2.1 0 0 (MQ below (zQc E Q) args s 0 0 (zaA E))) 0 (b_X6_slotOf_0 d (zG p l e (zrm d) s m args below meth c E mX6_slotOf.2.2.1 0 0 (MQ below (zQc E Q) args s 0 0 (zaA E))) Q) := by
  unfold b_X6_slotOf_0
  exact lk_c B dX6_slotOf_0 (lk_isn B dX6_slotOf_1 rfl (by decide) (fun _ _ _ h => h))
set_option maxRecDepth 20000 in
theorem k_X6_slotOf_28 {p : Program} {l : Launch} {e : Env} {s : State} {m : MethodId} {args : Array Value} {below : List Frame} {meth : Method} {c : Code} {E : zE} {d : Nat} {Q : zQ} (B : zB p s m args c E mX6_slotOf.1.cls mX6_slotOf.2.1 mX6_slotOf.2.2.1) (hr : meth.sig.returnType = mX6_slotOf.2.2.2) (hlk : meth.locks = false) : zLk (zG p l e (zrm d) s m args below meth c E mX6_slotOf.2.2.1 0 0 (MQ below (zQc E Q) args s 0 0 (zaA E))) 28 (b_X6_slotOf_28 d (zG p l e (zrm d) s m args below meth c E mX6_slotOf.2.2.1 0 0 (MQ below (zQc E Q) args s 0 0 (zaA E))) Q) := by
  unfold b_X6_slotOf_28
  exact lk_c B dX6_slotOf_28 (lk_iret B hr hlk dX6_slotOf_29)
set_option maxRecDepth 20000 in
theorem k_X6_slotOf_22 {p : Program} {l : Launch} {e : Env} {s : State} {m : MethodId} {args : Array Value} {below : List Frame} {meth : Method} {c : Code} {E : zE} {d : Nat} {Q : zQ} (B : zB p s m args c E mX6_slotOf.1.cls mX6_slotOf.2.1 mX6_slotOf.2.2.1) (hr : meth.sig.returnType = mX6_slotOf.2.2.2) (hlk : meth.locks = false) : zLk (zG p l e (zrm d) s m args below meth c E mX6_slotOf.2.2.1 0 0 (MQ below (zQc E Q) args s 0 0 (zaA E))) 22 (b_X6_slotOf_22 d (zG p l e (zrm d) s m args below meth c E mX6_slotOf.2.2.1 0 0 (MQ below (zQc E Q) args s 0 0 (zaA E))) Q) := by
  unfold b_X6_slotOf_22
  exact lk_inc B dX6_slotOf_22 (by decide) (lk_goto B dX6_slotOf_25 (by decide) (fun _ _ _ h => h))
set_option maxRecDepth 20000 in
theorem k_X6_slotOf_20 {p : Program} {l : Launch} {e : Env} {s : State} {m : MethodId} {args : Array Value} {below : List Frame} {meth : Method} {c : Code} {E : zE} {d : Nat} {Q : zQ} (B : zB p s m args c E mX6_slotOf.1.cls mX6_slotOf.2.1 mX6_slotOf.2.2.1) (hr : meth.sig.returnType = mX6_slotOf.2.2.2) (hlk : meth.locks = false) : zLk (zG p l e (zrm d) s m args below meth c E mX6_slotOf.2.2.1 0 0 (MQ below (zQc E Q) args s 0 0 (zaA E))) 20 (b_X6_slotOf_20 d (zG p l e (zrm d) s m args below meth c E mX6_slotOf.2.2.1 0 0 (MQ below (zQc E Q) args s 0 0 (zaA E))) Q) := by
  unfold b_X6_slotOf_20
  exact lk_iln B dX6_slotOf_20 rfl (lk_iret B hr hlk dX6_slotOf_21)
set_option maxRecDepth 20000 in
theorem k_X6_slotOf_10 {p : Program} {l : Launch} {e : Env} {s : State} {m : MethodId} {args : Array Value} {below : List Frame} {meth : Method} {c : Code} {E : zE} {d : Nat} {Q : zQ} (B : zB p s m args c E mX6_slotOf.1.cls mX6_slotOf.2.1 mX6_slotOf.2.2.1) (hr : meth.sig.returnType = mX6_slotOf.2.2.2) (hlk : meth.locks = false) : zLk (zG p l e (zrm d) s m args below meth c E mX6_slotOf.2.2.1 0 0 (MQ below (zQc E Q) args s 0 0 (zaA E))) 10 (b_X6_slotOf_10 d (zG p l e (zrm d) s m args below meth c E mX6_slotOf.2.2.1 0 0 (MQ below (zQc E Q) args s 0 0 (zaA E))) Q) := by
  unfold b_X6_slotOf_10
  exact lk_aln B dX6_slotOf_10 rfl (lk_gf (T := TX6) B cl_X6 (by decide) in_X6 zw_88 dX6_slotOf_11 (lk_iln B dX6_slotOf_14 rfl (lk_iald B dX6_slotOf_15 (lk_iln B dX6_slotOf_16 rfl (lk_ine B dX6_slotOf_17 (by decide) (k_X6_slotOf_22 B hr hlk) (k_X6_slotOf_20 B hr hlk))))))
set_option maxRecDepth 20000 in
theorem k_X6_slotOf_2 {p : Program} {l : Launch} {e : Env} {s : State} {m : MethodId} {args : Array Value} {below : List Frame} {meth : Method} {c : Code} {E : zE} {d : Nat} {Q : zQ} (B : zB p s m args c E mX6_slotOf.1.cls mX6_slotOf.2.1 mX6_slotOf.2.2.1) (hr : meth.sig.returnType = mX6_slotOf.2.2.2) (hlk : meth.locks = false) : zLk (zG p l e (zrm d) s m args below meth c E mX6_slotOf.2.2.1 0 0 (MQ below (zQc E Q) args s 0 0 (zaA E))) 2 (b_X6_slotOf_2 d (zG p l e (zrm d) s m args below meth c E mX6_slotOf.2.2.1 0 0 (MQ below (zQc E Q) args s 0 0 (zaA E))) Q) := by
  unfold b_X6_slotOf_2
  exact lk_iln B dX6_slotOf_2 rfl (lk_aln B dX6_slotOf_3 rfl (lk_gf (T := TX6) B cl_X6 (by decide) in_X6 zw_89 dX6_slotOf_4 (lk_ige B dX6_slotOf_7 (by decide) (k_X6_slotOf_28 B hr hlk) (k_X6_slotOf_10 B hr hlk))))
def S_X6_slotOf (d : Nat) (G : Nat → zK) (Q : zQ) : Prop := zLk G 0 (b_X6_slotOf_0 d G Q) ∧ zLk G 2 (b_X6_slotOf_2 d G Q)
theorem s_X6_slotOf_0 {d : Nat} {G : Nat → zK} {Q : zQ} (h : S_X6_slotOf d G Q) {ls st : List zV} {μ : zM} (k : b_X6_slotOf_0 d G Q ls st μ) : G 0 ls st μ := h.1 ls st μ k
theorem s_X6_slotOf_2 {d : Nat} {G : Nat → zK} {Q : zQ} (h : S_X6_slotOf d G Q) {ls st : List zV} {μ : zM} (k : b_X6_slotOf_2 d G Q ls st μ) : G 2 ls st μ := h.2 ls st μ k
theorem of_X6_slotOf {d : Nat} {a0 a1 : zV} {μ : zM} {Q : zQ} (h : ∀ G : Nat → zK, S_X6_slotOf d G Q → G 0 [a0, a1, .inr none] [] μ) : zCt d mX6_slotOf [a0, a1] μ Q := zCt.mk (by decide) (Nat.le_of_ble_eq_true rfl) (fun p l e s m args below meth c E B hr hlk => h _ ⟨k_X6_slotOf_0 B hr hlk, k_X6_slotOf_2 B hr hlk⟩)
theorem dX6_nameAt_0 : decode cX6_nameAt 0 = .ok (.aload_n 0, 1) := by decide +kernel
theorem dX6_nameAt_1 : decode cX6_nameAt 1 = .ok (.iload_n 1, 1) := by decide +kernel
theorem dX6_nameAt_2 : decode cX6_nameAt 2 = .ok (.invokevirtual 30, 3) := by decide +kernel
theorem dX6_nameAt_5 : decode cX6_nameAt 5 = .ok (.ifCond .eq 12, 3) := by decide +kernel
theorem dX6_nameAt_8 : decode cX6_nameAt 8 = .ok (.aload_n 0, 1) := by decide +kernel
theorem dX6_nameAt_9 : decode cX6_nameAt 9 = .ok (.getfield 24, 3) := by decide +kernel
theorem dX6_nameAt_12 : decode cX6_nameAt 12 = .ok (.iload_n 1, 1) := by decide +kernel
theorem dX6_nameAt_13 : decode cX6_nameAt 13 = .ok (.iaload, 1) := by decide +kernel
theorem dX6_nameAt_14 : decode cX6_nameAt 14 = .ok (.goto 4, 3) := by decide +kernel
theorem dX6_nameAt_17 : decode cX6_nameAt 17 = .ok (.iconst (-1), 1) := by decide +kernel
theorem dX6_nameAt_18 : decode cX6_nameAt 18 = .ok (.ireturn, 1) := by decide +kernel
def b_X6_nameAt_18 (d : Nat) (G : Nat → zK) (Q : zQ) : zK := t_iret Q
def b_X6_nameAt_17 (d : Nat) (G : Nat → zK) (Q : zQ) : zK := o_c (-1) <| b_X6_nameAt_18 d G Q
def b_X6_nameAt_8 (d : Nat) (G : Nat → zK) (Q : zQ) : zK := o_al 0 <| o_gf 4 3 <| o_il 1 <| o_iald <| b_X6_nameAt_18 d G Q
def b_X6_nameAt_0 (d : Nat) (G : Nat → zK) (Q : zQ) : zK := o_al 0 <| o_il 1 <| o_callv (zCt (d - 1) mX6_hasSlot) 4 2 <| t_zeq (b_X6_nameAt_17 d G Q) (b_X6_nameAt_8 d G Q)
set_option maxRecDepth 20000 in
theorem k_X6_nameAt_18 {p : Program} {l : Launch} {e : Env} {s : State} {m : MethodId} {args : Array Value} {below : List Frame} {meth : Method} {c : Code} {E : zE} {d : Nat} {Q : zQ} (hd1 : 1 ≤ d) (B : zB p s m args c E mX6_nameAt.1.cls mX6_nameAt.2.1 mX6_nameAt.2.2.1) (hr : meth.sig.returnType = mX6_nameAt.2.2.2) (hlk : meth.locks = false) : zLk (zG p l e (zrm d) s m args below meth c E mX6_nameAt.2.2.1 0 0 (MQ below (zQc E Q) args s 0 0 (zaA E))) 18 (b_X6_nameAt_18 d (zG p l e (zrm d) s m args below meth c E mX6_nameAt.2.2.1 0 0 (MQ below (zQc E Q) args s 0 0 (zaA E))) Q) := by
  unfold b_X6_nameAt_18
  exact lk_iret B hr hlk dX6_nameAt_18
set_option maxRecDepth 20000 in
theorem k_X6_nameAt_17 {p : Program} {l : Launch} {e : Env} {s : State} {m : MethodId} {args : Array Value} {below : List Frame} {meth : Method} {c : Code} {E : zE} {d : Nat} {Q : zQ} (hd1 : 1 ≤ d) (B : zB p s m args c E mX6_nameAt.1.cls mX6_nameAt.2.1 mX6_nameAt.2.2.1) (hr : meth.sig.returnType = mX6_nameAt.2.2.2) (hlk : meth.locks = false) : zLk (zG p l e (zrm d) s m args below meth c E mX6_nameAt.2.2.1 0 0 (MQ below (zQc E Q) args s 0 0 (zaA E))) 17 (b_X6_nameAt_17 d (zG p l e (zrm d) s m args below meth c E mX6_nameAt.2.2.1 0 0 (MQ below (zQc E Q) args s 0 0 (zaA E))) Q) := by
  unfold b_X6_nameAt_17
  exact lk_c B dX6_nameAt_17 (k_X6_nameAt_18 hd1 B hr hlk)
set_option maxRecDepth 20000 in
theorem k_X6_nameAt_8 {p : Program} {l : Launch} {e : Env} {s : State} {m : MethodId} {args : Array Value} {below : List Frame} {meth : Method} {c : Code} {E : zE} {d : Nat} {Q : zQ} (hd1 : 1 ≤ d) (B : zB p s m args c E mX6_nameAt.1.cls mX6_nameAt.2.1 mX6_nameAt.2.2.1) (hr : meth.sig.returnType = mX6_nameAt.2.2.2) (hlk : meth.locks = false) : zLk (zG p l e (zrm d) s m args below meth c E mX6_nameAt.2.2.1 0 0 (MQ below (zQc E Q) args s 0 0 (zaA E))) 8 (b_X6_nameAt_8 d (zG p l e (zrm d) s m args below meth c E mX6_nameAt.2.2.1 0 0 (MQ below (zQc E Q) args s 0 0 (zaA E))) Q) := by
  unfold b_X6_nameAt_8
  exact lk_aln B dX6_nameAt_8 rfl (lk_gf (T := TX6) B cl_X6 (by decide) in_X6 zw_88 dX6_nameAt_9 (lk_iln B dX6_nameAt_12 rfl (lk_iald B dX6_nameAt_13 (lk_goto B dX6_nameAt_14 (by decide) (k_X6_nameAt_18 hd1 B hr hlk)))))
set_option maxRecDepth 20000 in
theorem k_X6_nameAt_0 {p : Program} {l : Launch} {e : Env} {s : State} {m : MethodId} {args : Array Value} {below : List Frame} {meth : Method} {c : Code} {E : zE} {d : Nat} {Q : zQ} (hd1 : 1 ≤ d) (B : zB p s m args c E mX6_nameAt.1.cls mX6_nameAt.2.1 mX6_nameAt.2.2.1) (hr : meth.sig.returnType = mX6_nameAt.2.2.2) (hlk : meth.locks = false) : zLk (zG p l e (zrm d) s m args below meth c E mX6_nameAt.2.2.1 0 0 (MQ below (zQc E Q) args s 0 0 (zaA E))) 0 (b_X6_nameAt_0 d (zG p l e (zrm d) s m args below meth c E mX6_nameAt.2.2.1 0 0 (MQ below (zQc E Q) args s 0 0 (zaA E))) Q) := by
  unfold b_X6_nameAt_0
  exact lk_aln B dX6_nameAt_0 rfl (lk_iln B dX6_nameAt_1 rfl (lk_callv (M := mX6_hasSlot) (T := TX6) (N := 5) B (zhR hd1 (by decide)) ⟨Nat.zero_le _, Nat.zero_le _⟩ cl_X6 (zw5 zw_329 zw_326 zw_327 zw_328 zw_51) (by decide +kernel) dX6_nameAt_2 (lk_zeq B dX6_nameAt_5 (by decide) (k_X6_nameAt_17 hd1 B hr hlk) (k_X6_nameAt_8 hd1 B hr hlk))))
def S_X6_nameAt (d : Nat) (G : Nat → zK) (Q : zQ) : Prop := zLk G 0 (b_X6_nameAt_0 d G Q)
theorem s_X6_nameAt_0 {d : Nat} {G : Nat → zK} {Q : zQ} (h : S_X6_nameAt d G Q) {ls st : List zV} {μ : zM} (k : b_X6_nameAt_0 d G Q ls st μ) : G 0 ls st μ := h ls st μ k
theorem of_X6_nameAt {d : Nat} {a0 a1 : zV} {μ : zM} {Q : zQ} (hd1 : 1 ≤ d) (h : ∀ G : Nat → zK, S_X6_nameAt d G Q → G 0 [a0, a1] [] μ) : zCt d mX6_nameAt [a0, a1] μ Q := zCt.mk (by decide) (Nat.le_of_ble_eq_true rfl) (fun p l e s m args below meth c E B hr hlk => h _ (k_X6_nameAt_0 hd1 B hr hlk))
theorem dX6_sizeAt_0 : decode cX6_sizeAt 0 = .ok (.aload_n 0, 1) := by decide +kernel
theorem dX6_sizeAt_1 : decode cX6_sizeAt 1 = .ok (.iload_n 1, 1) := by decide +kernel
theorem dX6_sizeAt_2 : decode cX6_sizeAt 2 = .ok (.invokevirtual 30, 3) := by decide +kernel
theorem dX6_sizeAt_5 : decode cX6_sizeAt 5 = .ok (.ifCond .eq 12, 3) := by decide +kernel
theorem dX6_sizeAt_8 : decode cX6_sizeAt 8 = .ok (.aload_n 0, 1) := by decide +kernel
theorem dX6_sizeAt_9 : decode cX6_sizeAt 9 = .ok (.getfield 21, 3) := by decide +kernel
theorem dX6_sizeAt_12 : decode cX6_sizeAt 12 = .ok (.iload_n 1, 1) := by decide +kernel
theorem dX6_sizeAt_13 : decode cX6_sizeAt 13 = .ok (.iaload, 1) := by decide +kernel
theorem dX6_sizeAt_14 : decode cX6_sizeAt 14 = .ok (.goto 4, 3) := by decide +kernel
theorem dX6_sizeAt_17 : decode cX6_sizeAt 17 = .ok (.iconst (-1), 1) := by decide +kernel
theorem dX6_sizeAt_18 : decode cX6_sizeAt 18 = .ok (.ireturn, 1) := by decide +kernel
def b_X6_sizeAt_18 (d : Nat) (G : Nat → zK) (Q : zQ) : zK := t_iret Q
def b_X6_sizeAt_17 (d : Nat) (G : Nat → zK) (Q : zQ) : zK := o_c (-1) <| b_X6_sizeAt_18 d G Q
def b_X6_sizeAt_8 (d : Nat) (G : Nat → zK) (Q : zQ) : zK := o_al 0 <| o_gf 4 2 <| o_il 1 <| o_iald <| b_X6_sizeAt_18 d G Q
def b_X6_sizeAt_0 (d : Nat) (G : Nat → zK) (Q : zQ) : zK := o_al 0 <| o_il 1 <| o_callv (zCt (d - 1) mX6_hasSlot) 4 2 <| t_zeq (b_X6_sizeAt_17 d G Q) (b_X6_sizeAt_8 d G Q)
set_option maxRecDepth 20000 in
theorem k_X6_sizeAt_18 {p : Program} {l : Launch} {e : Env} {s : State} {m : MethodId} {args : Array Value} {below : List Frame} {meth : Method} {c : Code} {E : zE} {d : Nat} {Q : zQ} (hd1 : 1 ≤ d) (B : zB p s m args c E mX6_sizeAt.1.cls mX6_sizeAt.2.1 mX6_sizeAt.2.2.1) (hr : meth.sig.returnType = mX6_sizeAt.2.2.2) (hlk : meth.locks = false) : zLk (zG p l e (zrm d) s m args below meth c E mX6_sizeAt.2.2.1 0 0 (MQ below (zQc E Q) args s 0 0 (zaA E))) 18 (b_X6_sizeAt_18 d (zG p l e (zrm d) s m args below meth c E mX6_sizeAt.2.2.1 0 0 (MQ below (zQc E Q) args s 0 0 (zaA E))) Q) := by
  unfold b_X6_sizeAt_18
  exact lk_iret B hr hlk dX6_sizeAt_18
set_option maxRecDepth 20000 in
theorem k_X6_sizeAt_17 {p : Program} {l : Launch} {e : Env} {s : State} {m : MethodId} {args : Array Value} {below : List Frame} {meth : Method} {c : Code} {E : zE} {d : Nat} {Q : zQ} (hd1 : 1 ≤ d) (B : zB p s m args c E mX6_sizeAt.1.cls mX6_sizeAt.2.1 mX6_sizeAt.2.2.1) (hr : meth.sig.returnType = mX6_sizeAt.2.2.2) (hlk : meth.locks = false) : zLk (zG p l e (zrm d) s m args below meth c E mX6_sizeAt.2.2.1 0 0 (MQ below (zQc E Q) args s 0 0 (zaA E))) 17 (b_X6_sizeAt_17 d (zG p l e (zrm d) s m args below meth c E mX6_sizeAt.2.2.1 0 0 (MQ below (zQc E Q) args s 0 0 (zaA E))) Q) := by
  unfold b_X6_sizeAt_17
  exact lk_c B dX6_sizeAt_17 (k_X6_sizeAt_18 hd1 B hr hlk)
set_option maxRecDepth 20000 in
theorem k_X6_sizeAt_8 {p : Program} {l : Launch} {e : Env} {s : State} {m : MethodId} {args : Array Value} {below : List Frame} {meth : Method} {c : Code} {E : zE} {d : Nat} {Q : zQ} (hd1 : 1 ≤ d) (B : zB p s m args c E mX6_sizeAt.1.cls mX6_sizeAt.2.1 mX6_sizeAt.2.2.1) (hr : meth.sig.returnType = mX6_sizeAt.2.2.2) (hlk : meth.locks = false) : zLk (zG p l e (zrm d) s m args below meth c E mX6_sizeAt.2.2.1 0 0 (MQ below (zQc E Q) args s 0 0 (zaA E))) 8 (b_X6_sizeAt_8 d (zG p l e (zrm d) s m args below meth c E mX6_sizeAt.2.2.1 0 0 (MQ below (zQc E Q) args s 0 0 (zaA E))) Q) := by
  unfold b_X6_sizeAt_8
  exact lk_aln B dX6_sizeAt_8 rfl (lk_gf (T := TX6) B cl_X6 (by decide) in_X6 zw_87 dX6_sizeAt_9 (lk_iln B dX6_sizeAt_12 rfl (lk_iald B dX6_sizeAt_13 (lk_goto B dX6_sizeAt_14 (by decide) (k_X6_sizeAt_18 hd1 B hr hlk)))))
set_option maxRecDepth 20000 in
theorem k_X6_sizeAt_0 {p : Program} {l : Launch} {e : Env} {s : State} {m : MethodId} {args : Array Value} {below : List Frame} {meth : Method} {c : Code} {E : zE} {d : Nat} {Q : zQ} (hd1 : 1 ≤ d) (B : zB p s m args c E mX6_sizeAt.1.cls mX6_sizeAt.2.1 mX6_sizeAt.2.2.1) (hr : meth.sig.returnType = mX6_sizeAt.2.2.2) (hlk : meth.locks = false) : zLk (zG p l e (zrm d) s m args below meth c E mX6_sizeAt.2.2.1 0 0 (MQ below (zQc E Q) args s 0 0 (zaA E))) 0 (b_X6_sizeAt_0 d (zG p l e (zrm d) s m args below meth c E mX6_sizeAt.2.2.1 0 0 (MQ below (zQc E Q) args s 0 0 (zaA E))) Q) := by
  unfold b_X6_sizeAt_0
  exact lk_aln B dX6_sizeAt_0 rfl (lk_iln B dX6_sizeAt_1 rfl (lk_callv (M := mX6_hasSlot) (T := TX6) (N := 5) B (zhR hd1 (by decide)) ⟨Nat.zero_le _, Nat.zero_le _⟩ cl_X6 (zw5 zw_329 zw_326 zw_327 zw_328 zw_51) (by decide +kernel) dX6_sizeAt_2 (lk_zeq B dX6_sizeAt_5 (by decide) (k_X6_sizeAt_17 hd1 B hr hlk) (k_X6_sizeAt_8 hd1 B hr hlk))))
def S_X6_sizeAt (d : Nat) (G : Nat → zK) (Q : zQ) : Prop := zLk G 0 (b_X6_sizeAt_0 d G Q)
theorem s_X6_sizeAt_0 {d : Nat} {G : Nat → zK} {Q : zQ} (h : S_X6_sizeAt d G Q) {ls st : List zV} {μ : zM} (k : b_X6_sizeAt_0 d G Q ls st μ) : G 0 ls st μ := h ls st μ k
theorem of_X6_sizeAt {d : Nat} {a0 a1 : zV} {μ : zM} {Q : zQ} (hd1 : 1 ≤ d) (h : ∀ G : Nat → zK, S_X6_sizeAt d G Q → G 0 [a0, a1] [] μ) : zCt d mX6_sizeAt [a0, a1] μ Q := zCt.mk (by decide) (Nat.le_of_ble_eq_true rfl) (fun p l e s m args below meth c E B hr hlk => h _ (k_X6_sizeAt_0 hd1 B hr hlk))
theorem dX6_kindAt_0 : decode cX6_kindAt 0 = .ok (.iload_n 1, 1) := by decide +kernel
theorem dX6_kindAt_1 : decode cX6_kindAt 1 = .ok (.ifCond .lt 21, 3) := by decide +kernel
theorem dX6_kindAt_4 : decode cX6_kindAt 4 = .ok (.iload_n 1, 1) := by decide +kernel
theorem dX6_kindAt_5 : decode cX6_kindAt 5 = .ok (.aload_n 0, 1) := by decide +kernel
theorem dX6_kindAt_6 : decode cX6_kindAt 6 = .ok (.getfield 27, 3) := by decide +kernel
theorem dX6_kindAt_9 : decode cX6_kindAt 9 = .ok (.if_icmp .ge 13, 3) := by decide +kernel
theorem dX6_kindAt_12 : decode cX6_kindAt 12 = .ok (.aload_n 0, 1) := by decide +kernel
theorem dX6_kindAt_13 : decode cX6_kindAt 13 = .ok (.getfield 21, 3) := by decide +kernel
theorem dX6_kindAt_16 : decode cX6_kindAt 16 = .ok (.iload_n 1, 1) := by decide +kernel
theorem dX6_kindAt_17 : decode cX6_kindAt 17 = .ok (.iaload, 1) := by decide +kernel
theorem dX6_kindAt_18 : decode cX6_kindAt 18 = .ok (.iconst 1, 1) := by decide +kernel
theorem dX6_kindAt_19 : decode cX6_kindAt 19 = .ok (.if_icmp .ge 5, 3) := by decide +kernel
theorem dX6_kindAt_22 : decode cX6_kindAt 22 = .ok (.iconst (-1), 1) := by decide +kernel
theorem dX6_kindAt_23 : decode cX6_kindAt 23 = .ok (.ireturn, 1) := by decide +kernel
theorem dX6_kindAt_24 : decode cX6_kindAt 24 = .ok (.aload_n 0, 1) := by decide +kernel
theorem dX6_kindAt_25 : decode cX6_kindAt 25 = .ok (.getfield 17, 3) := by decide +kernel
theorem dX6_kindAt_28 : decode cX6_kindAt 28 = .ok (.iload_n 1, 1) := by decide +kernel
theorem dX6_kindAt_29 : decode cX6_kindAt 29 = .ok (.bipush 18, 2) := by decide +kernel
theorem dX6_kindAt_31 : decode cX6_kindAt 31 = .ok (.imul, 1) := by decide +kernel
theorem dX6_kindAt_32 : decode cX6_kindAt 32 = .ok (.iaload, 1) := by decide +kernel
theorem dX6_kindAt_33 : decode cX6_kindAt 33 = .ok (.ireturn, 1) := by decide +kernel
def b_X6_kindAt_22 (d : Nat) (G : Nat → zK) (Q : zQ) : zK := o_c (-1) <| t_iret Q
def b_X6_kindAt_24 (d : Nat) (G : Nat → zK) (Q : zQ) : zK := o_al 0 <| o_gf 4 1 <| o_il 1 <| o_c 18 <| o_mul <| o_iald <| t_iret Q
def b_X6_kindAt_12 (d : Nat) (G : Nat → zK) (Q : zQ) : zK := o_al 0 <| o_gf 4 2 <| o_il 1 <| o_iald <| o_c 1 <| t_ilt (b_X6_kindAt_22 d G Q) (b_X6_kindAt_24 d G Q)
def b_X6_kindAt_4 (d : Nat) (G : Nat → zK) (Q : zQ) : zK := o_il 1 <| o_al 0 <| o_gf 4 4 <| t_ilt (b_X6_kindAt_12 d G Q) (b_X6_kindAt_22 d G Q)
def b_X6_kindAt_0 (d : Nat) (G : Nat → zK) (Q : zQ) : zK := o_il 1 <| t_zlt (b_X6_kindAt_22 d G Q) (b_X6_kindAt_4 d G Q)
set_option maxRecDepth 20000 in
theorem k_X6_kindAt_22 {p : Program} {l : Launch} {e : Env} {s : State} {m : MethodId} {args : Array Value} {below : List Frame} {meth : Method} {c : Code} {E : zE} {d : Nat} {Q : zQ} (B : zB p s m args c E mX6_kindAt.1.cls mX6_kindAt.2.1 mX6_kindAt.2.2.1) (hr : meth.sig.returnType = mX6_kindAt.2.2.2) (hlk : meth.locks = false) : zLk (zG p l e (zrm d) s m args below meth c E mX6_kindAt.2.2.1 0 0 (MQ below (zQc E Q) args s 0 0 (zaA E))) 22 (b_X6_kindAt_22 d (zG p l e (zrm d) s m args below meth c E mX6_kindAt.2.2.1 0 0 (MQ below (zQc E Q) args s 0 0 (zaA E))) Q) := by
  unfold b_X6_kindAt_22
  exact lk_c B dX6_kindAt_22 (lk_iret B hr hlk dX6_kindAt_23)
set_option maxRecDepth 20000 in
theorem k_X6_kindAt_24 {p : Program} {l : Launch} {e : Env} {s : State} {m : MethodId} {args : Array Value} {below : List Frame} {meth : Method} {c : Code} {E : zE} {d : Nat} {Q : zQ} (B : zB p s m args c E mX6_kindAt.1.cls mX6_kindAt.2.1 mX6_kindAt.2.2.1) (hr : meth.sig.returnType = mX6_kindAt.2.2.2) (hlk : meth.locks = false) : zLk (zG p l e (zrm d) s m args below meth c E mX6_kindAt.2.2.1 0 0 (MQ below (zQc E Q) args s 0 0 (zaA E))) 24 (b_X6_kindAt_24 d (zG p l e (zrm d) s m args below meth c E mX6_kindAt.2.2.1 0 0 (MQ below (zQc E Q) args s 0 0 (zaA E))) Q) := by
  unfold b_X6_kindAt_24
  exact lk_aln B dX6_kindAt_24 rfl (lk_gf (T := TX6) B cl_X6 (by decide) in_X6 zw_86 dX6_kindAt_25 (lk_iln B dX6_kindAt_28 rfl (lk_b B dX6_kindAt_29 rfl (lk_mul B dX6_kindAt_31 (lk_iald B dX6_kindAt_32 (lk_iret B hr hlk dX6_kindAt_33))))))
set_option maxRecDepth 20000 in
theorem k_X6_kindAt_12 {p : Program} {l : Launch} {e : Env} {s : State} {m : MethodId} {args : Array Value} {below : List Frame} {meth : Method} {c : Code} {E : zE} {d : Nat} {Q : zQ} (B : zB p s m args c E mX6_kindAt.1.cls mX6_kindAt.2.1 mX6_kindAt.2.2.1) (hr : meth.sig.returnType = mX6_kindAt.2.2.2) (hlk : meth.locks = false) : zLk (zG p l e (zrm d) s m args below meth c E mX6_kindAt.2.2.1 0 0 (MQ below (zQc E Q) args s 0 0 (zaA E))) 12 (b_X6_kindAt_12 d (zG p l e (zrm d) s m args below meth c E mX6_kindAt.2.2.1 0 0 (MQ below (zQc E Q) args s 0 0 (zaA E))) Q) := by
  unfold b_X6_kindAt_12
  exact lk_aln B dX6_kindAt_12 rfl (lk_gf (T := TX6) B cl_X6 (by decide) in_X6 zw_87 dX6_kindAt_13 (lk_iln B dX6_kindAt_16 rfl (lk_iald B dX6_kindAt_17 (lk_c B dX6_kindAt_18 (lk_ige B dX6_kindAt_19 (by decide) (k_X6_kindAt_24 B hr hlk) (k_X6_kindAt_22 B hr hlk))))))
set_option maxRecDepth 20000 in
theorem k_X6_kindAt_4 {p : Program} {l : Launch} {e : Env} {s : State} {m : MethodId} {args : Array Value} {below : List Frame} {meth : Method} {c : Code} {E : zE} {d : Nat} {Q : zQ} (B : zB p s m args c E mX6_kindAt.1.cls mX6_kindAt.2.1 mX6_kindAt.2.2.1) (hr : meth.sig.returnType = mX6_kindAt.2.2.2) (hlk : meth.locks = false) : zLk (zG p l e (zrm d) s m args below meth c E mX6_kindAt.2.2.1 0 0 (MQ below (zQc E Q) args s 0 0 (zaA E))) 4 (b_X6_kindAt_4 d (zG p l e (zrm d) s m args below meth c E mX6_kindAt.2.2.1 0 0 (MQ below (zQc E Q) args s 0 0 (zaA E))) Q) := by
  unfold b_X6_kindAt_4
  exact lk_iln B dX6_kindAt_4 rfl (lk_aln B dX6_kindAt_5 rfl (lk_gf (T := TX6) B cl_X6 (by decide) in_X6 zw_89 dX6_kindAt_6 (lk_ige B dX6_kindAt_9 (by decide) (k_X6_kindAt_22 B hr hlk) (k_X6_kindAt_12 B hr hlk))))
set_option maxRecDepth 20000 in
theorem k_X6_kindAt_0 {p : Program} {l : Launch} {e : Env} {s : State} {m : MethodId} {args : Array Value} {below : List Frame} {meth : Method} {c : Code} {E : zE} {d : Nat} {Q : zQ} (B : zB p s m args c E mX6_kindAt.1.cls mX6_kindAt.2.1 mX6_kindAt.2.2.1) (hr : meth.sig.returnType = mX6_kindAt.2.2.2) (hlk : meth.locks = false) : zLk (zG p l e (zrm d) s m args below meth c E mX6_kindAt.2.2.1 0 0 (MQ below (zQc E Q) args s 0 0 (zaA E))) 0 (b_X6_kindAt_0 d (zG p l e (zrm d) s m args below meth c E mX6_kindAt.2.2.1 0 0 (MQ below (zQc E Q) args s 0 0 (zaA E))) Q) := by
  unfold b_X6_kindAt_0
  exact lk_iln B dX6_kindAt_0 rfl (lk_zlt B dX6_kindAt_1 (by decide) (k_X6_kindAt_22 B hr hlk) (k_X6_kindAt_4 B hr hlk))
def S_X6_kindAt (d : Nat) (G : Nat → zK) (Q : zQ) : Prop := zLk G 0 (b_X6_kindAt_0 d G Q)
theorem s_X6_kindAt_0 {d : Nat} {G : Nat → zK} {Q : zQ} (h : S_X6_kindAt d G Q) {ls st : List zV} {μ : zM} (k : b_X6_kindAt_0 d G Q ls st μ) : G 0 ls st μ := h ls st μ k
theorem of_X6_kindAt {d : Nat} {a0 a1 : zV} {μ : zM} {Q : zQ} (h : ∀ G : Nat → zK, S_X6_kindAt d G Q → G 0 [a0, a1] [] μ) : zCt d mX6_kindAt [a0, a1] μ Q := zCt.mk (by decide) (Nat.le_of_ble_eq_true rfl) (fun p l e s m args below meth c E B hr hlk => h _ (k_X6_kindAt_0 B hr hlk))
theorem dX6_byteAt_0 : decode cX6_byteAt 0 = .ok (.iload_n 1, 1) := by decide +kernel
theorem dX6_byteAt_1 : decode cX6_byteAt 1 = .ok (.ifCond .lt 25, 3) := by decide +kernel
theorem dX6_byteAt_4 : decode cX6_byteAt 4 = .ok (.iload_n 1, 1) := by decide +kernel
theorem dX6_byteAt_5 : decode cX6_byteAt 5 = .ok (.aload_n 0, 1) := by decide +kernel
theorem dX6_byteAt_6 : decode cX6_byteAt 6 = .ok (.getfield 27, 3) := by decide +kernel
theorem dX6_byteAt_9 : decode cX6_byteAt 9 = .ok (.if_icmp .ge 17, 3) := by decide +kernel
theorem dX6_byteAt_12 : decode cX6_byteAt 12 = .ok (.iload_n 2, 1) := by decide +kernel
theorem dX6_byteAt_13 : decode cX6_byteAt 13 = .ok (.ifCond .lt 13, 3) := by decide +kernel
theorem dX6_byteAt_16 : decode cX6_byteAt 16 = .ok (.iload_n 2, 1) := by decide +kernel
theorem dX6_byteAt_17 : decode cX6_byteAt 17 = .ok (.aload_n 0, 1) := by decide +kernel
theorem dX6_byteAt_18 : decode cX6_byteAt 18 = .ok (.getfield 21, 3) := by decide +kernel
theorem dX6_byteAt_21 : decode cX6_byteAt 21 = .ok (.iload_n 1, 1) := by decide +kernel
theorem dX6_byteAt_22 : decode cX6_byteAt 22 = .ok (.iaload, 1) := by decide +kernel
theorem dX6_byteAt_23 : decode cX6_byteAt 23 = .ok (.if_icmp .lt 5, 3) := by decide +kernel
theorem dX6_byteAt_26 : decode cX6_byteAt 26 = .ok (.iconst (-1), 1) := by decide +kernel
theorem dX6_byteAt_27 : decode cX6_byteAt 27 = .ok (.ireturn, 1) := by decide +kernel
theorem dX6_byteAt_28 : decode cX6_byteAt 28 = .ok (.aload_n 0, 1) := by decide +kernel
theorem dX6_byteAt_29 : decode cX6_byteAt 29 = .ok (.getfield 17, 3) := by decide +kernel
theorem dX6_byteAt_32 : decode cX6_byteAt 32 = .ok (.iload_n 1, 1) := by decide +kernel
theorem dX6_byteAt_33 : decode cX6_byteAt 33 = .ok (.bipush 18, 2) := by decide +kernel
theorem dX6_byteAt_35 : decode cX6_byteAt 35 = .ok (.imul, 1) := by decide +kernel
theorem dX6_byteAt_36 : decode cX6_byteAt 36 = .ok (.iload_n 2, 1) := by decide +kernel
theorem dX6_byteAt_37 : decode cX6_byteAt 37 = .ok (.iadd, 1) := by decide +kernel
theorem dX6_byteAt_38 : decode cX6_byteAt 38 = .ok (.iaload, 1) := by decide +kernel
theorem dX6_byteAt_39 : decode cX6_byteAt 39 = .ok (.ireturn, 1) := by decide +kernel
def b_X6_byteAt_26 (d : Nat) (G : Nat → zK) (Q : zQ) : zK := o_c (-1) <| t_iret Q
def b_X6_byteAt_28 (d : Nat) (G : Nat → zK) (Q : zQ) : zK := o_al 0 <| o_gf 4 1 <| o_il 1 <| o_c 18 <| o_mul <| o_il 2 <| o_add <| o_iald <| t_iret Q
def b_X6_byteAt_16 (d : Nat) (G : Nat → zK) (Q : zQ) : zK := o_il 2 <| o_al 0 <| o_gf 4 2 <| o_il 1 <| o_iald <| t_ilt (b_X6_byteAt_28 d G Q) (b_X6_byteAt_26 d G Q)
def b_X6_byteAt_12 (d : Nat) (G : Nat → zK) (Q : zQ) : zK := o_il 2 <| t_zlt (b_X6_byteAt_26 d G Q) (b_X6_byteAt_16 d G Q)
def b_X6_byteAt_4 (d : Nat) (G : Nat → zK) (Q : zQ) : zK := o_il 1 <| o_al 0 <| o_gf 4 4 <| t_ilt (b_X6_byteAt_12 d G Q) (b_X6_byteAt_26 d G Q)
def b_X6_byteAt_0 (d : Nat) (G : Nat → zK) (Q : zQ) : zK := o_il 1 <| t_zlt (b_X6_byteAt_26 d G Q) (b_X6_byteAt_4 d G Q)
set_option maxRecDepth 20000 in
theorem k_X6_byteAt_26 {p : Program} {l : Launch} {e : Env} {s : State} {m : MethodId} {args : Array Value} {below : List Frame} {meth : Method} {c : Code} {E : zE} {d : Nat} {Q : zQ} (B : zB p s m args c E mX6_byteAt.1.cls mX6_byteAt.2.1 mX6_byteAt.2.2.1) (hr : meth.sig.returnType = mX6_byteAt.2.2.2) (hlk : meth.locks = false) : zLk (zG p l e (zrm d) s m args below meth c E mX6_byteAt.2.2.1 0 0 (MQ below (zQc E Q) args s 0 0 (zaA E))) 26 (b_X6_byteAt_26 d (zG p l e (zrm d) s m args below meth c E mX6_byteAt.2.2.1 0 0 (MQ below (zQc E Q) args s 0 0 (zaA E))) Q) := by
  unfold b_X6_byteAt_26
  exact lk_c B dX6_byteAt_26 (lk_iret B hr hlk dX6_byteAt_27)
set_option maxRecDepth 20000 in
theorem k_X6_byteAt_28 {p : Program} {l : Launch} {e : Env} {s : State} {m : MethodId} {args : Array Value} {below : List Frame} {meth : Method} {c : Code} {E : zE} {d : Nat} {Q : zQ} (B : zB p s m args c E mX6_byteAt.1.cls mX6_byteAt.2.1 mX6_byteAt.2.2.1) (hr : meth.sig.returnType = mX6_byteAt.2.2.2) (hlk : meth.locks = false) : zLk (zG p l e (zrm d) s m args below meth c E mX6_byteAt.2.2.1 0 0 (MQ below (zQc E Q) args s 0 0 (zaA E))) 28 (b_X6_byteAt_28 d (zG p l e (zrm d) s m args below meth c E mX6_byteAt.2.2.1 0 0 (MQ below (zQc E Q) args s 0 0 (zaA E))) Q) := by
  unfold b_X6_byteAt_28
  exact lk_aln B dX6_byteAt_28 rfl (lk_gf (T := TX6) B cl_X6 (by decide) in_X6 zw_86 dX6_byteAt_29 (lk_iln B dX6_byteAt_32 rfl (lk_b B dX6_byteAt_33 rfl (lk_mul B dX6_byteAt_35 (lk_iln B dX6_byteAt_36 rfl (lk_add B dX6_byteAt_37 (lk_iald B dX6_byteAt_38 (lk_iret B hr hlk dX6_byteAt_39))))))))
set_option maxRecDepth 20000 in
theorem k_X6_byteAt_16 {p : Program} {l : Launch} {e : Env} {s : State} {m : MethodId} {args : Array Value} {below : List Frame} {meth : Method} {c : Code} {E : zE} {d : Nat} {Q : zQ} (B : zB p s m args c E mX6_byteAt.1.cls mX6_byteAt.2.1 mX6_byteAt.2.2.1) (hr : meth.sig.returnType = mX6_byteAt.2.2.2) (hlk : meth.locks = false) : zLk (zG p l e (zrm d) s m args below meth c E mX6_byteAt.2.2.1 0 0 (MQ below (zQc E Q) args s 0 0 (zaA E))) 16 (b_X6_byteAt_16 d (zG p l e (zrm d) s m args below meth c E mX6_byteAt.2.2.1 0 0 (MQ below (zQc E Q) args s 0 0 (zaA E))) Q) := by
  unfold b_X6_byteAt_16
  exact lk_iln B dX6_byteAt_16 rfl (lk_aln B dX6_byteAt_17 rfl (lk_gf (T := TX6) B cl_X6 (by decide) in_X6 zw_87 dX6_byteAt_18 (lk_iln B dX6_byteAt_21 rfl (lk_iald B dX6_byteAt_22 (lk_ilt B dX6_byteAt_23 (by decide) (k_X6_byteAt_28 B hr hlk) (k_X6_byteAt_26 B hr hlk))))))
set_option maxRecDepth 20000 in
theorem k_X6_byteAt_12 {p : Program} {l : Launch} {e : Env} {s : State} {m : MethodId} {args : Array Value} {below : List Frame} {meth : Method} {c : Code} {E : zE} {d : Nat} {Q : zQ} (B : zB p s m args c E mX6_byteAt.1.cls mX6_byteAt.2.1 mX6_byteAt.2.2.1) (hr : meth.sig.returnType = mX6_byteAt.2.2.2) (hlk : meth.locks = false) : zLk (zG p l e (zrm d) s m args below meth c E mX6_byteAt.2.2.1 0 0 (MQ below (zQc E Q) args s 0 0 (zaA E))) 12 (b_X6_byteAt_12 d (zG p l e (zrm d) s m args below meth c E mX6_byteAt.2.2.1 0 0 (MQ below (zQc E Q) args s 0 0 (zaA E))) Q) := by
  unfold b_X6_byteAt_12
  exact lk_iln B dX6_byteAt_12 rfl (lk_zlt B dX6_byteAt_13 (by decide) (k_X6_byteAt_26 B hr hlk) (k_X6_byteAt_16 B hr hlk))
set_option maxRecDepth 20000 in
theorem k_X6_byteAt_4 {p : Program} {l : Launch} {e : Env} {s : State} {m : MethodId} {args : Array Value} {below : List Frame} {meth : Method} {c : Code} {E : zE} {d : Nat} {Q : zQ} (B : zB p s m args c E mX6_byteAt.1.cls mX6_byteAt.2.1 mX6_byteAt.2.2.1) (hr : meth.sig.returnType = mX6_byteAt.2.2.2) (hlk : meth.locks = false) : zLk (zG p l e (zrm d) s m args below meth c E mX6_byteAt.2.2.1 0 0 (MQ below (zQc E Q) args s 0 0 (zaA E))) 4 (b_X6_byteAt_4 d (zG p l e (zrm d) s m args below meth c E mX6_byteAt.2.2.1 0 0 (MQ below (zQc E Q) args s 0 0 (zaA E))) Q) := by
  unfold b_X6_byteAt_4
  exact lk_iln B dX6_byteAt_4 rfl (lk_aln B dX6_byteAt_5 rfl (lk_gf (T := TX6) B cl_X6 (by decide) in_X6 zw_89 dX6_byteAt_6 (lk_ige B dX6_byteAt_9 (by decide) (k_X6_byteAt_26 B hr hlk) (k_X6_byteAt_12 B hr hlk))))
set_option maxRecDepth 20000 in
theorem k_X6_byteAt_0 {p : Program} {l : Launch} {e : Env} {s : State} {m : MethodId} {args : Array Value} {below : List Frame} {meth : Method} {c : Code} {E : zE} {d : Nat} {Q : zQ} (B : zB p s m args c E mX6_byteAt.1.cls mX6_byteAt.2.1 mX6_byteAt.2.2.1) (hr : meth.sig.returnType = mX6_byteAt.2.2.2) (hlk : meth.locks = false) : zLk (zG p l e (zrm d) s m args below meth c E mX6_byteAt.2.2.1 0 0 (MQ below (zQc E Q) args s 0 0 (zaA E))) 0 (b_X6_byteAt_0 d (zG p l e (zrm d) s m args below meth c E mX6_byteAt.2.2.1 0 0 (MQ below (zQc E Q) args s 0 0 (zaA E))) Q) := by
  unfold b_X6_byteAt_0
  exact lk_iln B dX6_byteAt_0 rfl (lk_zlt B dX6_byteAt_1 (by decide) (k_X6_byteAt_26 B hr hlk) (k_X6_byteAt_4 B hr hlk))
def S_X6_byteAt (d : Nat) (G : Nat → zK) (Q : zQ) : Prop := zLk G 0 (b_X6_byteAt_0 d G Q)
theorem s_X6_byteAt_0 {d : Nat} {G : Nat → zK} {Q : zQ} (h : S_X6_byteAt d G Q) {ls st : List zV} {μ : zM} (k : b_X6_byteAt_0 d G Q ls st μ) : G 0 ls st μ := h ls st μ k
theorem of_X6_byteAt {d : Nat} {a0 a1 a2 : zV} {μ : zM} {Q : zQ} (h : ∀ G : Nat → zK, S_X6_byteAt d G Q → G 0 [a0, a1, a2] [] μ) : zCt d mX6_byteAt [a0, a1, a2] μ Q := zCt.mk (by decide) (Nat.le_of_ble_eq_true rfl) (fun p l e s m args below meth c E B hr hlk => h _ (k_X6_byteAt_0 B hr hlk))
theorem dX6_pairAt_0 : decode cX6_pairAt 0 = .ok (.iload_n 1, 1) := by decide +kernel
theorem dX6_pairAt_1 : decode cX6_pairAt 1 = .ok (.ifCond .lt 27, 3) := by decide +kernel
theorem dX6_pairAt_4 : decode cX6_pairAt 4 = .ok (.iload_n 1, 1) := by decide +kernel
theorem dX6_pairAt_5 : decode cX6_pairAt 5 = .ok (.aload_n 0, 1) := by decide +kernel
theorem dX6_pairAt_6 : decode cX6_pairAt 6 = .ok (.getfield 27, 3) := by decide +kernel
theorem dX6_pairAt_9 : decode cX6_pairAt 9 = .ok (.if_icmp .ge 19, 3) := by decide +kernel
theorem dX6_pairAt_12 : decode cX6_pairAt 12 = .ok (.iload_n 2, 1) := by decide +kernel
theorem dX6_pairAt_13 : decode cX6_pairAt 13 = .ok (.ifCond .lt 15, 3) := by decide +kernel
theorem dX6_pairAt_16 : decode cX6_pairAt 16 = .ok (.iload_n 2, 1) := by decide +kernel
theorem dX6_pairAt_17 : decode cX6_pairAt 17 = .ok (.aload_n 0, 1) := by decide +kernel
theorem dX6_pairAt_18 : decode cX6_pairAt 18 = .ok (.getfield 21, 3) := by decide +kernel
theorem dX6_pairAt_21 : decode cX6_pairAt 21 = .ok (.iload_n 1, 1) := by decide +kernel
theorem dX6_pairAt_22 : decode cX6_pairAt 22 = .ok (.iaload, 1) := by decide +kernel
theorem dX6_pairAt_23 : decode cX6_pairAt 23 = .ok (.iconst 1, 1) := by decide +kernel
theorem dX6_pairAt_24 : decode cX6_pairAt 24 = .ok (.isub, 1) := by decide +kernel
theorem dX6_pairAt_25 : decode cX6_pairAt 25 = .ok (.if_icmp .lt 5, 3) := by decide +kernel
theorem dX6_pairAt_28 : decode cX6_pairAt 28 = .ok (.iconst (-1), 1) := by decide +kernel
theorem dX6_pairAt_29 : decode cX6_pairAt 29 = .ok (.ireturn, 1) := by decide +kernel
theorem dX6_pairAt_30 : decode cX6_pairAt 30 = .ok (.iload_n 1, 1) := by decide +kernel
theorem dX6_pairAt_31 : decode cX6_pairAt 31 = .ok (.bipush 18, 2) := by decide +kernel
theorem dX6_pairAt_33 : decode cX6_pairAt 33 = .ok (.imul, 1) := by decide +kernel
theorem dX6_pairAt_34 : decode cX6_pairAt 34 = .ok (.iload_n 2, 1) := by decide +kernel
theorem dX6_pairAt_35 : decode cX6_pairAt 35 = .ok (.iadd, 1) := by decide +kernel
theorem dX6_pairAt_36 : decode cX6_pairAt 36 = .ok (.istore_n 3, 1) := by decide +kernel
theorem dX6_pairAt_37 : decode cX6_pairAt 37 = .ok (.aload_n 0, 1) := by decide +kernel
theorem dX6_pairAt_38 : decode cX6_pairAt 38 = .ok (.getfield 17, 3) := by decide +kernel
theorem dX6_pairAt_41 : decode cX6_pairAt 41 = .ok (.iload_n 3, 1) := by decide +kernel
theorem dX6_pairAt_42 : decode cX6_pairAt 42 = .ok (.iaload, 1) := by decide +kernel
theorem dX6_pairAt_43 : decode cX6_pairAt 43 = .ok (.sipush 256, 3) := by decide +kernel
theorem dX6_pairAt_46 : decode cX6_pairAt 46 = .ok (.aload_n 0, 1) := by decide +kernel
theorem dX6_pairAt_47 : decode cX6_pairAt 47 = .ok (.getfield 17, 3) := by decide +kernel
theorem dX6_pairAt_50 : decode cX6_pairAt 50 = .ok (.iload_n 3, 1) := by decide +kernel
theorem dX6_pairAt_51 : decode cX6_pairAt 51 = .ok (.iconst 1, 1) := by decide +kernel
theorem dX6_pairAt_52 : decode cX6_pairAt 52 = .ok (.iadd, 1) := by decide +kernel
theorem dX6_pairAt_53 : decode cX6_pairAt 53 = .ok (.iaload, 1) := by decide +kernel
theorem dX6_pairAt_54 : decode cX6_pairAt 54 = .ok (.imul, 1) := by decide +kernel
theorem dX6_pairAt_55 : decode cX6_pairAt 55 = .ok (.iadd, 1) := by decide +kernel
theorem dX6_pairAt_56 : decode cX6_pairAt 56 = .ok (.ireturn, 1) := by decide +kernel
def b_X6_pairAt_28 (d : Nat) (G : Nat → zK) (Q : zQ) : zK := o_c (-1) <| t_iret Q
def b_X6_pairAt_30 (d : Nat) (G : Nat → zK) (Q : zQ) : zK := o_il 1 <| o_c 18 <| o_mul <| o_il 2 <| o_add <| o_is 3 <| o_al 0 <| o_gf 4 1 <| o_il 3 <| o_iald <| o_c 256 <| o_al 0 <| o_gf 4 1 <| o_il 3 <| o_c 1 <| o_add <| o_iald <| o_mul <| o_add <| t_iret Q
def b_X6_pairAt_16 (d : Nat) (G : Nat → zK) (Q : zQ) : zK := o_il 2 <| o_al 0 <| o_gf 4 2 <| o_il 1 <| o_iald <| o_c 1 <| o_sub <| t_ilt (b_X6_pairAt_30 d G Q) (b_X6_pairAt_28 d G Q)
def b_X6_pairAt_12 (d : Nat) (G : Nat → zK) (Q : zQ) : zK := o_il 2 <| t_zlt (b_X6_pairAt_28 d G Q) (b_X6_pairAt_16 d G Q)
def b_X6_pairAt_4 (d : Nat) (G : Nat → zK) (Q : zQ) : zK := o_il 1 <| o_al 0 <| o_gf 4 4 <| t_ilt (b_X6_pairAt_12 d G Q) (b_X6_pairAt_28 d G Q)
def b_X6_pairAt_0 (d : Nat) (G : Nat → zK) (Q : zQ) : zK := o_il 1 <| t_zlt (b_X6_pairAt_28 d G Q) (b_X6_pairAt_4 d G Q)
set_option maxRecDepth 20000 in
theorem k_X6_pairAt_28 {p : Program} {l : Launch} {e : Env} {s : State} {m : MethodId} {args : Array Value} {below : List Frame} {meth : Method} {c : Code} {E : zE} {d : Nat} {Q : zQ} (B : zB p s m args c E mX6_pairAt.1.cls mX6_pairAt.2.1 mX6_pairAt.2.2.1) (hr : meth.sig.returnType = mX6_pairAt.2.2.2) (hlk : meth.locks = false) : zLk (zG p l e (zrm d) s m args below meth c E mX6_pairAt.2.2.1 0 0 (MQ below (zQc E Q) args s 0 0 (zaA E))) 28 (b_X6_pairAt_28 d (zG p l e (zrm d) s m args below meth c E mX6_pairAt.2.2.1 0 0 (MQ below (zQc E Q) args s 0 0 (zaA E))) Q) := by
  unfold b_X6_pairAt_28
  exact lk_c B dX6_pairAt_28 (lk_iret B hr hlk dX6_pairAt_29)
set_option maxRecDepth 20000 in
theorem k_X6_pairAt_30 {p : Program} {l : Launch} {e : Env} {s : State} {m : MethodId} {args : Array Value} {below : List Frame} {meth : Method} {c : Code} {E : zE} {d : Nat} {Q : zQ} (B : zB p s m args c E mX6_pairAt.1.cls mX6_pairAt.2.1 mX6_pairAt.2.2.1) (hr : meth.sig.returnType = mX6_pairAt.2.2.2) (hlk : meth.locks = false) : zLk (zG p l e (zrm d) s m args below meth c E mX6_pairAt.2.2.1 0 0 (MQ below (zQc E Q) args s 0 0 (zaA E))) 30 (b_X6_pairAt_30 d (zG p l e (zrm d) s m args below meth c E mX6_pairAt.2.2.1 0 0 (MQ below (zQc E Q) args s 0 0 (zaA E))) Q) := by
  unfold b_X6_pairAt_30
  exact lk_iln B dX6_pairAt_30 rfl (lk_b B dX6_pairAt_31 rfl (lk_mul B dX6_pairAt_33 (lk_iln B dX6_pairAt_34 rfl (lk_add B dX6_pairAt_35 (lk_isn B dX6_pairAt_36 rfl (by decide) (lk_aln B dX6_pairAt_37 rfl (lk_gf (T := TX6) B cl_X6 (by decide) in_X6 zw_86 dX6_pairAt_38 (lk_iln B dX6_pairAt_41 rfl (lk_iald B dX6_pairAt_42 (lk_s B dX6_pairAt_43 rfl (lk_aln B dX6_pairAt_46 rfl (lk_gf (T := TX6) B cl_X6 (by decide) in_X6 zw_86 dX6_pairAt_47 (lk_iln B dX6_pairAt_50 rfl (lk_c B dX6_pairAt_51 (lk_add B dX6_pairAt_52 (lk_iald B dX6_pairAt_53 (lk_mul B dX6_pairAt_54 (lk_add B dX6_pairAt_55 (lk_iret B hr hlk dX6_pairAt_56)))))))))))))))))))
set_option maxRecDepth 20000 in
theorem k_X6_pairAt_16 {p : Program} {l : Launch} {e : Env} {s : State} {m : MethodId} {args : Array Value} {below : List Frame} {meth : Method} {c : Code} {E : zE} {d : Nat} {Q : zQ} (B : zB p s m args c E mX6_pairAt.1.cls mX6_pairAt.2.1 mX6_pairAt.2.2.1) (hr : meth.sig.returnType = mX6_pairAt.2.2.2) (hlk : meth.locks = false) : zLk (zG p l e (zrm d) s m args below meth c E mX6_pairAt.2.2.1 0 0 (MQ below (zQc E Q) args s 0 0 (zaA E))) 16 (b_X6_pairAt_16 d (zG p l e (zrm d) s m args below meth c E mX6_pairAt.2.2.1 0 0 (MQ below (zQc E Q) args s 0 0 (zaA E))) Q) := by
  unfold b_X6_pairAt_16
  exact lk_iln B dX6_pairAt_16 rfl (lk_aln B dX6_pairAt_17 rfl (lk_gf (T := TX6) B cl_X6 (by decide) in_X6 zw_87 dX6_pairAt_18 (lk_iln B dX6_pairAt_21 rfl (lk_iald B dX6_pairAt_22 (lk_c B dX6_pairAt_23 (lk_sub B dX6_pairAt_24 (lk_ilt B dX6_pairAt_25 (by decide) (k_X6_pairAt_30 B hr hlk) (k_X6_pairAt_28 B hr hlk))))))))
set_option maxRecDepth 20000 in
theorem k_X6_pairAt_12 {p : Program} {l : Launch} {e : Env} {s : State} {m : MethodId} {args : Array Value} {below : List Frame} {meth : Method} {c : Code} {E : zE} {d : Nat} {Q : zQ} (B : zB p s m args c E mX6_pairAt.1.cls mX6_pairAt.2.1 mX6_pairAt.2.2.1) (hr : meth.sig.returnType = mX6_pairAt.2.2.2) (hlk : meth.locks = false) : zLk (zG p l e (zrm d) s m args below meth c E mX6_pairAt.2.2.1 0 0 (MQ below (zQc E Q) args s 0 0 (zaA E))) 12 (b_X6_pairAt_12 d (zG p l e (zrm d) s m args below meth c E mX6_pairAt.2.2.1 0 0 (MQ below (zQc E Q) args s 0 0 (zaA E))) Q) := by
  unfold b_X6_pairAt_12
  exact lk_iln B dX6_pairAt_12 rfl (lk_zlt B dX6_pairAt_13 (by decide) (k_X6_pairAt_28 B hr hlk) (k_X6_pairAt_16 B hr hlk))
set_option maxRecDepth 20000 in
theorem k_X6_pairAt_4 {p : Program} {l : Launch} {e : Env} {s : State} {m : MethodId} {args : Array Value} {below : List Frame} {meth : Method} {c : Code} {E : zE} {d : Nat} {Q : zQ} (B : zB p s m args c E mX6_pairAt.1.cls mX6_pairAt.2.1 mX6_pairAt.2.2.1) (hr : meth.sig.returnType = mX6_pairAt.2.2.2) (hlk : meth.locks = false) : zLk (zG p l e (zrm d) s m args below meth c E mX6_pairAt.2.2.1 0 0 (MQ below (zQc E Q) args s 0 0 (zaA E))) 4 (b_X6_pairAt_4 d (zG p l e (zrm d) s m args below meth c E mX6_pairAt.2.2.1 0 0 (MQ below (zQc E Q) args s 0 0 (zaA E))) Q) := by
  unfold b_X6_pairAt_4
  exact lk_iln B dX6_pairAt_4 rfl (lk_aln B dX6_pairAt_5 rfl (lk_gf (T := TX6) B cl_X6 (by decide) in_X6 zw_89 dX6_pairAt_6 (lk_ige B dX6_pairAt_9 (by decide) (k_X6_pairAt_28 B hr hlk) (k_X6_pairAt_12 B hr hlk))))
set_option maxRecDepth 20000 in
theorem k_X6_pairAt_0 {p : Program} {l : Launch} {e : Env} {s : State} {m : MethodId} {args : Array Value} {below : List Frame} {meth : Method} {c : Code} {E : zE} {d : Nat} {Q : zQ} (B : zB p s m args c E mX6_pairAt.1.cls mX6_pairAt.2.1 mX6_pairAt.2.2.1) (hr : meth.sig.returnType = mX6_pairAt.2.2.2) (hlk : meth.locks = false) : zLk (zG p l e (zrm d) s m args below meth c E mX6_pairAt.2.2.1 0 0 (MQ below (zQc E Q) args s 0 0 (zaA E))) 0 (b_X6_pairAt_0 d (zG p l e (zrm d) s m args below meth c E mX6_pairAt.2.2.1 0 0 (MQ below (zQc E Q) args s 0 0 (zaA E))) Q) := by
  unfold b_X6_pairAt_0
  exact lk_iln B dX6_pairAt_0 rfl (lk_zlt B dX6_pairAt_1 (by decide) (k_X6_pairAt_28 B hr hlk) (k_X6_pairAt_4 B hr hlk))
def S_X6_pairAt (d : Nat) (G : Nat → zK) (Q : zQ) : Prop := zLk G 0 (b_X6_pairAt_0 d G Q)
theorem s_X6_pairAt_0 {d : Nat} {G : Nat → zK} {Q : zQ} (h : S_X6_pairAt d G Q) {ls st : List zV} {μ : zM} (k : b_X6_pairAt_0 d G Q ls st μ) : G 0 ls st μ := h ls st μ k
theorem of_X6_pairAt {d : Nat} {a0 a1 a2 : zV} {μ : zM} {Q : zQ} (h : ∀ G : Nat → zK, S_X6_pairAt d G Q → G 0 [a0, a1, a2, .inr none] [] μ) : zCt d mX6_pairAt [a0, a1, a2] μ Q := zCt.mk (by decide) (Nat.le_of_ble_eq_true rfl) (fun p l e s m args below meth c E B hr hlk => h _ (k_X6_pairAt_0 B hr hlk))
theorem dX6_append_0 : decode cX6_append 0 = .ok (.aload_n 0, 1) := by decide +kernel
theorem dX6_append_1 : decode cX6_append 1 = .ok (.invokevirtual 34, 3) := by decide +kernel
theorem dX6_append_4 : decode cX6_append 4 = .ok (.ifCond .ne 10, 3) := by decide +kernel
theorem dX6_append_7 : decode cX6_append 7 = .ok (.iload 4, 2) := by decide +kernel
theorem dX6_append_9 : decode cX6_append 9 = .ok (.bipush 18, 2) := by decide +kernel
theorem dX6_append_11 : decode cX6_append 11 = .ok (.if_icmp .le 4, 3) := by decide +kernel
theorem dX6_append_14 : decode cX6_append 14 = .ok (.return_, 1) := by decide +kernel
theorem dX6_append_15 : decode cX6_append 15 = .ok (.aload_n 2, 1) := by decide +kernel
theorem dX6_append_16 : decode cX6_append 16 = .ok (.iload_n 3, 1) := by decide +kernel
theorem dX6_append_17 : decode cX6_append 17 = .ok (.aload_n 0, 1) := by decide +kernel
theorem dX6_append_18 : decode cX6_append 18 = .ok (.getfield 17, 3) := by decide +kernel
theorem dX6_append_21 : decode cX6_append 21 = .ok (.aload_n 0, 1) := by decide +kernel
theorem dX6_append_22 : decode cX6_append 22 = .ok (.getfield 27, 3) := by decide +kernel
theorem dX6_append_25 : decode cX6_append 25 = .ok (.bipush 18, 2) := by decide +kernel
theorem dX6_append_27 : decode cX6_append 27 = .ok (.imul, 1) := by decide +kernel
theorem dX6_append_28 : decode cX6_append 28 = .ok (.iload 4, 2) := by decide +kernel
theorem dX6_append_30 : decode cX6_append 30 = .ok (.invokestatic 38, 3) := by decide +kernel
theorem dX6_append_33 : decode cX6_append 33 = .ok (.aload_n 0, 1) := by decide +kernel
theorem dX6_append_34 : decode cX6_append 34 = .ok (.getfield 21, 3) := by decide +kernel
theorem dX6_append_37 : decode cX6_append 37 = .ok (.aload_n 0, 1) := by decide +kernel
theorem dX6_append_38 : decode cX6_append 38 = .ok (.getfield 27, 3) := by decide +kernel
theorem dX6_append_41 : decode cX6_append 41 = .ok (.iload 4, 2) := by decide +kernel
theorem dX6_append_43 : decode cX6_append 43 = .ok (.iastore, 1) := by decide +kernel
theorem dX6_append_44 : decode cX6_append 44 = .ok (.aload_n 0, 1) := by decide +kernel
theorem dX6_append_45 : decode cX6_append 45 = .ok (.getfield 24, 3) := by decide +kernel
theorem dX6_append_48 : decode cX6_append 48 = .ok (.aload_n 0, 1) := by decide +kernel
theorem dX6_append_49 : decode cX6_append 49 = .ok (.getfield 27, 3) := by decide +kernel
theorem dX6_append_52 : decode cX6_append 52 = .ok (.iload_n 1, 1) := by decide +kernel
theorem dX6_append_53 : decode cX6_append 53 = .ok (.iastore, 1) := by decide +kernel
theorem dX6_append_54 : decode cX6_append 54 = .ok (.aload_n 0, 1) := by decide +kernel
theorem dX6_append_55 : decode cX6_append 55 = .ok (.dup, 1) := by decide +kernel
theorem dX6_append_56 : decode cX6_append 56 = .ok (.getfield 27, 3) := by decide +kernel
theorem dX6_append_59 : decode cX6_append 59 = .ok (.iconst 1, 1) := by decide +kernel
theorem dX6_append_60 : decode cX6_append 60 = .ok (.iadd, 1) := by decide +kernel
theorem dX6_append_61 : decode cX6_append 61 = .ok (.putfield 27, 3) := by decide +kernel
theorem dX6_append_64 : decode cX6_append 64 = .ok (.return_, 1) := by decide +kernel
def b_X6_append_14 (d : Nat) (G : Nat → zK) (Q : zQ) : zK := t_vret Q
def b_X6_append_15 (d : Nat) (G : Nat → zK) (Q : zQ) : zK := o_al 2 <| o_il 3 <| o_al 0 <| o_gf 4 1 <| o_al 0 <| o_gf 4 4 <| o_c 18 <| o_mul <| o_il 4 <| o_acp <| o_al 0 <| o_gf 4 2 <| o_al 0 <| o_gf 4 4 <| o_il 4 <| o_iast <| o_al 0 <| o_gf 4 3 <| o_al 0 <| o_gf 4 4 <| o_il 1 <| o_iast <| o_al 0 <| o_dup <| o_gf 4 4 <| o_c 1 <| o_add <| o_pf 4 4 <| t_vret Q
def b_X6_append_7 (d : Nat) (G : Nat → zK) (Q : zQ) : zK := o_il 4 <| o_c 18 <| t_igt (b_X6_append_14 d G Q) (b_X6_append_15 d G Q)
def b_X6_append_0 (d : Nat) (G : Nat → zK) (Q : zQ) : zK := o_al 0 <| o_callv (zCt (d - 1) mX6_isFull) 4 1 <| t_zeq (b_X6_append_7 d G Q) (b_X6_append_14 d G Q)
set_option maxRecDepth 20000 in
theorem k_X6_append_14 {p : Program} {l : Launch} {e : Env} {s : State} {m : MethodId} {args : Array Value} {below : List Frame} {meth : Method} {c : Code} {E : zE} {d : Nat} {Q : zQ} (hd1 : 1 ≤ d) (B : zB p s m args c E mX6_append.1.cls mX6_append.2.1 mX6_append.2.2.1) (hr : meth.sig.returnType = mX6_append.2.2.2) (hlk : meth.locks = false) : zLk (zG p l e (zrm d) s m args below meth c E mX6_append.2.2.1 0 0 (MQ below (zQc E Q) args s 0 0 (zaA E))) 14 (b_X6_append_14 d (zG p l e (zrm d) s m args below meth c E mX6_append.2.2.1 0 0 (MQ below (zQc E Q) args s 0 0 (zaA E))) Q) := by
  unfold b_X6_append_14
  exact lk_vret B hr hlk dX6_append_14
set_option maxRecDepth 20000 in
theorem k_X6_append_15 {p : Program} {l : Launch} {e : Env} {s : State} {m : MethodId} {args : Array Value} {below : List Frame} {meth : Method} {c : Code} {E : zE} {d : Nat} {Q : zQ} (hd1 : 1 ≤ d) (B : zB p s m args c E mX6_append.1.cls mX6_append.2.1 mX6_append.2.2.1) (hr : meth.sig.returnType = mX6_append.2.2.2) (hlk : meth.locks = false) : zLk (zG p l e (zrm d) s m args below meth c E mX6_append.2.2.1 0 0 (MQ below (zQc E Q) args s 0 0 (zaA E))) 15 (b_X6_append_15 d (zG p l e (zrm d) s m args below meth c E mX6_append.2.2.1 0 0 (MQ below (zQc E Q) args s 0 0 (zaA E))) Q) := by
  have hRa : 1 ≤ (zrm d).frames ∧ 8 + (nativeFrameWords "java/lang/System" "arraycopy" 5 + 11) ≤ (zrm d).locals := zhRa hd1
  unfold b_X6_append_15
  exact lk_aln B dX6_append_15 rfl (lk_iln B dX6_append_16 rfl (lk_aln B dX6_append_17 rfl (lk_gf (T := TX6) B cl_X6 (by decide) in_X6 zw_86 dX6_append_18 (lk_aln B dX6_append_21 rfl (lk_gf (T := TX6) B cl_X6 (by decide) in_X6 zw_89 dX6_append_22 (lk_b B dX6_append_25 rfl (lk_mul B dX6_append_27 (lk_il B dX6_append_28 (lk_acp B hRa (zw4 zw_319 zw_321 zw_320 zw_59) dX6_append_30 (lk_aln B dX6_append_33 rfl (lk_gf (T := TX6) B cl_X6 (by decide) in_X6 zw_87 dX6_append_34 (lk_aln B dX6_append_37 rfl (lk_gf (T := TX6) B cl_X6 (by decide) in_X6 zw_89 dX6_append_38 (lk_il B dX6_append_41 (lk_iast B dX6_append_43 (lk_aln B dX6_append_44 rfl (lk_gf (T := TX6) B cl_X6 (by decide) in_X6 zw_88 dX6_append_45 (lk_aln B dX6_append_48 rfl (lk_gf (T := TX6) B cl_X6 (by decide) in_X6 zw_89 dX6_append_49 (lk_iln B dX6_append_52 rfl (lk_iast B dX6_append_53 (lk_aln B dX6_append_54 rfl (lk_dup B dX6_append_55 (lk_gf (T := TX6) B cl_X6 (by decide) in_X6 zw_89 dX6_append_56 (lk_c B dX6_append_59 (lk_add B dX6_append_60 (lk_pf (T := TX6) B cl_X6 (by decide) in_X6 tyX6_ok nmX6 zw_89 rfl (by decide +kernel) dX6_append_61 (lk_vret B hr hlk dX6_append_64))))))))))))))))))))))))))))
set_option maxRecDepth 20000 in
theorem k_X6_append_7 {p : Program} {l : Launch} {e : Env} {s : State} {m : MethodId} {args : Array Value} {below : List Frame} {meth : Method} {c : Code} {E : zE} {d : Nat} {Q : zQ} (hd1 : 1 ≤ d) (B : zB p s m args c E mX6_append.1.cls mX6_append.2.1 mX6_append.2.2.1) (hr : meth.sig.returnType = mX6_append.2.2.2) (hlk : meth.locks = false) : zLk (zG p l e (zrm d) s m args below meth c E mX6_append.2.2.1 0 0 (MQ below (zQc E Q) args s 0 0 (zaA E))) 7 (b_X6_append_7 d (zG p l e (zrm d) s m args below meth c E mX6_append.2.2.1 0 0 (MQ below (zQc E Q) args s 0 0 (zaA E))) Q) := by
  unfold b_X6_append_7
  exact lk_il B dX6_append_7 (lk_b B dX6_append_9 rfl (lk_ile B dX6_append_11 (by decide) (k_X6_append_15 hd1 B hr hlk) (k_X6_append_14 hd1 B hr hlk)))
set_option maxRecDepth 20000 in
theorem k_X6_append_0 {p : Program} {l : Launch} {e : Env} {s : State} {m : MethodId} {args : Array Value} {below : List Frame} {meth : Method} {c : Code} {E : zE} {d : Nat} {Q : zQ} (hd1 : 1 ≤ d) (B : zB p s m args c E mX6_append.1.cls mX6_append.2.1 mX6_append.2.2.1) (hr : meth.sig.returnType = mX6_append.2.2.2) (hlk : meth.locks = false) : zLk (zG p l e (zrm d) s m args below meth c E mX6_append.2.2.1 0 0 (MQ below (zQc E Q) args s 0 0 (zaA E))) 0 (b_X6_append_0 d (zG p l e (zrm d) s m args below meth c E mX6_append.2.2.1 0 0 (MQ below (zQc E Q) args s 0 0 (zaA E))) Q) := by
  unfold b_X6_append_0
  exact lk_aln B dX6_append_0 rfl (lk_callv (M := mX6_isFull) (T := TX6) (N := 5) B (zhR hd1 (by decide)) ⟨Nat.zero_le _, Nat.zero_le _⟩ cl_X6 (zw5 zw_318 zw_315 zw_316 zw_317 zw_51) (by decide +kernel) dX6_append_1 (lk_zne B dX6_append_4 (by decide) (k_X6_append_14 hd1 B hr hlk) (k_X6_append_7 hd1 B hr hlk)))
def S_X6_append (d : Nat) (G : Nat → zK) (Q : zQ) : Prop := zLk G 0 (b_X6_append_0 d G Q)
theorem s_X6_append_0 {d : Nat} {G : Nat → zK} {Q : zQ} (h : S_X6_append d G Q) {ls st : List zV} {μ : zM} (k : b_X6_append_0 d G Q ls st μ) : G 0 ls st μ := h ls st μ k
theorem of_X6_append {d : Nat} {a0 a1 a2 a3 a4 : zV} {μ : zM} {Q : zQ} (hd1 : 1 ≤ d) (h : ∀ G : Nat → zK, S_X6_append d G Q → G 0 [a0, a1, a2, a3, a4] [] μ) : zCt d mX6_append [a0, a1, a2, a3, a4] μ Q := zCt.mk (by decide) (Nat.le_of_ble_eq_true rfl) (fun p l e s m args below meth c E B hr hlk => h _ (k_X6_append_0 hd1 B hr hlk))
theorem dX6_appendName_0 : decode cX6_appendName 0 = .ok (.aload_n 0, 1) := by decide +kernel
theorem dX6_appendName_1 : decode cX6_appendName 1 = .ok (.iload_n 1, 1) := by decide +kernel
theorem dX6_appendName_2 : decode cX6_appendName 2 = .ok (.aload_n 0, 1) := by decide +kernel
theorem dX6_appendName_3 : decode cX6_appendName 3 = .ok (.getfield 17, 3) := by decide +kernel
theorem dX6_appendName_6 : decode cX6_appendName 6 = .ok (.iconst 0, 1) := by decide +kernel
theorem dX6_appendName_7 : decode cX6_appendName 7 = .ok (.iconst 0, 1) := by decide +kernel
theorem dX6_appendName_8 : decode cX6_appendName 8 = .ok (.invokevirtual 44, 3) := by decide +kernel
theorem dX6_appendName_11 : decode cX6_appendName 11 = .ok (.return_, 1) := by decide +kernel
def b_X6_appendName_0 (d : Nat) (G : Nat → zK) (Q : zQ) : zK := o_al 0 <| o_il 1 <| o_al 0 <| o_gf 4 1 <| o_c 0 <| o_c 0 <| o_callv (zCt (d - 1) mX6_append) 4 5 <| t_vret Q
set_option maxRecDepth 20000 in
theorem k_X6_appendName_0 {p : Program} {l : Launch} {e : Env} {s : State} {m : MethodId} {args : Array Value} {below : List Frame} {meth : Method} {c : Code} {E : zE} {d : Nat} {Q : zQ} (hd1 : 1 ≤ d) (B : zB p s m args c E mX6_appendName.1.cls mX6_appendName.2.1 mX6_appendName.2.2.1) (hr : meth.sig.returnType = mX6_appendName.2.2.2) (hlk : meth.locks = false) : zLk (zG p l e (zrm d) s m args below meth c E mX6_appendName.2.2.1 0 0 (MQ below (zQc E Q) args s 0 0 (zaA E))) 0 (b_X6_appendName_0 d (zG p l e (zrm d) s m args below meth c E mX6_appendName.2.2.1 0 0 (MQ below (zQc E Q) args s 0 0 (zaA E))) Q) := by
  unfold b_X6_appendName_0
  exact lk_aln B dX6_appendName_0 rfl (lk_iln B dX6_appendName_1 rfl (lk_aln B dX6_appendName_2 rfl (lk_gf (T := TX6) B cl_X6 (by decide) in_X6 zw_86 dX6_appendName_3 (lk_c B dX6_appendName_6 (lk_c B dX6_appendName_7 (lk_callv (M := mX6_append) (T := TX6) (N := 5) B (zhR hd1 (by decide)) ⟨Nat.zero_le _, Nat.zero_le _⟩ cl_X6 (zw5 zw_314 zw_413 zw_312 zw_313 zw_51) (by decide +kernel) dX6_appendName_8 (lk_vret B hr hlk dX6_appendName_11)))))))
def S_X6_appendName (d : Nat) (G : Nat → zK) (Q : zQ) : Prop := zLk G 0 (b_X6_appendName_0 d G Q)
theorem s_X6_appendName_0 {d : Nat} {G : Nat → zK} {Q : zQ} (h : S_X6_appendName d G Q) {ls st : List zV} {μ : zM} (k : b_X6_appendName_0 d G Q ls st μ) : G 0 ls st μ := h ls st μ k
theorem of_X6_appendName {d : Nat} {a0 a1 : zV} {μ : zM} {Q : zQ} (hd1 : 1 ≤ d) (h : ∀ G : Nat → zK, S_X6_appendName d G Q → G 0 [a0, a1] [] μ) : zCt d mX6_appendName [a0, a1] μ Q := zCt.mk (by decide) (Nat.le_of_ble_eq_true rfl) (fun p l e s m args below meth c E B hr hlk => h _ (k_X6_appendName_0 hd1 B hr hlk))
theorem dX6_appendCopy_0 : decode cX6_appendCopy 0 = .ok (.aload_n 1, 1) := by decide +kernel
theorem dX6_appendCopy_1 : decode cX6_appendCopy 1 = .ok (.iload_n 2, 1) := by decide +kernel
theorem dX6_appendCopy_2 : decode cX6_appendCopy 2 = .ok (.invokevirtual 30, 3) := by decide +kernel
theorem dX6_appendCopy_5 : decode cX6_appendCopy 5 = .ok (.ifCond .eq 27, 3) := by decide +kernel
theorem dX6_appendCopy_8 : decode cX6_appendCopy 8 = .ok (.aload_n 0, 1) := by decide +kernel
theorem dX6_appendCopy_9 : decode cX6_appendCopy 9 = .ok (.aload_n 1, 1) := by decide +kernel
theorem dX6_appendCopy_10 : decode cX6_appendCopy 10 = .ok (.getfield 24, 3) := by decide +kernel
theorem dX6_appendCopy_13 : decode cX6_appendCopy 13 = .ok (.iload_n 2, 1) := by decide +kernel
theorem dX6_appendCopy_14 : decode cX6_appendCopy 14 = .ok (.iaload, 1) := by decide +kernel
theorem dX6_appendCopy_15 : decode cX6_appendCopy 15 = .ok (.aload_n 1, 1) := by decide +kernel
theorem dX6_appendCopy_16 : decode cX6_appendCopy 16 = .ok (.getfield 17, 3) := by decide +kernel
theorem dX6_appendCopy_19 : decode cX6_appendCopy 19 = .ok (.iload_n 2, 1) := by decide +kernel
theorem dX6_appendCopy_20 : decode cX6_appendCopy 20 = .ok (.bipush 18, 2) := by decide +kernel
theorem dX6_appendCopy_22 : decode cX6_appendCopy 22 = .ok (.imul, 1) := by decide +kernel
theorem dX6_appendCopy_23 : decode cX6_appendCopy 23 = .ok (.aload_n 1, 1) := by decide +kernel
theorem dX6_appendCopy_24 : decode cX6_appendCopy 24 = .ok (.getfield 21, 3) := by decide +kernel
theorem dX6_appendCopy_27 : decode cX6_appendCopy 27 = .ok (.iload_n 2, 1) := by decide +kernel
theorem dX6_appendCopy_28 : decode cX6_appendCopy 28 = .ok (.iaload, 1) := by decide +kernel
theorem dX6_appendCopy_29 : decode cX6_appendCopy 29 = .ok (.invokevirtual 44, 3) := by decide +kernel
theorem dX6_appendCopy_32 : decode cX6_appendCopy 32 = .ok (.return_, 1) := by decide +kernel
def b_X6_appendCopy_32 (d : Nat) (G : Nat → zK) (Q : zQ) : zK := t_vret Q
def b_X6_appendCopy_8 (d : Nat) (G : Nat → zK) (Q : zQ) : zK := o_al 0 <| o_al 1 <| o_gf 4 3 <| o_il 2 <| o_iald <| o_al 1 <| o_gf 4 1 <| o_il 2 <| o_c 18 <| o_mul <| o_al 1 <| o_gf 4 2 <| o_il 2 <| o_iald <| o_callv (zCt (d - 1) mX6_append) 4 5 <| b_X6_appendCopy_32 d G Q
def b_X6_appendCopy_0 (d : Nat) (G : Nat → zK) (Q : zQ) : zK := o_al 1 <| o_il 2 <| o_callv (zCt (d - 1) mX6_hasSlot) 4 2 <| t_zeq (b_X6_appendCopy_32 d G Q) (b_X6_appendCopy_8 d G Q)
set_option maxRecDepth 20000 in
theorem k_X6_appendCopy_32 {p : Program} {l : Launch} {e : Env} {s : State} {m : MethodId} {args : Array Value} {below : List Frame} {meth : Method} {c : Code} {E : zE} {d : Nat} {Q : zQ} (hd1 : 1 ≤ d) (B : zB p s m args c E mX6_appendCopy.1.cls mX6_appendCopy.2.1 mX6_appendCopy.2.2.1) (hr : meth.sig.returnType = mX6_appendCopy.2.2.2) (hlk : meth.locks = false) : zLk (zG p l e (zrm d) s m args below meth c E mX6_appendCopy.2.2.1 0 0 (MQ below (zQc E Q) args s 0 0 (zaA E))) 32 (b_X6_appendCopy_32 d (zG p l e (zrm d) s m args below meth c E mX6_appendCopy.2.2.1 0 0 (MQ below (zQc E Q) args s 0 0 (zaA E))) Q) := by
  unfold b_X6_appendCopy_32
  exact lk_vret B hr hlk dX6_appendCopy_32
set_option maxRecDepth 20000 in
theorem k_X6_appendCopy_8 {p : Program} {l : Launch} {e : Env} {s : State} {m : MethodId} {args : Array Value} {below : List Frame} {meth : Method} {c : Code} {E : zE} {d : Nat} {Q : zQ} (hd1 : 1 ≤ d) (B : zB p s m args c E mX6_appendCopy.1.cls mX6_appendCopy.2.1 mX6_appendCopy.2.2.1) (hr : meth.sig.returnType = mX6_appendCopy.2.2.2) (hlk : meth.locks = false) : zLk (zG p l e (zrm d) s m args below meth c E mX6_appendCopy.2.2.1 0 0 (MQ below (zQc E Q) args s 0 0 (zaA E))) 8 (b_X6_appendCopy_8 d (zG p l e (zrm d) s m args below meth c E mX6_appendCopy.2.2.1 0 0 (MQ below (zQc E Q) args s 0 0 (zaA E))) Q) := by
  unfold b_X6_appendCopy_8
  exact lk_aln B dX6_appendCopy_8 rfl (lk_aln B dX6_appendCopy_9 rfl (lk_gf (T := TX6) B cl_X6 (by decide) in_X6 zw_88 dX6_appendCopy_10 (lk_iln B dX6_appendCopy_13 rfl (lk_iald B dX6_appendCopy_14 (lk_aln B dX6_appendCopy_15 rfl (lk_gf (T := TX6) B cl_X6 (by decide) in_X6 zw_86 dX6_appendCopy_16 (lk_iln B dX6_appendCopy_19 rfl (lk_b B dX6_appendCopy_20 rfl (lk_mul B dX6_appendCopy_22 (lk_aln B dX6_appendCopy_23 rfl (lk_gf (T := TX6) B cl_X6 (by decide) in_X6 zw_87 dX6_appendCopy_24 (lk_iln B dX6_appendCopy_27 rfl (lk_iald B dX6_appendCopy_28 (lk_callv (M := mX6_append) (T := TX6) (N := 5) B (zhR hd1 (by decide)) ⟨Nat.zero_le _, Nat.zero_le _⟩ cl_X6 (zw5 zw_314 zw_413 zw_312 zw_313 zw_51) (by decide +kernel) dX6_appendCopy_29 (k_X6_appendCopy_32 hd1 B hr hlk)))))))))))))))
set_option maxRecDepth 20000 in
theorem k_X6_appendCopy_0 {p : Program} {l : Launch} {e : Env} {s : State} {m : MethodId} {args : Array Value} {below : List Frame} {meth : Method} {c : Code} {E : zE} {d : Nat} {Q : zQ} (hd1 : 1 ≤ d) (B : zB p s m args c E mX6_appendCopy.1.cls mX6_appendCopy.2.1 mX6_appendCopy.2.2.1) (hr : meth.sig.returnType = mX6_appendCopy.2.2.2) (hlk : meth.locks = false) : zLk (zG p l e (zrm d) s m args below meth c E mX6_appendCopy.2.2.1 0 0 (MQ below (zQc E Q) args s 0 0 (zaA E))) 0 (b_X6_appendCopy_0 d (zG p l e (zrm d) s m args below meth c E mX6_appendCopy.2.2.1 0 0 (MQ below (zQc E Q) args s 0 0 (zaA E))) Q) := by
  unfold b_X6_appendCopy_0
  exact lk_aln B dX6_appendCopy_0 rfl (lk_iln B dX6_appendCopy_1 rfl (lk_callv (M := mX6_hasSlot) (T := TX6) (N := 5) B (zhR hd1 (by decide)) ⟨Nat.zero_le _, Nat.zero_le _⟩ cl_X6 (zw5 zw_329 zw_326 zw_327 zw_328 zw_51) (by decide +kernel) dX6_appendCopy_2 (lk_zeq B dX6_appendCopy_5 (by decide) (k_X6_appendCopy_32 hd1 B hr hlk) (k_X6_appendCopy_8 hd1 B hr hlk))))
def S_X6_appendCopy (d : Nat) (G : Nat → zK) (Q : zQ) : Prop := zLk G 0 (b_X6_appendCopy_0 d G Q)
theorem s_X6_appendCopy_0 {d : Nat} {G : Nat → zK} {Q : zQ} (h : S_X6_appendCopy d G Q) {ls st : List zV} {μ : zM} (k : b_X6_appendCopy_0 d G Q ls st μ) : G 0 ls st μ := h ls st μ k
theorem of_X6_appendCopy {d : Nat} {a0 a1 a2 : zV} {μ : zM} {Q : zQ} (hd1 : 1 ≤ d) (h : ∀ G : Nat → zK, S_X6_appendCopy d G Q → G 0 [a0, a1, a2] [] μ) : zCt d mX6_appendCopy [a0, a1, a2] μ Q := zCt.mk (by decide) (Nat.le_of_ble_eq_true rfl) (fun p l e s m args below meth c E B hr hlk => h _ (k_X6_appendCopy_0 hd1 B hr hlk))
theorem dX6_changeByte_0 : decode cX6_changeByte 0 = .ok (.aload_n 0, 1) := by decide +kernel
theorem dX6_changeByte_1 : decode cX6_changeByte 1 = .ok (.iload_n 1, 1) := by decide +kernel
theorem dX6_changeByte_2 : decode cX6_changeByte 2 = .ok (.iload_n 2, 1) := by decide +kernel
theorem dX6_changeByte_3 : decode cX6_changeByte 3 = .ok (.invokevirtual 48, 3) := by decide +kernel
theorem dX6_changeByte_6 : decode cX6_changeByte 6 = .ok (.iconst (-1), 1) := by decide +kernel
theorem dX6_changeByte_7 : decode cX6_changeByte 7 = .ok (.if_icmp .eq 38, 3) := by decide +kernel
theorem dX6_changeByte_10 : decode cX6_changeByte 10 = .ok (.aload_n 0, 1) := by decide +kernel
theorem dX6_changeByte_11 : decode cX6_changeByte 11 = .ok (.getfield 17, 3) := by decide +kernel
theorem dX6_changeByte_14 : decode cX6_changeByte 14 = .ok (.iload_n 1, 1) := by decide +kernel
theorem dX6_changeByte_15 : decode cX6_changeByte 15 = .ok (.bipush 18, 2) := by decide +kernel
theorem dX6_changeByte_17 : decode cX6_changeByte 17 = .ok (.imul, 1) := by decide +kernel
theorem dX6_changeByte_18 : decode cX6_changeByte 18 = .ok (.iload_n 2, 1) := by decide +kernel
theorem dX6_changeByte_19 : decode cX6_changeByte 19 = .ok (.iadd, 1) := by decide +kernel
theorem dX6_changeByte_20 : decode cX6_changeByte 20 = .ok (.iload_n 3, 1) := by decide +kernel
theorem dX6_changeByte_21 : decode cX6_changeByte 21 = .ok (.iastore, 1) := by decide +kernel
theorem dX6_changeByte_22 : decode cX6_changeByte 22 = .ok (.aload_n 0, 1) := by decide +kernel
theorem dX6_changeByte_23 : decode cX6_changeByte 23 = .ok (.getfield 24, 3) := by decide +kernel
theorem dX6_changeByte_26 : decode cX6_changeByte 26 = .ok (.iload_n 1, 1) := by decide +kernel
theorem dX6_changeByte_27 : decode cX6_changeByte 27 = .ok (.aload_n 0, 1) := by decide +kernel
theorem dX6_changeByte_28 : decode cX6_changeByte 28 = .ok (.getfield 17, 3) := by decide +kernel
theorem dX6_changeByte_31 : decode cX6_changeByte 31 = .ok (.iload_n 1, 1) := by decide +kernel
theorem dX6_changeByte_32 : decode cX6_changeByte 32 = .ok (.bipush 18, 2) := by decide +kernel
theorem dX6_changeByte_34 : decode cX6_changeByte 34 = .ok (.imul, 1) := by decide +kernel
theorem dX6_changeByte_35 : decode cX6_changeByte 35 = .ok (.aload_n 0, 1) := by decide +kernel
theorem dX6_changeByte_36 : decode cX6_changeByte 36 = .ok (.getfield 21, 3) := by decide +kernel
theorem dX6_changeByte_39 : decode cX6_changeByte 39 = .ok (.iload_n 1, 1) := by decide +kernel
theorem dX6_changeByte_40 : decode cX6_changeByte 40 = .ok (.iaload, 1) := by decide +kernel
theorem dX6_changeByte_41 : decode cX6_changeByte 41 = .ok (.invokestatic 52, 3) := by decide +kernel
theorem dX6_changeByte_44 : decode cX6_changeByte 44 = .ok (.iastore, 1) := by decide +kernel
theorem dX6_changeByte_45 : decode cX6_changeByte 45 = .ok (.return_, 1) := by decide +kernel
def b_X6_changeByte_45 (d : Nat) (G : Nat → zK) (Q : zQ) : zK := t_vret Q
def b_X6_changeByte_10 (d : Nat) (G : Nat → zK) (Q : zQ) : zK := o_al 0 <| o_gf 4 1 <| o_il 1 <| o_c 18 <| o_mul <| o_il 2 <| o_add <| o_il 3 <| o_iast <| o_al 0 <| o_gf 4 3 <| o_il 1 <| o_al 0 <| o_gf 4 1 <| o_il 1 <| o_c 18 <| o_mul <| o_al 0 <| o_gf 4 2 <| o_il 1 <| o_iald <| o_call (zCt (d - 1) mX10_nameOf) 3 <| o_iast <| b_X6_changeByte_45 d G Q
def b_X6_changeByte_0 (d : Nat) (G : Nat → zK) (Q : zQ) : zK := o_al 0 <| o_il 1 <| o_il 2 <| o_callv (zCt (d - 1) mX6_byteAt) 4 3 <| o_c (-1) <| t_ieq (b_X6_changeByte_45 d G Q) (b_X6_changeByte_10 d G Q)
set_option maxRecDepth 20000 in
theorem k_X6_changeByte_45 {p : Program} {l : Launch} {e : Env} {s : State} {m : MethodId} {args : Array Value} {below : List Frame} {meth : Method} {c : Code} {E : zE} {d : Nat} {Q : zQ} (hd1 : 1 ≤ d) (B : zB p s m args c E mX6_changeByte.1.cls mX6_changeByte.2.1 mX6_changeByte.2.2.1) (hr : meth.sig.returnType = mX6_changeByte.2.2.2) (hlk : meth.locks = false) : zLk (zG p l e (zrm d) s m args below meth c E mX6_changeByte.2.2.1 0 0 (MQ below (zQc E Q) args s 0 0 (zaA E))) 45 (b_X6_changeByte_45 d (zG p l e (zrm d) s m args below meth c E mX6_changeByte.2.2.1 0 0 (MQ below (zQc E Q) args s 0 0 (zaA E))) Q) := by
  unfold b_X6_changeByte_45
  exact lk_vret B hr hlk dX6_changeByte_45
set_option maxRecDepth 20000 in
theorem k_X6_changeByte_10 {p : Program} {l : Launch} {e : Env} {s : State} {m : MethodId} {args : Array Value} {below : List Frame} {meth : Method} {c : Code} {E : zE} {d : Nat} {Q : zQ} (hd1 : 1 ≤ d) (B : zB p s m args c E mX6_changeByte.1.cls mX6_changeByte.2.1 mX6_changeByte.2.2.1) (hr : meth.sig.returnType = mX6_changeByte.2.2.2) (hlk : meth.locks = false) : zLk (zG p l e (zrm d) s m args below meth c E mX6_changeByte.2.2.1 0 0 (MQ below (zQc E Q) args s 0 0 (zaA E))) 10 (b_X6_changeByte_10 d (zG p l e (zrm d) s m args below meth c E mX6_changeByte.2.2.1 0 0 (MQ below (zQc E Q) args s 0 0 (zaA E))) Q) := by
  unfold b_X6_changeByte_10
  exact lk_aln B dX6_changeByte_10 rfl (lk_gf (T := TX6) B cl_X6 (by decide) in_X6 zw_86 dX6_changeByte_11 (lk_iln B dX6_changeByte_14 rfl (lk_b B dX6_changeByte_15 rfl (lk_mul B dX6_changeByte_17 (lk_iln B dX6_changeByte_18 rfl (lk_add B dX6_changeByte_19 (lk_iln B dX6_changeByte_20 rfl (lk_iast B dX6_changeByte_21 (lk_aln B dX6_changeByte_22 rfl (lk_gf (T := TX6) B cl_X6 (by decide) in_X6 zw_88 dX6_changeByte_23 (lk_iln B dX6_changeByte_26 rfl (lk_aln B dX6_changeByte_27 rfl (lk_gf (T := TX6) B cl_X6 (by decide) in_X6 zw_86 dX6_changeByte_28 (lk_iln B dX6_changeByte_31 rfl (lk_b B dX6_changeByte_32 rfl (lk_mul B dX6_changeByte_34 (lk_aln B dX6_changeByte_35 rfl (lk_gf (T := TX6) B cl_X6 (by decide) in_X6 zw_87 dX6_changeByte_36 (lk_iln B dX6_changeByte_39 rfl (lk_iald B dX6_changeByte_40 (lk_calln (M := mX10_nameOf) B (zhR hd1 (by decide)) ⟨Nat.zero_le _, Nat.zero_le _⟩ B.2.2.2.2.2.2.2.2.2.2.2.2 (zw3 zw_280 zw_279 zw_49) (by decide +kernel) dX6_changeByte_41 (lk_iast B dX6_changeByte_44 (k_X6_changeByte_45 hd1 B hr hlk)))))))))))))))))))))))
set_option maxRecDepth 20000 in
theorem k_X6_changeByte_0 {p : Program} {l : Launch} {e : Env} {s : State} {m : MethodId} {args : Array Value} {below : List Frame} {meth : Method} {c : Code} {E : zE} {d : Nat} {Q : zQ} (hd1 : 1 ≤ d) (B : zB p s m args c E mX6_changeByte.1.cls mX6_changeByte.2.1 mX6_changeByte.2.2.1) (hr : meth.sig.returnType = mX6_changeByte.2.2.2) (hlk : meth.locks = false) : zLk (zG p l e (zrm d) s m args below meth c E mX6_changeByte.2.2.1 0 0 (MQ below (zQc E Q) args s 0 0 (zaA E))) 0 (b_X6_changeByte_0 d (zG p l e (zrm d) s m args below meth c E mX6_changeByte.2.2.1 0 0 (MQ below (zQc E Q) args s 0 0 (zaA E))) Q) := by
  unfold b_X6_changeByte_0
  exact lk_aln B dX6_changeByte_0 rfl (lk_iln B dX6_changeByte_1 rfl (lk_iln B dX6_changeByte_2 rfl (lk_callv (M := mX6_byteAt) (T := TX6) (N := 5) B (zhR hd1 (by decide)) ⟨Nat.zero_le _, Nat.zero_le _⟩ cl_X6 (zw5 zw_348 zw_760 zw_346 zw_347 zw_51) (by decide +kernel) dX6_changeByte_3 (lk_c B dX6_changeByte_6 (lk_ieq B dX6_changeByte_7 (by decide) (k_X6_changeByte_45 hd1 B hr hlk) (k_X6_changeByte_10 hd1 B hr hlk))))))
def S_X6_changeByte (d : Nat) (G : Nat → zK) (Q : zQ) : Prop := zLk G 0 (b_X6_changeByte_0 d G Q)
theorem s_X6_changeByte_0 {d : Nat} {G : Nat → zK} {Q : zQ} (h : S_X6_changeByte d G Q) {ls st : List zV} {μ : zM} (k : b_X6_changeByte_0 d G Q ls st μ) : G 0 ls st μ := h ls st μ k
theorem of_X6_changeByte {d : Nat} {a0 a1 a2 a3 : zV} {μ : zM} {Q : zQ} (hd1 : 1 ≤ d) (h : ∀ G : Nat → zK, S_X6_changeByte d G Q → G 0 [a0, a1, a2, a3] [] μ) : zCt d mX6_changeByte [a0, a1, a2, a3] μ Q := zCt.mk (by decide) (Nat.le_of_ble_eq_true rfl) (fun p l e s m args below meth c E B hr hlk => h _ (k_X6_changeByte_0 hd1 B hr hlk))
theorem dX6_hasSameBytes_0 : decode cX6_hasSameBytes 0 = .ok (.aload_n 0, 1) := by decide +kernel
theorem dX6_hasSameBytes_1 : decode cX6_hasSameBytes 1 = .ok (.iload_n 1, 1) := by decide +kernel
theorem dX6_hasSameBytes_2 : decode cX6_hasSameBytes 2 = .ok (.invokevirtual 30, 3) := by decide +kernel
theorem dX6_hasSameBytes_5 : decode cX6_hasSameBytes 5 = .ok (.ifCond .eq 14, 3) := by decide +kernel
theorem dX6_hasSameBytes_8 : decode cX6_hasSameBytes 8 = .ok (.aload_n 0, 1) := by decide +kernel
theorem dX6_hasSameBytes_9 : decode cX6_hasSameBytes 9 = .ok (.getfield 21, 3) := by decide +kernel
theorem dX6_hasSameBytes_12 : decode cX6_hasSameBytes 12 = .ok (.iload_n 1, 1) := by decide +kernel
theorem dX6_hasSameBytes_13 : decode cX6_hasSameBytes 13 = .ok (.iaload, 1) := by decide +kernel
theorem dX6_hasSameBytes_14 : decode cX6_hasSameBytes 14 = .ok (.iload 4, 2) := by decide +kernel
theorem dX6_hasSameBytes_16 : decode cX6_hasSameBytes 16 = .ok (.if_icmp .eq 5, 3) := by decide +kernel
theorem dX6_hasSameBytes_19 : decode cX6_hasSameBytes 19 = .ok (.iconst 0, 1) := by decide +kernel
theorem dX6_hasSameBytes_20 : decode cX6_hasSameBytes 20 = .ok (.ireturn, 1) := by decide +kernel
theorem dX6_hasSameBytes_21 : decode cX6_hasSameBytes 21 = .ok (.iconst 0, 1) := by decide +kernel
theorem dX6_hasSameBytes_22 : decode cX6_hasSameBytes 22 = .ok (.istore 5, 2) := by decide +kernel
theorem dX6_hasSameBytes_24 : decode cX6_hasSameBytes 24 = .ok (.iload 5, 2) := by decide +kernel
theorem dX6_hasSameBytes_26 : decode cX6_hasSameBytes 26 = .ok (.iload 4, 2) := by decide +kernel
theorem dX6_hasSameBytes_28 : decode cX6_hasSameBytes 28 = .ok (.if_icmp .ge 32, 3) := by decide +kernel
theorem dX6_hasSameBytes_31 : decode cX6_hasSameBytes 31 = .ok (.aload_n 0, 1) := by decide +kernel
theorem dX6_hasSameBytes_32 : decode cX6_hasSameBytes 32 = .ok (.getfield 17, 3) := by decide +kernel
theorem dX6_hasSameBytes_35 : decode cX6_hasSameBytes 35 = .ok (.iload_n 1, 1) := by decide +kernel
theorem dX6_hasSameBytes_36 : decode cX6_hasSameBytes 36 = .ok (.bipush 18, 2) := by decide +kernel
theorem dX6_hasSameBytes_38 : decode cX6_hasSameBytes 38 = .ok (.imul, 1) := by decide +kernel
theorem dX6_hasSameBytes_39 : decode cX6_hasSameBytes 39 = .ok (.iload 5, 2) := by decide +kernel
theorem dX6_hasSameBytes_41 : decode cX6_hasSameBytes 41 = .ok (.iadd, 1) := by decide +kernel
theorem dX6_hasSameBytes_42 : decode cX6_hasSameBytes 42 = .ok (.iaload, 1) := by decide +kernel
theorem dX6_hasSameBytes_43 : decode cX6_hasSameBytes 43 = .ok (.aload_n 2, 1) := by decide +kernel
theorem dX6_hasSameBytes_44 : decode cX6_hasSameBytes 44 = .ok (.iload_n 3, 1) := by decide +kernel
theorem dX6_hasSameBytes_45 : decode cX6_hasSameBytes 45 = .ok (.iload 5, 2) := by decide +kernel
theorem dX6_hasSameBytes_47 : decode cX6_hasSameBytes 47 = .ok (.iadd, 1) := by decide +kernel
theorem dX6_hasSameBytes_48 : decode cX6_hasSameBytes 48 = .ok (.iaload, 1) := by decide +kernel
theorem dX6_hasSameBytes_49 : decode cX6_hasSameBytes 49 = .ok (.if_icmp .eq 5, 3) := by decide +kernel
theorem dX6_hasSameBytes_52 : decode cX6_hasSameBytes 52 = .ok (.iconst 0, 1) := by decide +kernel
theorem dX6_hasSameBytes_53 : decode cX6_hasSameBytes 53 = .ok (.ireturn, 1) := by decide +kernel
theorem dX6_hasSameBytes_54 : decode cX6_hasSameBytes 54 = .ok (.iinc 5 1, 3) := by decide +kernel
theorem dX6_hasSameBytes_57 : decode cX6_hasSameBytes 57 = .ok (.goto (-33), 3) := by decide +kernel
theorem dX6_hasSameBytes_60 : decode cX6_hasSameBytes 60 = .ok (.iconst 1, 1) := by decide +kernel
theorem dX6_hasSameBytes_61 : decode cX6_hasSameBytes 61 = .ok (.ireturn, 1) := by decide +kernel
def b_X6_hasSameBytes_19 (d : Nat) (G : Nat → zK) (Q : zQ) : zK := o_c 0 <| t_zret Q
def b_X6_hasSameBytes_21 (d : Nat) (G : Nat → zK) (Q : zQ) : zK := o_c 0 <| o_is 5 <| G 24
def b_X6_hasSameBytes_8 (d : Nat) (G : Nat → zK) (Q : zQ) : zK := o_al 0 <| o_gf 4 2 <| o_il 1 <| o_iald <| o_il 4 <| t_ieq (b_X6_hasSameBytes_21 d G Q) (b_X6_hasSameBytes_19 d G Q)
def b_X6_hasSameBytes_0 (d : Nat) (G : Nat → zK) (Q : zQ) : zK := o_al 0 <| o_il 1 <| o_callv (zCt (d - 1) mX6_hasSlot) 4 2 <| t_zeq (b_X6_hasSameBytes_19 d G Q) (b_X6_hasSameBytes_8 d G Q)
def b_X6_hasSameBytes_60 (d : Nat) (G : Nat → zK) (Q : zQ) : zK := o_c 1 <| t_zret Q
def b_X6_hasSameBytes_54 (d : Nat) (G : Nat → zK) (Q : zQ) : zK := o_inc 5 1 <| G 24
def b_X6_hasSameBytes_52 (d : Nat) (G : Nat → zK) (Q : zQ) : zK := o_c 0 <| t_zret Q
def b_X6_hasSameBytes_31 (d : Nat) (G : Nat → zK) (Q : zQ) : zK := o_al 0 <| o_gf 4 1 <| o_il 1 <| o_c 18 <| o_mul <| o_il 5 <| o_add <| o_iald <| o_al 2 <| o_il 3 <| o_il 5 <| o_add <| o_iald <| t_ieq (b_X6_hasSameBytes_54 d G Q) (b_X6_hasSameBytes_52 d G Q)
def b_X6_hasSameBytes_24 (d : Nat) (G : Nat → zK) (Q : zQ) : zK := o_il 5 <| o_il 4 <| t_ilt (b_X6_hasSameBytes_31 d G Q) (b_X6_hasSameBytes_60 d G Q)
set_option maxRecDepth 20000 in
theorem k_X6_hasSameBytes_19 {p : Program} {l : Launch} {e : Env} {s : State} {m : MethodId} {args : Array Value} {below : List Frame} {meth : Method} {c : Code} {E : zE} {d : Nat} {Q : zQ} (hd1 : 1 ≤ d) (B : zB p s m args c E mX6_hasSameBytes.1.cls mX6_hasSameBytes.2.1 mX6_hasSameBytes.2.2.1) (hr : meth.sig.returnType = mX6_hasSameBytes.2.2.2) (hlk : meth.locks = false) : zLk (zG p l e (zrm d) s m args below meth c E mX6_hasSameBytes.2.2.1 0 0 (MQ below (zQc E Q) args s 0 0 (zaA E))) 19 (b_X6_hasSameBytes_19 d (zG p l e (zrm d) s m args below meth c E mX6_hasSameBytes.2.2.1 0 0 (MQ below (zQc E Q) args s 0 0 (zaA E))) Q) := by
  unfold b_X6_hasSameBytes_19
  exact lk_c B dX6_hasSameBytes_19 (lk_zret B hr hlk dX6_hasSameBytes_20)
set_option maxRecDepth 20000 in
theorem k_X6_hasSameBytes_21 {p : Program} {l : Launch} {e : Env} {s : State} {m : MethodId} {args : Array Value} {below : List Frame} {meth : Method} {c : Code} {E : zE} {d : Nat} {Q : zQ} (hd1 : 1 ≤ d) (B : zB p s m args c E mX6_hasSameBytes.1.cls mX6_hasSameBytes.2.1 mX6_hasSameBytes.2.2.1) (hr : meth.sig.returnType = mX6_hasSameBytes.2.2.2) (hlk : meth.locks = false) : zLk (zG p l e (zrm d) s m args below meth c E mX6_hasSameBytes.2.2.1 0 0 (MQ below (zQc E Q) args s 0 0 (zaA E))) 21 (b_X6_hasSameBytes_21 d (zG p l e (zrm d) s m args below meth c E mX6_hasSameBytes.2.2.1 0 0 (MQ below (zQc E Q) args s 0 0 (zaA E))) Q) := by
  unfold b_X6_hasSameBytes_21
  exact lk_c B dX6_hasSameBytes_21 (lk_is B dX6_hasSameBytes_22 (by decide) (fun _ _ _ h => h))
set_option maxRecDepth 20000 in
theorem k_X6_hasSameBytes_8 {p : Program} {l : Launch} {e : Env} {s : State} {m : MethodId} {args : Array Value} {below : List Frame} {meth : Method} {c : Code} {E : zE} {d : Nat} {Q : zQ} (hd1 : 1 ≤ d) (B : zB p s m args c E mX6_hasSameBytes.1.cls mX6_hasSameBytes.2.1 mX6_hasSameBytes.2.2.1) (hr : meth.sig.returnType = mX6_hasSameBytes.2.2.2) (hlk : meth.locks = false) : zLk (zG p l e (zrm d) s m args below meth c E mX6_hasSameBytes.2.2.1 0 0 (MQ below (zQc E Q) args s 0 0 (zaA E))) 8 (b_X6_hasSameBytes_8 d (zG p l e (zrm d) s m args below meth c E mX6_hasSameBytes.2.2.1 0 0 (MQ below (zQc E Q) args s 0 0 (zaA E))) Q) := by
  unfold b_X6_hasSameBytes_8
  exact lk_aln B dX6_hasSameBytes_8 rfl (lk_gf (T := TX6) B cl_X6 (by decide) in_X6 zw_87 dX6_hasSameBytes_9 (lk_iln B dX6_hasSameBytes_12 rfl (lk_iald B dX6_hasSameBytes_13 (lk_il B dX6_hasSameBytes_14 (lk_ieq B dX6_hasSameBytes_16 (by decide) (k_X6_hasSameBytes_21 hd1 B hr hlk) (k_X6_hasSameBytes_19 hd1 B hr hlk))))))
set_option maxRecDepth 20000 in
theorem k_X6_hasSameBytes_0 {p : Program} {l : Launch} {e : Env} {s : State} {m : MethodId} {args : Array Value} {below : List Frame} {meth : Method} {c : Code} {E : zE} {d : Nat} {Q : zQ} (hd1 : 1 ≤ d) (B : zB p s m args c E mX6_hasSameBytes.1.cls mX6_hasSameBytes.2.1 mX6_hasSameBytes.2.2.1) (hr : meth.sig.returnType = mX6_hasSameBytes.2.2.2) (hlk : meth.locks = false) : zLk (zG p l e (zrm d) s m args below meth c E mX6_hasSameBytes.2.2.1 0 0 (MQ below (zQc E Q) args s 0 0 (zaA E))) 0 (b_X6_hasSameBytes_0 d (zG p l e (zrm d) s m args below meth c E mX6_hasSameBytes.2.2.1 0 0 (MQ below (zQc E Q) args s 0 0 (zaA E))) Q) := by
  unfold b_X6_hasSameBytes_0
  exact lk_aln B dX6_hasSameBytes_0 rfl (lk_iln B dX6_hasSameBytes_1 rfl (lk_callv (M := mX6_hasSlot) (T := TX6) (N := 5) B (zhR hd1 (by decide)) ⟨Nat.zero_le _, Nat.zero_le _⟩ cl_X6 (zw5 zw_329 zw_326 zw_327 zw_328 zw_51) (by decide +kernel) dX6_hasSameBytes_2 (lk_zeq B dX6_hasSameBytes_5 (by decide) (k_X6_hasSameBytes_19 hd1 B hr hlk) (k_X6_hasSameBytes_8 hd1 B hr hlk))))
set_option maxRecDepth 20000 in
theorem k_X6_hasSameBytes_60 {p : Program} {l : Launch} {e : Env} {s : State} {m : MethodId} {args : Array Value} {below : List Frame} {meth : Method} {c : Code} {E : zE} {d : Nat} {Q : zQ} (hd1 : 1 ≤ d) (B : zB p s m args c E mX6_hasSameBytes.1.cls mX6_hasSameBytes.2.1 mX6_hasSameBytes.2.2.1) (hr : meth.sig.returnType = mX6_hasSameBytes.2.2.2) (hlk : meth.locks = false) : zLk (zG p l e (zrm d) s m args below meth c E mX6_hasSameBytes.2.2.1 0 0 (MQ below (zQc E Q) args s 0 0 (zaA E))) 60 (b_X6_hasSameBytes_60 d (zG p l e (zrm d) s m args below meth c E mX6_hasSameBytes.2.2.1 0 0 (MQ below (zQc E Q) args s 0 0 (zaA E))) Q) := by
  unfold b_X6_hasSameBytes_60
  exact lk_c B dX6_hasSameBytes_60 (lk_zret B hr hlk dX6_hasSameBytes_61)
set_option maxRecDepth 20000 in
theorem k_X6_hasSameBytes_54 {p : Program} {l : Launch} {e : Env} {s : State} {m : MethodId} {args : Array Value} {below : List Frame} {meth : Method} {c : Code} {E : zE} {d : Nat} {Q : zQ} (hd1 : 1 ≤ d) (B : zB p s m args c E mX6_hasSameBytes.1.cls mX6_hasSameBytes.2.1 mX6_hasSameBytes.2.2.1) (hr : meth.sig.returnType = mX6_hasSameBytes.2.2.2) (hlk : meth.locks = false) : zLk (zG p l e (zrm d) s m args below meth c E mX6_hasSameBytes.2.2.1 0 0 (MQ below (zQc E Q) args s 0 0 (zaA E))) 54 (b_X6_hasSameBytes_54 d (zG p l e (zrm d) s m args below meth c E mX6_hasSameBytes.2.2.1 0 0 (MQ below (zQc E Q) args s 0 0 (zaA E))) Q) := by
  unfold b_X6_hasSameBytes_54
  exact lk_inc B dX6_hasSameBytes_54 (by decide) (lk_goto B dX6_hasSameBytes_57 (by decide) (fun _ _ _ h => h))
set_option maxRecDepth 20000 in
theorem k_X6_hasSameBytes_52 {p : Program} {l : Launch} {e : Env} {s : State} {m : MethodId} {args : Array Value} {below : List Frame} {meth : Method} {c : Code} {E : zE} {d : Nat} {Q : zQ} (hd1 : 1 ≤ d) (B : zB p s m args c E mX6_hasSameBytes.1.cls mX6_hasSameBytes.2.1 mX6_hasSameBytes.2.2.1) (hr : meth.sig.returnType = mX6_hasSameBytes.2.2.2) (hlk : meth.locks = false) : zLk (zG p l e (zrm d) s m args below meth c E mX6_hasSameBytes.2.2.1 0 0 (MQ below (zQc E Q) args s 0 0 (zaA E))) 52 (b_X6_hasSameBytes_52 d (zG p l e (zrm d) s m args below meth c E mX6_hasSameBytes.2.2.1 0 0 (MQ below (zQc E Q) args s 0 0 (zaA E))) Q) := by
  unfold b_X6_hasSameBytes_52
  exact lk_c B dX6_hasSameBytes_52 (lk_zret B hr hlk dX6_hasSameBytes_53)
set_option maxRecDepth 20000 in
theorem k_X6_hasSameBytes_31 {p : Program} {l : Launch} {e : Env} {s : State} {m : MethodId} {args : Array Value} {below : List Frame} {meth : Method} {c : Code} {E : zE} {d : Nat} {Q : zQ} (hd1 : 1 ≤ d) (B : zB p s m args c E mX6_hasSameBytes.1.cls mX6_hasSameBytes.2.1 mX6_hasSameBytes.2.2.1) (hr : meth.sig.returnType = mX6_hasSameBytes.2.2.2) (hlk : meth.locks = false) : zLk (zG p l e (zrm d) s m args below meth c E mX6_hasSameBytes.2.2.1 0 0 (MQ below (zQc E Q) args s 0 0 (zaA E))) 31 (b_X6_hasSameBytes_31 d (zG p l e (zrm d) s m args below meth c E mX6_hasSameBytes.2.2.1 0 0 (MQ below (zQc E Q) args s 0 0 (zaA E))) Q) := by
  unfold b_X6_hasSameBytes_31
  exact lk_aln B dX6_hasSameBytes_31 rfl (lk_gf (T := TX6) B cl_X6 (by decide) in_X6 zw_86 dX6_hasSameBytes_32 (lk_iln B dX6_hasSameBytes_35 rfl (lk_b B dX6_hasSameBytes_36 rfl (lk_mul B dX6_hasSameBytes_38 (lk_il B dX6_hasSameBytes_39 (lk_add B dX6_hasSameBytes_41 (lk_iald B dX6_hasSameBytes_42 (lk_aln B dX6_hasSameBytes_43 rfl (lk_iln B dX6_hasSameBytes_44 rfl (lk_il B dX6_hasSameBytes_45 (lk_add B dX6_hasSameBytes_47 (lk_iald B dX6_hasSameBytes_48 (lk_ieq B dX6_hasSameBytes_49 (by decide) (k_X6_hasSameBytes_54 hd1 B hr hlk) (k_X6_hasSameBytes_52 hd1 B hr hlk))))))))))))))
set_option maxRecDepth 20000 in
theorem k_X6_hasSameBytes_24 {p : Program} {l : Launch} {e : Env} {s : State} {m : MethodId} {args : Array Value} {below : List Frame} {meth : Method} {c : Code} {E : zE} {d : Nat} {Q : zQ} (hd1 : 1 ≤ d) (B : zB p s m args c E mX6_hasSameBytes.1.cls mX6_hasSameBytes.2.1 mX6_hasSameBytes.2.2.1) (hr : meth.sig.returnType = mX6_hasSameBytes.2.2.2) (hlk : meth.locks = false) : zLk (zG p l e (zrm d) s m args below meth c E mX6_hasSameBytes.2.2.1 0 0 (MQ below (zQc E Q) args s 0 0 (zaA E))) 24 (b_X6_hasSameBytes_24 d (zG p l e (zrm d) s m args below meth c E mX6_hasSameBytes.2.2.1 0 0 (MQ below (zQc E Q) args s 0 0 (zaA E))) Q) := by
  unfold b_X6_hasSameBytes_24
  exact lk_il B dX6_hasSameBytes_24 (lk_il B dX6_hasSameBytes_26 (lk_ige B dX6_hasSameBytes_28 (by decide) (k_X6_hasSameBytes_60 hd1 B hr hlk) (k_X6_hasSameBytes_31 hd1 B hr hlk)))
def S_X6_hasSameBytes (d : Nat) (G : Nat → zK) (Q : zQ) : Prop := zLk G 0 (b_X6_hasSameBytes_0 d G Q) ∧ zLk G 24 (b_X6_hasSameBytes_24 d G Q)
theorem s_X6_hasSameBytes_0 {d : Nat} {G : Nat → zK} {Q : zQ} (h : S_X6_hasSameBytes d G Q) {ls st : List zV} {μ : zM} (k : b_X6_hasSameBytes_0 d G Q ls st μ) : G 0 ls st μ := h.1 ls st μ k
theorem s_X6_hasSameBytes_24 {d : Nat} {G : Nat → zK} {Q : zQ} (h : S_X6_hasSameBytes d G Q) {ls st : List zV} {μ : zM} (k : b_X6_hasSameBytes_24 d G Q ls st μ) : G 24 ls st μ := h.2 ls st μ k
theorem of_X6_hasSameBytes {d : Nat} {a0 a1 a2 a3 a4 : zV} {μ : zM} {Q : zQ} (hd1 : 1 ≤ d) (h : ∀ G : Nat → zK, S_X6_hasSameBytes d G Q → G 0 [a0, a1, a2, a3, a4, .inr none] [] μ) : zCt d mX6_hasSameBytes [a0, a1, a2, a3, a4] μ Q := zCt.mk (by decide) (Nat.le_of_ble_eq_true rfl) (fun p l e s m args below meth c E B hr hlk => h _ ⟨k_X6_hasSameBytes_0 hd1 B hr hlk, k_X6_hasSameBytes_24 hd1 B hr hlk⟩)
theorem dX6_hasSameBlock_0 : decode cX6_hasSameBlock 0 = .ok (.aload_n 2, 1) := by decide +kernel
theorem dX6_hasSameBlock_1 : decode cX6_hasSameBlock 1 = .ok (.iload_n 3, 1) := by decide +kernel
theorem dX6_hasSameBlock_2 : decode cX6_hasSameBlock 2 = .ok (.invokevirtual 30, 3) := by decide +kernel
theorem dX6_hasSameBlock_5 : decode cX6_hasSameBlock 5 = .ok (.ifCond .eq 29, 3) := by decide +kernel
theorem dX6_hasSameBlock_8 : decode cX6_hasSameBlock 8 = .ok (.aload_n 0, 1) := by decide +kernel
theorem dX6_hasSameBlock_9 : decode cX6_hasSameBlock 9 = .ok (.iload_n 1, 1) := by decide +kernel
theorem dX6_hasSameBlock_10 : decode cX6_hasSameBlock 10 = .ok (.aload_n 2, 1) := by decide +kernel
theorem dX6_hasSameBlock_11 : decode cX6_hasSameBlock 11 = .ok (.getfield 17, 3) := by decide +kernel
theorem dX6_hasSameBlock_14 : decode cX6_hasSameBlock 14 = .ok (.iload_n 3, 1) := by decide +kernel
theorem dX6_hasSameBlock_15 : decode cX6_hasSameBlock 15 = .ok (.bipush 18, 2) := by decide +kernel
theorem dX6_hasSameBlock_17 : decode cX6_hasSameBlock 17 = .ok (.imul, 1) := by decide +kernel
theorem dX6_hasSameBlock_18 : decode cX6_hasSameBlock 18 = .ok (.aload_n 2, 1) := by decide +kernel
theorem dX6_hasSameBlock_19 : decode cX6_hasSameBlock 19 = .ok (.getfield 21, 3) := by decide +kernel
theorem dX6_hasSameBlock_22 : decode cX6_hasSameBlock 22 = .ok (.iload_n 3, 1) := by decide +kernel
theorem dX6_hasSameBlock_23 : decode cX6_hasSameBlock 23 = .ok (.iaload, 1) := by decide +kernel
theorem dX6_hasSameBlock_24 : decode cX6_hasSameBlock 24 = .ok (.invokevirtual 56, 3) := by decide +kernel
theorem dX6_hasSameBlock_27 : decode cX6_hasSameBlock 27 = .ok (.ifCond .eq 7, 3) := by decide +kernel
theorem dX6_hasSameBlock_30 : decode cX6_hasSameBlock 30 = .ok (.iconst 1, 1) := by decide +kernel
theorem dX6_hasSameBlock_31 : decode cX6_hasSameBlock 31 = .ok (.goto 4, 3) := by decide +kernel
theorem dX6_hasSameBlock_34 : decode cX6_hasSameBlock 34 = .ok (.iconst 0, 1) := by decide +kernel
theorem dX6_hasSameBlock_35 : decode cX6_hasSameBlock 35 = .ok (.ireturn, 1) := by decide +kernel
def b_X6_hasSameBlock_35 (d : Nat) (G : Nat → zK) (Q : zQ) : zK := t_zret Q
def b_X6_hasSameBlock_34 (d : Nat) (G : Nat → zK) (Q : zQ) : zK := o_c 0 <| b_X6_hasSameBlock_35 d G Q
def b_X6_hasSameBlock_30 (d : Nat) (G : Nat → zK) (Q : zQ) : zK := o_c 1 <| b_X6_hasSameBlock_35 d G Q
def b_X6_hasSameBlock_8 (d : Nat) (G : Nat → zK) (Q : zQ) : zK := o_al 0 <| o_il 1 <| o_al 2 <| o_gf 4 1 <| o_il 3 <| o_c 18 <| o_mul <| o_al 2 <| o_gf 4 2 <| o_il 3 <| o_iald <| o_callv (zCt (d - 1) mX6_hasSameBytes) 4 5 <| t_zeq (b_X6_hasSameBlock_34 d G Q) (b_X6_hasSameBlock_30 d G Q)
def b_X6_hasSameBlock_0 (d : Nat) (G : Nat → zK) (Q : zQ) : zK := o_al 2 <| o_il 3 <| o_callv (zCt (d - 1) mX6_hasSlot) 4 2 <| t_zeq (b_X6_hasSameBlock_34 d G Q) (b_X6_hasSameBlock_8 d G Q)
set_option maxRecDepth 20000 in
theorem k_X6_hasSameBlock_35 {p : Program} {l : Launch} {e : Env} {s : State} {m : MethodId} {args : Array Value} {below : List Frame} {meth : Method} {c : Code} {E : zE} {d : Nat} {Q : zQ} (hd1 : 1 ≤ d) (B : zB p s m args c E mX6_hasSameBlock.1.cls mX6_hasSameBlock.2.1 mX6_hasSameBlock.2.2.1) (hr : meth.sig.returnType = mX6_hasSameBlock.2.2.2) (hlk : meth.locks = false) : zLk (zG p l e (zrm d) s m args below meth c E mX6_hasSameBlock.2.2.1 0 0 (MQ below (zQc E Q) args s 0 0 (zaA E))) 35 (b_X6_hasSameBlock_35 d (zG p l e (zrm d) s m args below meth c E mX6_hasSameBlock.2.2.1 0 0 (MQ below (zQc E Q) args s 0 0 (zaA E))) Q) := by
  unfold b_X6_hasSameBlock_35
  exact lk_zret B hr hlk dX6_hasSameBlock_35
set_option maxRecDepth 20000 in
theorem k_X6_hasSameBlock_34 {p : Program} {l : Launch} {e : Env} {s : State} {m : MethodId} {args : Array Value} {below : List Frame} {meth : Method} {c : Code} {E : zE} {d : Nat} {Q : zQ} (hd1 : 1 ≤ d) (B : zB p s m args c E mX6_hasSameBlock.1.cls mX6_hasSameBlock.2.1 mX6_hasSameBlock.2.2.1) (hr : meth.sig.returnType = mX6_hasSameBlock.2.2.2) (hlk : meth.locks = false) : zLk (zG p l e (zrm d) s m args below meth c E mX6_hasSameBlock.2.2.1 0 0 (MQ below (zQc E Q) args s 0 0 (zaA E))) 34 (b_X6_hasSameBlock_34 d (zG p l e (zrm d) s m args below meth c E mX6_hasSameBlock.2.2.1 0 0 (MQ below (zQc E Q) args s 0 0 (zaA E))) Q) := by
  unfold b_X6_hasSameBlock_34
  exact lk_c B dX6_hasSameBlock_34 (k_X6_hasSameBlock_35 hd1 B hr hlk)
set_option maxRecDepth 20000 in
theorem k_X6_hasSameBlock_30 {p : Program} {l : Launch} {e : Env} {s : State} {m : MethodId} {args : Array Value} {below : List Frame} {meth : Method} {c : Code} {E : zE} {d : Nat} {Q : zQ} (hd1 : 1 ≤ d) (B : zB p s m args c E mX6_hasSameBlock.1.cls mX6_hasSameBlock.2.1 mX6_hasSameBlock.2.2.1) (hr : meth.sig.returnType = mX6_hasSameBlock.2.2.2) (hlk : meth.locks = false) : zLk (zG p l e (zrm d) s m args below meth c E mX6_hasSameBlock.2.2.1 0 0 (MQ below (zQc E Q) args s 0 0 (zaA E))) 30 (b_X6_hasSameBlock_30 d (zG p l e (zrm d) s m args below meth c E mX6_hasSameBlock.2.2.1 0 0 (MQ below (zQc E Q) args s 0 0 (zaA E))) Q) := by
  unfold b_X6_hasSameBlock_30
  exact lk_c B dX6_hasSameBlock_30 (lk_goto B dX6_hasSameBlock_31 (by decide) (k_X6_hasSameBlock_35 hd1 B hr hlk))
set_option maxRecDepth 20000 in
theorem k_X6_hasSameBlock_8 {p : Program} {l : Launch} {e : Env} {s : State} {m : MethodId} {args : Array Value} {below : List Frame} {meth : Method} {c : Code} {E : zE} {d : Nat} {Q : zQ} (hd1 : 1 ≤ d) (B : zB p s m args c E mX6_hasSameBlock.1.cls mX6_hasSameBlock.2.1 mX6_hasSameBlock.2.2.1) (hr : meth.sig.returnType = mX6_hasSameBlock.2.2.2) (hlk : meth.locks = false) : zLk (zG p l e (zrm d) s m args below meth c E mX6_hasSameBlock.2.2.1 0 0 (MQ below (zQc E Q) args s 0 0 (zaA E))) 8 (b_X6_hasSameBlock_8 d (zG p l e (zrm d) s m args below meth c E mX6_hasSameBlock.2.2.1 0 0 (MQ below (zQc E Q) args s 0 0 (zaA E))) Q) := by
  unfold b_X6_hasSameBlock_8
  exact lk_aln B dX6_hasSameBlock_8 rfl (lk_iln B dX6_hasSameBlock_9 rfl (lk_aln B dX6_hasSameBlock_10 rfl (lk_gf (T := TX6) B cl_X6 (by decide) in_X6 zw_86 dX6_hasSameBlock_11 (lk_iln B dX6_hasSameBlock_14 rfl (lk_b B dX6_hasSameBlock_15 rfl (lk_mul B dX6_hasSameBlock_17 (lk_aln B dX6_hasSameBlock_18 rfl (lk_gf (T := TX6) B cl_X6 (by decide) in_X6 zw_87 dX6_hasSameBlock_19 (lk_iln B dX6_hasSameBlock_22 rfl (lk_iald B dX6_hasSameBlock_23 (lk_callv (M := mX6_hasSameBytes) (T := TX6) (N := 5) B (zhR hd1 (by decide)) ⟨Nat.zero_le _, Nat.zero_le _⟩ cl_X6 (zw5 zw_325 zw_408 zw_323 zw_324 zw_51) (by decide +kernel) dX6_hasSameBlock_24 (lk_zeq B dX6_hasSameBlock_27 (by decide) (k_X6_hasSameBlock_34 hd1 B hr hlk) (k_X6_hasSameBlock_30 hd1 B hr hlk)))))))))))))
set_option maxRecDepth 20000 in
theorem k_X6_hasSameBlock_0 {p : Program} {l : Launch} {e : Env} {s : State} {m : MethodId} {args : Array Value} {below : List Frame} {meth : Method} {c : Code} {E : zE} {d : Nat} {Q : zQ} (hd1 : 1 ≤ d) (B : zB p s m args c E mX6_hasSameBlock.1.cls mX6_hasSameBlock.2.1 mX6_hasSameBlock.2.2.1) (hr : meth.sig.returnType = mX6_hasSameBlock.2.2.2) (hlk : meth.locks = false) : zLk (zG p l e (zrm d) s m args below meth c E mX6_hasSameBlock.2.2.1 0 0 (MQ below (zQc E Q) args s 0 0 (zaA E))) 0 (b_X6_hasSameBlock_0 d (zG p l e (zrm d) s m args below meth c E mX6_hasSameBlock.2.2.1 0 0 (MQ below (zQc E Q) args s 0 0 (zaA E))) Q) := by
  unfold b_X6_hasSameBlock_0
  exact lk_aln B dX6_hasSameBlock_0 rfl (lk_iln B dX6_hasSameBlock_1 rfl (lk_callv (M := mX6_hasSlot) (T := TX6) (N := 5) B (zhR hd1 (by decide)) ⟨Nat.zero_le _, Nat.zero_le _⟩ cl_X6 (zw5 zw_329 zw_326 zw_327 zw_328 zw_51) (by decide +kernel) dX6_hasSameBlock_2 (lk_zeq B dX6_hasSameBlock_5 (by decide) (k_X6_hasSameBlock_34 hd1 B hr hlk) (k_X6_hasSameBlock_8 hd1 B hr hlk))))
def S_X6_hasSameBlock (d : Nat) (G : Nat → zK) (Q : zQ) : Prop := zLk G 0 (b_X6_hasSameBlock_0 d G Q)
theorem s_X6_hasSameBlock_0 {d : Nat} {G : Nat → zK} {Q : zQ} (h : S_X6_hasSameBlock d G Q) {ls st : List zV} {μ : zM} (k : b_X6_hasSameBlock_0 d G Q ls st μ) : G 0 ls st μ := h ls st μ k
theorem of_X6_hasSameBlock {d : Nat} {a0 a1 a2 a3 : zV} {μ : zM} {Q : zQ} (hd1 : 1 ≤ d) (h : ∀ G : Nat → zK, S_X6_hasSameBlock d G Q → G 0 [a0, a1, a2, a3] [] μ) : zCt d mX6_hasSameBlock [a0, a1, a2, a3] μ Q := zCt.mk (by decide) (Nat.le_of_ble_eq_true rfl) (fun p l e s m args below meth c E B hr hlk => h _ (k_X6_hasSameBlock_0 hd1 B hr hlk))
theorem dX6_removeSlot_0 : decode cX6_removeSlot 0 = .ok (.aload_n 0, 1) := by decide +kernel
theorem dX6_removeSlot_1 : decode cX6_removeSlot 1 = .ok (.iload_n 1, 1) := by decide +kernel
theorem dX6_removeSlot_2 : decode cX6_removeSlot 2 = .ok (.invokevirtual 30, 3) := by decide +kernel
theorem dX6_removeSlot_5 : decode cX6_removeSlot 5 = .ok (.ifCond .ne 4, 3) := by decide +kernel
theorem dX6_removeSlot_8 : decode cX6_removeSlot 8 = .ok (.return_, 1) := by decide +kernel
theorem dX6_removeSlot_9 : decode cX6_removeSlot 9 = .ok (.aload_n 0, 1) := by decide +kernel
theorem dX6_removeSlot_10 : decode cX6_removeSlot 10 = .ok (.getfield 27, 3) := by decide +kernel
theorem dX6_removeSlot_13 : decode cX6_removeSlot 13 = .ok (.iload_n 1, 1) := by decide +kernel
theorem dX6_removeSlot_14 : decode cX6_removeSlot 14 = .ok (.isub, 1) := by decide +kernel
theorem dX6_removeSlot_15 : decode cX6_removeSlot 15 = .ok (.iconst 1, 1) := by decide +kernel
theorem dX6_removeSlot_16 : decode cX6_removeSlot 16 = .ok (.isub, 1) := by decide +kernel
theorem dX6_removeSlot_17 : decode cX6_removeSlot 17 = .ok (.istore_n 2, 1) := by decide +kernel
theorem dX6_removeSlot_18 : decode cX6_removeSlot 18 = .ok (.aload_n 0, 1) := by decide +kernel
theorem dX6_removeSlot_19 : decode cX6_removeSlot 19 = .ok (.getfield 17, 3) := by decide +kernel
theorem dX6_removeSlot_22 : decode cX6_removeSlot 22 = .ok (.iload_n 1, 1) := by decide +kernel
theorem dX6_removeSlot_23 : decode cX6_removeSlot 23 = .ok (.iconst 1, 1) := by decide +kernel
theorem dX6_removeSlot_24 : decode cX6_removeSlot 24 = .ok (.iadd, 1) := by decide +kernel
theorem dX6_removeSlot_25 : decode cX6_removeSlot 25 = .ok (.bipush 18, 2) := by decide +kernel
theorem dX6_removeSlot_27 : decode cX6_removeSlot 27 = .ok (.imul, 1) := by decide +kernel
theorem dX6_removeSlot_28 : decode cX6_removeSlot 28 = .ok (.aload_n 0, 1) := by decide +kernel
theorem dX6_removeSlot_29 : decode cX6_removeSlot 29 = .ok (.getfield 17, 3) := by decide +kernel
theorem dX6_removeSlot_32 : decode cX6_removeSlot 32 = .ok (.iload_n 1, 1) := by decide +kernel
theorem dX6_removeSlot_33 : decode cX6_removeSlot 33 = .ok (.bipush 18, 2) := by decide +kernel
theorem dX6_removeSlot_35 : decode cX6_removeSlot 35 = .ok (.imul, 1) := by decide +kernel
theorem dX6_removeSlot_36 : decode cX6_removeSlot 36 = .ok (.iload_n 2, 1) := by decide +kernel
theorem dX6_removeSlot_37 : decode cX6_removeSlot 37 = .ok (.bipush 18, 2) := by decide +kernel
theorem dX6_removeSlot_39 : decode cX6_removeSlot 39 = .ok (.imul, 1) := by decide +kernel
theorem dX6_removeSlot_40 : decode cX6_removeSlot 40 = .ok (.invokestatic 38, 3) := by decide +kernel
theorem dX6_removeSlot_43 : decode cX6_removeSlot 43 = .ok (.aload_n 0, 1) := by decide +kernel
theorem dX6_removeSlot_44 : decode cX6_removeSlot 44 = .ok (.getfield 21, 3) := by decide +kernel
theorem dX6_removeSlot_47 : decode cX6_removeSlot 47 = .ok (.iload_n 1, 1) := by decide +kernel
theorem dX6_removeSlot_48 : decode cX6_removeSlot 48 = .ok (.iconst 1, 1) := by decide +kernel
theorem dX6_removeSlot_49 : decode cX6_removeSlot 49 = .ok (.iadd, 1) := by decide +kernel
theorem dX6_removeSlot_50 : decode cX6_removeSlot 50 = .ok (.aload_n 0, 1) := by decide +kernel
theorem dX6_removeSlot_51 : decode cX6_removeSlot 51 = .ok (.getfield 21, 3) := by decide +kernel
theorem dX6_removeSlot_54 : decode cX6_removeSlot 54 = .ok (.iload_n 1, 1) := by decide +kernel
theorem dX6_removeSlot_55 : decode cX6_removeSlot 55 = .ok (.iload_n 2, 1) := by decide +kernel
theorem dX6_removeSlot_56 : decode cX6_removeSlot 56 = .ok (.invokestatic 38, 3) := by decide +kernel
theorem dX6_removeSlot_59 : decode cX6_removeSlot 59 = .ok (.aload_n 0, 1) := by decide +kernel
theorem dX6_removeSlot_60 : decode cX6_removeSlot 60 = .ok (.getfield 24, 3) := by decide +kernel
theorem dX6_removeSlot_63 : decode cX6_removeSlot 63 = .ok (.iload_n 1, 1) := by decide +kernel
theorem dX6_removeSlot_64 : decode cX6_removeSlot 64 = .ok (.iconst 1, 1) := by decide +kernel
theorem dX6_removeSlot_65 : decode cX6_removeSlot 65 = .ok (.iadd, 1) := by decide +kernel
theorem dX6_removeSlot_66 : decode cX6_removeSlot 66 = .ok (.aload_n 0, 1) := by decide +kernel
theorem dX6_removeSlot_67 : decode cX6_removeSlot 67 = .ok (.getfield 24, 3) := by decide +kernel
theorem dX6_removeSlot_70 : decode cX6_removeSlot 70 = .ok (.iload_n 1, 1) := by decide +kernel
theorem dX6_removeSlot_71 : decode cX6_removeSlot 71 = .ok (.iload_n 2, 1) := by decide +kernel
theorem dX6_removeSlot_72 : decode cX6_removeSlot 72 = .ok (.invokestatic 38, 3) := by decide +kernel
theorem dX6_removeSlot_75 : decode cX6_removeSlot 75 = .ok (.aload_n 0, 1) := by decide +kernel
theorem dX6_removeSlot_76 : decode cX6_removeSlot 76 = .ok (.dup, 1) := by decide +kernel
theorem dX6_removeSlot_77 : decode cX6_removeSlot 77 = .ok (.getfield 27, 3) := by decide +kernel
theorem dX6_removeSlot_80 : decode cX6_removeSlot 80 = .ok (.iconst 1, 1) := by decide +kernel
theorem dX6_removeSlot_81 : decode cX6_removeSlot 81 = .ok (.isub, 1) := by decide +kernel
theorem dX6_removeSlot_82 : decode cX6_removeSlot 82 = .ok (.putfield 27, 3) := by decide +kernel
theorem dX6_removeSlot_85 : decode cX6_removeSlot 85 = .ok (.return_, 1) := by decide +kernel
def b_X6_removeSlot_9 (d : Nat) (G : Nat → zK) (Q : zQ) : zK := o_al 0 <| o_gf 4 4 <| o_il 1 <| o_sub <| o_c 1 <| o_sub <| o_is 2 <| o_al 0 <| o_gf 4 1 <| o_il 1 <| o_c 1 <| o_add <| o_c 18 <| o_mul <| o_al 0 <| o_gf 4 1 <| o_il 1 <| o_c 18 <| o_mul <| o_il 2 <| o_c 18 <| o_mul <| o_acp <| o_al 0 <| o_gf 4 2 <| o_il 1 <| o_c 1 <| o_add <| o_al 0 <| o_gf 4 2 <| o_il 1 <| o_il 2 <| o_acp <| o_al 0 <| o_gf 4 3 <| o_il 1 <| o_c 1 <| o_add <| o_al 0 <| o_gf 4 3 <| o_il 1 <| o_il 2 <| o_acp <| o_al 0 <| o_dup <| o_gf 4 4 <| o_c 1 <| o_sub <| o_pf 4 4 <| t_vret Q
def b_X6_removeSlot_8 (d : Nat) (G : Nat → zK) (Q : zQ) : zK := t_vret Q
def b_X6_removeSlot_0 (d : Nat) (G : Nat → zK) (Q : zQ) : zK := o_al 0 <| o_il 1 <| o_callv (zCt (d - 1) mX6_hasSlot) 4 2 <| t_zeq (b_X6_removeSlot_8 d G Q) (b_X6_removeSlot_9 d G Q)
set_option maxRecDepth 20000 in
theorem k_X6_removeSlot_9 {p : Program} {l : Launch} {e : Env} {s : State} {m : MethodId} {args : Array Value} {below : List Frame} {meth : Method} {c : Code} {E : zE} {d : Nat} {Q : zQ} (hd1 : 1 ≤ d) (B : zB p s m args c E mX6_removeSlot.1.cls mX6_removeSlot.2.1 mX6_removeSlot.2.2.1) (hr : meth.sig.returnType = mX6_removeSlot.2.2.2) (hlk : meth.locks = false) : zLk (zG p l e (zrm d) s m args below meth c E mX6_removeSlot.2.2.1 0 0 (MQ below (zQc E Q) args s 0 0 (zaA E))) 9 (b_X6_removeSlot_9 d (zG p l e (zrm d) s m args below meth c E mX6_removeSlot.2.2.1 0 0 (MQ below (zQc E Q) args s 0 0 (zaA E))) Q) := by
  have hRa : 1 ≤ (zrm d).frames ∧ 8 + (nativeFrameWords "java/lang/System" "arraycopy" 5 + 11) ≤ (zrm d).locals := zhRa hd1
  unfold b_X6_removeSlot_9
  exact lk_aln B dX6_removeSlot_9 rfl (lk_gf (T := TX6) B cl_X6 (by decide) in_X6 zw_89 dX6_removeSlot_10 (lk_iln B dX6_removeSlot_13 rfl (lk_sub B dX6_removeSlot_14 (lk_c B dX6_removeSlot_15 (lk_sub B dX6_removeSlot_16 (lk_isn B dX6_removeSlot_17 rfl (by decide) (lk_aln B dX6_removeSlot_18 rfl (lk_gf (T := TX6) B cl_X6 (by decide) in_X6 zw_86 dX6_removeSlot_19 (lk_iln B dX6_removeSlot_22 rfl (lk_c B dX6_removeSlot_23 (lk_add B dX6_removeSlot_24 (lk_b B dX6_removeSlot_25 rfl (lk_mul B dX6_removeSlot_27 (lk_aln B dX6_removeSlot_28 rfl (lk_gf (T := TX6) B cl_X6 (by decide) in_X6 zw_86 dX6_removeSlot_29 (lk_iln B dX6_removeSlot_32 rfl (lk_b B dX6_removeSlot_33 rfl (lk_mul B dX6_removeSlot_35 (lk_iln B dX6_removeSlot_36 rfl (lk_b B dX6_removeSlot_37 rfl (lk_mul B dX6_removeSlot_39 (lk_acp B hRa (zw4 zw_319 zw_321 zw_320 zw_59) dX6_removeSlot_40 (lk_aln B dX6_removeSlot_43 rfl (lk_gf (T := TX6) B cl_X6 (by decide) in_X6 zw_87 dX6_removeSlot_44 (lk_iln B dX6_removeSlot_47 rfl (lk_c B dX6_removeSlot_48 (lk_add B dX6_removeSlot_49 (lk_aln B dX6_removeSlot_50 rfl (lk_gf (T := TX6) B cl_X6 (by decide) in_X6 zw_87 dX6_removeSlot_51 (lk_iln B dX6_removeSlot_54 rfl (lk_iln B dX6_removeSlot_55 rfl (lk_acp B hRa (zw4 zw_319 zw_321 zw_320 zw_59) dX6_removeSlot_56 (lk_aln B dX6_removeSlot_59 rfl (lk_gf (T := TX6) B cl_X6 (by decide) in_X6 zw_88 dX6_removeSlot_60 (lk_iln B dX6_removeSlot_63 rfl (lk_c B dX6_removeSlot_64 (lk_add B dX6_removeSlot_65 (lk_aln B dX6_removeSlot_66 rfl (lk_gf (T := TX6) B cl_X6 (by decide) in_X6 zw_88 dX6_removeSlot_67 (lk_iln B dX6_removeSlot_70 rfl (lk_iln B dX6_removeSlot_71 rfl (lk_acp B hRa (zw4 zw_319 zw_321 zw_320 zw_59) dX6_removeSlot_72 (lk_aln B dX6_removeSlot_75 rfl (lk_dup B dX6_removeSlot_76 (lk_gf (T := TX6) B cl_X6 (by decide) in_X6 zw_89 dX6_removeSlot_77 (lk_c B dX6_removeSlot_80 (lk_sub B dX6_removeSlot_81 (lk_pf (T := TX6) B cl_X6 (by decide) in_X6 tyX6_ok nmX6 zw_89 rfl (by decide +kernel) dX6_removeSlot_82 (lk_vret B hr hlk dX6_removeSlot_85)))))))))))))))))))))))))))))))))))))))))))))))))
set_option maxRecDepth 20000 in
theorem k_X6_removeSlot_8 {p : Program} {l : Launch} {e : Env} {s : State} {m : MethodId} {args : Array Value} {below : List Frame} {meth : Method} {c : Code} {E : zE} {d : Nat} {Q : zQ} (hd1 : 1 ≤ d) (B : zB p s m args c E mX6_removeSlot.1.cls mX6_removeSlot.2.1 mX6_removeSlot.2.2.1) (hr : meth.sig.returnType = mX6_removeSlot.2.2.2) (hlk : meth.locks = false) : zLk (zG p l e (zrm d) s m args below meth c E mX6_removeSlot.2.2.1 0 0 (MQ below (zQc E Q) args s 0 0 (zaA E))) 8 (b_X6_removeSlot_8 d (zG p l e (zrm d) s m args below meth c E mX6_removeSlot.2.2.1 0 0 (MQ below (zQc E Q) args s 0 0 (zaA E))) Q) := by
  unfold b_X6_removeSlot_8
  exact lk_vret B hr hlk dX6_removeSlot_8
set_option maxRecDepth 20000 in
theorem k_X6_removeSlot_0 {p : Program} {l : Launch} {e : Env} {s : State} {m : MethodId} {args : Array Value} {below : List Frame} {meth : Method} {c : Code} {E : zE} {d : Nat} {Q : zQ} (hd1 : 1 ≤ d) (B : zB p s m args c E mX6_removeSlot.1.cls mX6_removeSlot.2.1 mX6_removeSlot.2.2.1) (hr : meth.sig.returnType = mX6_removeSlot.2.2.2) (hlk : meth.locks = false) : zLk (zG p l e (zrm d) s m args below meth c E mX6_removeSlot.2.2.1 0 0 (MQ below (zQc E Q) args s 0 0 (zaA E))) 0 (b_X6_removeSlot_0 d (zG p l e (zrm d) s m args below meth c E mX6_removeSlot.2.2.1 0 0 (MQ below (zQc E Q) args s 0 0 (zaA E))) Q) := by
  unfold b_X6_removeSlot_0
  exact lk_aln B dX6_removeSlot_0 rfl (lk_iln B dX6_removeSlot_1 rfl (lk_callv (M := mX6_hasSlot) (T := TX6) (N := 5) B (zhR hd1 (by decide)) ⟨Nat.zero_le _, Nat.zero_le _⟩ cl_X6 (zw5 zw_329 zw_326 zw_327 zw_328 zw_51) (by decide +kernel) dX6_removeSlot_2 (lk_zne B dX6_removeSlot_5 (by decide) (k_X6_removeSlot_9 hd1 B hr hlk) (k_X6_removeSlot_8 hd1 B hr hlk))))
def S_X6_removeSlot (d : Nat) (G : Nat → zK) (Q : zQ) : Prop := zLk G 0 (b_X6_removeSlot_0 d G Q)
theorem s_X6_removeSlot_0 {d : Nat} {G : Nat → zK} {Q : zQ} (h : S_X6_removeSlot d G Q) {ls st : List zV} {μ : zM} (k : b_X6_removeSlot_0 d G Q ls st μ) : G 0 ls st μ := h ls st μ k
theorem of_X6_removeSlot {d : Nat} {a0 a1 : zV} {μ : zM} {Q : zQ} (hd1 : 1 ≤ d) (h : ∀ G : Nat → zK, S_X6_removeSlot d G Q → G 0 [a0, a1, .inr none] [] μ) : zCt d mX6_removeSlot [a0, a1] μ Q := zCt.mk (by decide) (Nat.le_of_ble_eq_true rfl) (fun p l e s m args below meth c E B hr hlk => h _ (k_X6_removeSlot_0 hd1 B hr hlk))
theorem dX6_makeEmpty_0 : decode cX6_makeEmpty 0 = .ok (.aload_n 0, 1) := by decide +kernel
theorem dX6_makeEmpty_1 : decode cX6_makeEmpty 1 = .ok (.iconst 0, 1) := by decide +kernel
theorem dX6_makeEmpty_2 : decode cX6_makeEmpty 2 = .ok (.putfield 27, 3) := by decide +kernel
theorem dX6_makeEmpty_5 : decode cX6_makeEmpty 5 = .ok (.return_, 1) := by decide +kernel
def b_X6_makeEmpty_0 (d : Nat) (G : Nat → zK) (Q : zQ) : zK := o_al 0 <| o_c 0 <| o_pf 4 4 <| t_vret Q
set_option maxRecDepth 20000 in
theorem k_X6_makeEmpty_0 {p : Program} {l : Launch} {e : Env} {s : State} {m : MethodId} {args : Array Value} {below : List Frame} {meth : Method} {c : Code} {E : zE} {d : Nat} {Q : zQ} (B : zB p s m args c E mX6_makeEmpty.1.cls mX6_makeEmpty.2.1 mX6_makeEmpty.2.2.1) (hr : meth.sig.returnType = mX6_makeEmpty.2.2.2) (hlk : meth.locks = false) : zLk (zG p l e (zrm d) s m args below meth c E mX6_makeEmpty.2.2.1 0 0 (MQ below (zQc E Q) args s 0 0 (zaA E))) 0 (b_X6_makeEmpty_0 d (zG p l e (zrm d) s m args below meth c E mX6_makeEmpty.2.2.1 0 0 (MQ below (zQc E Q) args s 0 0 (zaA E))) Q) := by
  unfold b_X6_makeEmpty_0
  exact lk_aln B dX6_makeEmpty_0 rfl (lk_c B dX6_makeEmpty_1 (lk_pf (T := TX6) B cl_X6 (by decide) in_X6 tyX6_ok nmX6 zw_89 rfl (by decide +kernel) dX6_makeEmpty_2 (lk_vret B hr hlk dX6_makeEmpty_5)))
def S_X6_makeEmpty (d : Nat) (G : Nat → zK) (Q : zQ) : Prop := zLk G 0 (b_X6_makeEmpty_0 d G Q)
theorem s_X6_makeEmpty_0 {d : Nat} {G : Nat → zK} {Q : zQ} (h : S_X6_makeEmpty d G Q) {ls st : List zV} {μ : zM} (k : b_X6_makeEmpty_0 d G Q ls st μ) : G 0 ls st μ := h ls st μ k
theorem of_X6_makeEmpty {d : Nat} {a0 : zV} {μ : zM} {Q : zQ} (h : ∀ G : Nat → zK, S_X6_makeEmpty d G Q → G 0 [a0] [] μ) : zCt d mX6_makeEmpty [a0] μ Q := zCt.mk (by decide) (Nat.le_of_ble_eq_true rfl) (fun p l e s m args below meth c E B hr hlk => h _ (k_X6_makeEmpty_0 B hr hlk))
