theorem dX3_rows_0 : decode cX3_rows 0 = .ok (.aload_n 0, 1) := by decide +kernel
theorem dX3_rows_1 : decode cX3_rows 1 = .ok (.getfield 16, 3) := by decide +kernel
theorem dX3_rows_4 : decode cX3_rows 4 = .ok (.areturn, 1) := by decide +kernel
def b_X3_rows_0 (d : Nat) (G : Nat → zK) (Q : zQ) : zK := o_al 0 <| o_gf 2 0 <| t_aret Q
set_option maxRecDepth 20000 in
theorem k_X3_rows_0 {p : Program} {l : Launch} {e : Env} {s : State} {m : MethodId} {args : Array Value} {below : List Frame} {meth : Method} {c : Code} {E : zE} {d : Nat} {Q : zQ} (B : zB p s m args c E mX3_rows.1.cls mX3_rows.2.1 mX3_rows.2.2.1) (hr : meth.sig.returnType = mX3_rows.2.2.2) (hlk : meth.locks = false) : zLk (zG p l e (zrm d) s m args below meth c E mX3_rows.2.2.1 0 0 (MQ below (zQc E Q) args s 0 0 (zaA E))) 0 (b_X3_rows_0 d (zG p l e (zrm d) s m args below meth c E mX3_rows.2.2.1 0 0 (MQ below (zQc E Q) args s 0 0 (zaA E))) Q) := by
  unfold b_X3_rows_0
  exact lk_aln B dX3_rows_0 rfl (lk_gf (T := TX3) B cl_X3 (by decide) in_X3 zw_199 dX3_rows_1 (lk_aret B hr hlk dX3_rows_4))
def S_X3_rows (d : Nat) (G : Nat → zK) (Q : zQ) : Prop := zLk G 0 (b_X3_rows_0 d G Q)
theorem s_X3_rows_0 {d : Nat} {G : Nat → zK} {Q : zQ} (h : S_X3_rows d G Q) {ls st : List zV} {μ : zM} (k : b_X3_rows_0 d G Q ls st μ) : G 0 ls st μ := h ls st μ k
theorem of_X3_rows {d : Nat} {a0 : zV} {μ : zM} {Q : zQ} (h : ∀ G : Nat → zK, S_X3_rows d G Q → G 0 [a0] [] μ) : zCt d mX3_rows [a0] μ Q := zCt.mk (by decide) (Nat.le_of_ble_eq_true rfl) (fun p l e s m args below meth c E B hr hlk => h _ (k_X3_rows_0 B hr hlk))
theorem dX3_count_0 : decode cX3_count 0 = .ok (.aload_n 0, 1) := by decide +kernel
theorem dX3_count_1 : decode cX3_count 1 = .ok (.getfield 16, 3) := by decide +kernel
theorem dX3_count_4 : decode cX3_count 4 = .ok (.invokevirtual 30, 3) := by decide +kernel
theorem dX3_count_7 : decode cX3_count 7 = .ok (.ireturn, 1) := by decide +kernel
def b_X3_count_0 (d : Nat) (G : Nat → zK) (Q : zQ) : zK := o_al 0 <| o_gf 2 0 <| o_callv (zCt (d - 1) mX6_count) 4 1 <| t_iret Q
set_option maxRecDepth 20000 in
theorem k_X3_count_0 {p : Program} {l : Launch} {e : Env} {s : State} {m : MethodId} {args : Array Value} {below : List Frame} {meth : Method} {c : Code} {E : zE} {d : Nat} {Q : zQ} (hd1 : 1 ≤ d) (B : zB p s m args c E mX3_count.1.cls mX3_count.2.1 mX3_count.2.2.1) (hr : meth.sig.returnType = mX3_count.2.2.2) (hlk : meth.locks = false) : zLk (zG p l e (zrm d) s m args below meth c E mX3_count.2.2.1 0 0 (MQ below (zQc E Q) args s 0 0 (zaA E))) 0 (b_X3_count_0 d (zG p l e (zrm d) s m args below meth c E mX3_count.2.2.1 0 0 (MQ below (zQc E Q) args s 0 0 (zaA E))) Q) := by
  unfold b_X3_count_0
  exact lk_aln B dX3_count_0 rfl (lk_gf (T := TX3) B cl_X3 (by decide) in_X3 zw_199 dX3_count_1 (lk_callv (M := mX6_count) (T := TX6) (N := 5) B (zhR hd1 (by decide)) ⟨Nat.zero_le _, Nat.zero_le _⟩ cl_X6 (zw5 zw_398 zw_670 zw_396 zw_397 zw_51) (by decide +kernel) dX3_count_4 (lk_iret B hr hlk dX3_count_7)))
def S_X3_count (d : Nat) (G : Nat → zK) (Q : zQ) : Prop := zLk G 0 (b_X3_count_0 d G Q)
theorem s_X3_count_0 {d : Nat} {G : Nat → zK} {Q : zQ} (h : S_X3_count d G Q) {ls st : List zV} {μ : zM} (k : b_X3_count_0 d G Q ls st μ) : G 0 ls st μ := h ls st μ k
theorem of_X3_count {d : Nat} {a0 : zV} {μ : zM} {Q : zQ} (hd1 : 1 ≤ d) (h : ∀ G : Nat → zK, S_X3_count d G Q → G 0 [a0] [] μ) : zCt d mX3_count [a0] μ Q := zCt.mk (by decide) (Nat.le_of_ble_eq_true rfl) (fun p l e s m args below meth c E B hr hlk => h _ (k_X3_count_0 hd1 B hr hlk))
theorem dX3_has_0 : decode cX3_has 0 = .ok (.aload_n 0, 1) := by decide +kernel
theorem dX3_has_1 : decode cX3_has 1 = .ok (.getfield 16, 3) := by decide +kernel
theorem dX3_has_4 : decode cX3_has 4 = .ok (.iload_n 1, 1) := by decide +kernel
theorem dX3_has_5 : decode cX3_has 5 = .ok (.invokevirtual 34, 3) := by decide +kernel
theorem dX3_has_8 : decode cX3_has 8 = .ok (.ireturn, 1) := by decide +kernel
def b_X3_has_0 (d : Nat) (G : Nat → zK) (Q : zQ) : zK := o_al 0 <| o_gf 2 0 <| o_il 1 <| o_callv (zCt (d - 1) mX6_hasSlot) 4 2 <| t_zret Q
set_option maxRecDepth 20000 in
theorem k_X3_has_0 {p : Program} {l : Launch} {e : Env} {s : State} {m : MethodId} {args : Array Value} {below : List Frame} {meth : Method} {c : Code} {E : zE} {d : Nat} {Q : zQ} (hd1 : 1 ≤ d) (B : zB p s m args c E mX3_has.1.cls mX3_has.2.1 mX3_has.2.2.1) (hr : meth.sig.returnType = mX3_has.2.2.2) (hlk : meth.locks = false) : zLk (zG p l e (zrm d) s m args below meth c E mX3_has.2.2.1 0 0 (MQ below (zQc E Q) args s 0 0 (zaA E))) 0 (b_X3_has_0 d (zG p l e (zrm d) s m args below meth c E mX3_has.2.2.1 0 0 (MQ below (zQc E Q) args s 0 0 (zaA E))) Q) := by
  unfold b_X3_has_0
  exact lk_aln B dX3_has_0 rfl (lk_gf (T := TX3) B cl_X3 (by decide) in_X3 zw_199 dX3_has_1 (lk_iln B dX3_has_4 rfl (lk_callv (M := mX6_hasSlot) (T := TX6) (N := 5) B (zhR hd1 (by decide)) ⟨Nat.zero_le _, Nat.zero_le _⟩ cl_X6 (zw5 zw_329 zw_687 zw_327 zw_328 zw_51) (by decide +kernel) dX3_has_5 (lk_zret B hr hlk dX3_has_8))))
def S_X3_has (d : Nat) (G : Nat → zK) (Q : zQ) : Prop := zLk G 0 (b_X3_has_0 d G Q)
theorem s_X3_has_0 {d : Nat} {G : Nat → zK} {Q : zQ} (h : S_X3_has d G Q) {ls st : List zV} {μ : zM} (k : b_X3_has_0 d G Q ls st μ) : G 0 ls st μ := h ls st μ k
theorem of_X3_has {d : Nat} {a0 a1 : zV} {μ : zM} {Q : zQ} (hd1 : 1 ≤ d) (h : ∀ G : Nat → zK, S_X3_has d G Q → G 0 [a0, a1] [] μ) : zCt d mX3_has [a0, a1] μ Q := zCt.mk (by decide) (Nat.le_of_ble_eq_true rfl) (fun p l e s m args below meth c E B hr hlk => h _ (k_X3_has_0 hd1 B hr hlk))
theorem dX3_kindAt_0 : decode cX3_kindAt 0 = .ok (.aload_n 0, 1) := by decide +kernel
theorem dX3_kindAt_1 : decode cX3_kindAt 1 = .ok (.iload_n 1, 1) := by decide +kernel
theorem dX3_kindAt_2 : decode cX3_kindAt 2 = .ok (.invokevirtual 38, 3) := by decide +kernel
theorem dX3_kindAt_5 : decode cX3_kindAt 5 = .ok (.ifCond .eq 12, 3) := by decide +kernel
theorem dX3_kindAt_8 : decode cX3_kindAt 8 = .ok (.aload_n 0, 1) := by decide +kernel
theorem dX3_kindAt_9 : decode cX3_kindAt 9 = .ok (.getfield 20, 3) := by decide +kernel
theorem dX3_kindAt_12 : decode cX3_kindAt 12 = .ok (.iload_n 1, 1) := by decide +kernel
theorem dX3_kindAt_13 : decode cX3_kindAt 13 = .ok (.iaload, 1) := by decide +kernel
theorem dX3_kindAt_14 : decode cX3_kindAt 14 = .ok (.goto 4, 3) := by decide +kernel
theorem dX3_kindAt_17 : decode cX3_kindAt 17 = .ok (.iconst (-1), 1) := by decide +kernel
theorem dX3_kindAt_18 : decode cX3_kindAt 18 = .ok (.ireturn, 1) := by decide +kernel
def b_X3_kindAt_18 (d : Nat) (G : Nat → zK) (Q : zQ) : zK := t_iret Q
def b_X3_kindAt_17 (d : Nat) (G : Nat → zK) (Q : zQ) : zK := o_c (-1) <| b_X3_kindAt_18 d G Q
def b_X3_kindAt_8 (d : Nat) (G : Nat → zK) (Q : zQ) : zK := o_al 0 <| o_gf 2 1 <| o_il 1 <| o_iald <| b_X3_kindAt_18 d G Q
def b_X3_kindAt_0 (d : Nat) (G : Nat → zK) (Q : zQ) : zK := o_al 0 <| o_il 1 <| o_callv (zCt (d - 1) mX3_has) 2 2 <| t_zeq (b_X3_kindAt_17 d G Q) (b_X3_kindAt_8 d G Q)
set_option maxRecDepth 20000 in
theorem k_X3_kindAt_18 {p : Program} {l : Launch} {e : Env} {s : State} {m : MethodId} {args : Array Value} {below : List Frame} {meth : Method} {c : Code} {E : zE} {d : Nat} {Q : zQ} (hd1 : 1 ≤ d) (B : zB p s m args c E mX3_kindAt.1.cls mX3_kindAt.2.1 mX3_kindAt.2.2.1) (hr : meth.sig.returnType = mX3_kindAt.2.2.2) (hlk : meth.locks = false) : zLk (zG p l e (zrm d) s m args below meth c E mX3_kindAt.2.2.1 0 0 (MQ below (zQc E Q) args s 0 0 (zaA E))) 18 (b_X3_kindAt_18 d (zG p l e (zrm d) s m args below meth c E mX3_kindAt.2.2.1 0 0 (MQ below (zQc E Q) args s 0 0 (zaA E))) Q) := by
  unfold b_X3_kindAt_18
  exact lk_iret B hr hlk dX3_kindAt_18
set_option maxRecDepth 20000 in
theorem k_X3_kindAt_17 {p : Program} {l : Launch} {e : Env} {s : State} {m : MethodId} {args : Array Value} {below : List Frame} {meth : Method} {c : Code} {E : zE} {d : Nat} {Q : zQ} (hd1 : 1 ≤ d) (B : zB p s m args c E mX3_kindAt.1.cls mX3_kindAt.2.1 mX3_kindAt.2.2.1) (hr : meth.sig.returnType = mX3_kindAt.2.2.2) (hlk : meth.locks = false) : zLk (zG p l e (zrm d) s m args below meth c E mX3_kindAt.2.2.1 0 0 (MQ below (zQc E Q) args s 0 0 (zaA E))) 17 (b_X3_kindAt_17 d (zG p l e (zrm d) s m args below meth c E mX3_kindAt.2.2.1 0 0 (MQ below (zQc E Q) args s 0 0 (zaA E))) Q) := by
  unfold b_X3_kindAt_17
  exact lk_c B dX3_kindAt_17 (k_X3_kindAt_18 hd1 B hr hlk)
set_option maxRecDepth 20000 in
theorem k_X3_kindAt_8 {p : Program} {l : Launch} {e : Env} {s : State} {m : MethodId} {args : Array Value} {below : List Frame} {meth : Method} {c : Code} {E : zE} {d : Nat} {Q : zQ} (hd1 : 1 ≤ d) (B : zB p s m args c E mX3_kindAt.1.cls mX3_kindAt.2.1 mX3_kindAt.2.2.1) (hr : meth.sig.returnType = mX3_kindAt.2.2.2) (hlk : meth.locks = false) : zLk (zG p l e (zrm d) s m args below meth c E mX3_kindAt.2.2.1 0 0 (MQ below (zQc E Q) args s 0 0 (zaA E))) 8 (b_X3_kindAt_8 d (zG p l e (zrm d) s m args below meth c E mX3_kindAt.2.2.1 0 0 (MQ below (zQc E Q) args s 0 0 (zaA E))) Q) := by
  unfold b_X3_kindAt_8
  exact lk_aln B dX3_kindAt_8 rfl (lk_gf (T := TX3) B cl_X3 (by decide) in_X3 zw_200 dX3_kindAt_9 (lk_iln B dX3_kindAt_12 rfl (lk_iald B dX3_kindAt_13 (lk_goto B dX3_kindAt_14 (by decide) (k_X3_kindAt_18 hd1 B hr hlk)))))
set_option maxRecDepth 20000 in
theorem k_X3_kindAt_0 {p : Program} {l : Launch} {e : Env} {s : State} {m : MethodId} {args : Array Value} {below : List Frame} {meth : Method} {c : Code} {E : zE} {d : Nat} {Q : zQ} (hd1 : 1 ≤ d) (B : zB p s m args c E mX3_kindAt.1.cls mX3_kindAt.2.1 mX3_kindAt.2.2.1) (hr : meth.sig.returnType = mX3_kindAt.2.2.2) (hlk : meth.locks = false) : zLk (zG p l e (zrm d) s m args below meth c E mX3_kindAt.2.2.1 0 0 (MQ below (zQc E Q) args s 0 0 (zaA E))) 0 (b_X3_kindAt_0 d (zG p l e (zrm d) s m args below meth c E mX3_kindAt.2.2.1 0 0 (MQ below (zQc E Q) args s 0 0 (zaA E))) Q) := by
  unfold b_X3_kindAt_0
  exact lk_aln B dX3_kindAt_0 rfl (lk_iln B dX3_kindAt_1 rfl (lk_callv (M := mX3_has) (T := TX3) (N := 4) B (zhR hd1 (by decide)) ⟨Nat.zero_le _, Nat.zero_le _⟩ cl_X3 (zw5 zw_686 zw_692 zw_684 zw_685 zw_56) (by decide +kernel) dX3_kindAt_2 (lk_zeq B dX3_kindAt_5 (by decide) (k_X3_kindAt_17 hd1 B hr hlk) (k_X3_kindAt_8 hd1 B hr hlk))))
def S_X3_kindAt (d : Nat) (G : Nat → zK) (Q : zQ) : Prop := zLk G 0 (b_X3_kindAt_0 d G Q)
theorem s_X3_kindAt_0 {d : Nat} {G : Nat → zK} {Q : zQ} (h : S_X3_kindAt d G Q) {ls st : List zV} {μ : zM} (k : b_X3_kindAt_0 d G Q ls st μ) : G 0 ls st μ := h ls st μ k
theorem of_X3_kindAt {d : Nat} {a0 a1 : zV} {μ : zM} {Q : zQ} (hd1 : 1 ≤ d) (h : ∀ G : Nat → zK, S_X3_kindAt d G Q → G 0 [a0, a1] [] μ) : zCt d mX3_kindAt [a0, a1] μ Q := zCt.mk (by decide) (Nat.le_of_ble_eq_true rfl) (fun p l e s m args below meth c E B hr hlk => h _ (k_X3_kindAt_0 hd1 B hr hlk))
theorem dX3_senderAt_0 : decode cX3_senderAt 0 = .ok (.aload_n 0, 1) := by decide +kernel
theorem dX3_senderAt_1 : decode cX3_senderAt 1 = .ok (.iload_n 1, 1) := by decide +kernel
theorem dX3_senderAt_2 : decode cX3_senderAt 2 = .ok (.invokevirtual 38, 3) := by decide +kernel
theorem dX3_senderAt_5 : decode cX3_senderAt 5 = .ok (.ifCond .eq 12, 3) := by decide +kernel
theorem dX3_senderAt_8 : decode cX3_senderAt 8 = .ok (.aload_n 0, 1) := by decide +kernel
theorem dX3_senderAt_9 : decode cX3_senderAt 9 = .ok (.getfield 24, 3) := by decide +kernel
theorem dX3_senderAt_12 : decode cX3_senderAt 12 = .ok (.iload_n 1, 1) := by decide +kernel
theorem dX3_senderAt_13 : decode cX3_senderAt 13 = .ok (.iaload, 1) := by decide +kernel
theorem dX3_senderAt_14 : decode cX3_senderAt 14 = .ok (.goto 4, 3) := by decide +kernel
theorem dX3_senderAt_17 : decode cX3_senderAt 17 = .ok (.iconst (-1), 1) := by decide +kernel
theorem dX3_senderAt_18 : decode cX3_senderAt 18 = .ok (.ireturn, 1) := by decide +kernel
def b_X3_senderAt_18 (d : Nat) (G : Nat → zK) (Q : zQ) : zK := t_iret Q
def b_X3_senderAt_17 (d : Nat) (G : Nat → zK) (Q : zQ) : zK := o_c (-1) <| b_X3_senderAt_18 d G Q
def b_X3_senderAt_8 (d : Nat) (G : Nat → zK) (Q : zQ) : zK := o_al 0 <| o_gf 2 2 <| o_il 1 <| o_iald <| b_X3_senderAt_18 d G Q
def b_X3_senderAt_0 (d : Nat) (G : Nat → zK) (Q : zQ) : zK := o_al 0 <| o_il 1 <| o_callv (zCt (d - 1) mX3_has) 2 2 <| t_zeq (b_X3_senderAt_17 d G Q) (b_X3_senderAt_8 d G Q)
set_option maxRecDepth 20000 in
theorem k_X3_senderAt_18 {p : Program} {l : Launch} {e : Env} {s : State} {m : MethodId} {args : Array Value} {below : List Frame} {meth : Method} {c : Code} {E : zE} {d : Nat} {Q : zQ} (hd1 : 1 ≤ d) (B : zB p s m args c E mX3_senderAt.1.cls mX3_senderAt.2.1 mX3_senderAt.2.2.1) (hr : meth.sig.returnType = mX3_senderAt.2.2.2) (hlk : meth.locks = false) : zLk (zG p l e (zrm d) s m args below meth c E mX3_senderAt.2.2.1 0 0 (MQ below (zQc E Q) args s 0 0 (zaA E))) 18 (b_X3_senderAt_18 d (zG p l e (zrm d) s m args below meth c E mX3_senderAt.2.2.1 0 0 (MQ below (zQc E Q) args s 0 0 (zaA E))) Q) := by
  unfold b_X3_senderAt_18
  exact lk_iret B hr hlk dX3_senderAt_18
set_option maxRecDepth 20000 in
theorem k_X3_senderAt_17 {p : Program} {l : Launch} {e : Env} {s : State} {m : MethodId} {args : Array Value} {below : List Frame} {meth : Method} {c : Code} {E : zE} {d : Nat} {Q : zQ} (hd1 : 1 ≤ d) (B : zB p s m args c E mX3_senderAt.1.cls mX3_senderAt.2.1 mX3_senderAt.2.2.1) (hr : meth.sig.returnType = mX3_senderAt.2.2.2) (hlk : meth.locks = false) : zLk (zG p l e (zrm d) s m args below meth c E mX3_senderAt.2.2.1 0 0 (MQ below (zQc E Q) args s 0 0 (zaA E))) 17 (b_X3_senderAt_17 d (zG p l e (zrm d) s m args below meth c E mX3_senderAt.2.2.1 0 0 (MQ below (zQc E Q) args s 0 0 (zaA E))) Q) := by
  unfold b_X3_senderAt_17
  exact lk_c B dX3_senderAt_17 (k_X3_senderAt_18 hd1 B hr hlk)
set_option maxRecDepth 20000 in
theorem k_X3_senderAt_8 {p : Program} {l : Launch} {e : Env} {s : State} {m : MethodId} {args : Array Value} {below : List Frame} {meth : Method} {c : Code} {E : zE} {d : Nat} {Q : zQ} (hd1 : 1 ≤ d) (B : zB p s m args c E mX3_senderAt.1.cls mX3_senderAt.2.1 mX3_senderAt.2.2.1) (hr : meth.sig.returnType = mX3_senderAt.2.2.2) (hlk : meth.locks = false) : zLk (zG p l e (zrm d) s m args below meth c E mX3_senderAt.2.2.1 0 0 (MQ below (zQc E Q) args s 0 0 (zaA E))) 8 (b_X3_senderAt_8 d (zG p l e (zrm d) s m args below meth c E mX3_senderAt.2.2.1 0 0 (MQ below (zQc E Q) args s 0 0 (zaA E))) Q) := by
  unfold b_X3_senderAt_8
  exact lk_aln B dX3_senderAt_8 rfl (lk_gf (T := TX3) B cl_X3 (by decide) in_X3 zw_201 dX3_senderAt_9 (lk_iln B dX3_senderAt_12 rfl (lk_iald B dX3_senderAt_13 (lk_goto B dX3_senderAt_14 (by decide) (k_X3_senderAt_18 hd1 B hr hlk)))))
set_option maxRecDepth 20000 in
theorem k_X3_senderAt_0 {p : Program} {l : Launch} {e : Env} {s : State} {m : MethodId} {args : Array Value} {below : List Frame} {meth : Method} {c : Code} {E : zE} {d : Nat} {Q : zQ} (hd1 : 1 ≤ d) (B : zB p s m args c E mX3_senderAt.1.cls mX3_senderAt.2.1 mX3_senderAt.2.2.1) (hr : meth.sig.returnType = mX3_senderAt.2.2.2) (hlk : meth.locks = false) : zLk (zG p l e (zrm d) s m args below meth c E mX3_senderAt.2.2.1 0 0 (MQ below (zQc E Q) args s 0 0 (zaA E))) 0 (b_X3_senderAt_0 d (zG p l e (zrm d) s m args below meth c E mX3_senderAt.2.2.1 0 0 (MQ below (zQc E Q) args s 0 0 (zaA E))) Q) := by
  unfold b_X3_senderAt_0
  exact lk_aln B dX3_senderAt_0 rfl (lk_iln B dX3_senderAt_1 rfl (lk_callv (M := mX3_has) (T := TX3) (N := 4) B (zhR hd1 (by decide)) ⟨Nat.zero_le _, Nat.zero_le _⟩ cl_X3 (zw5 zw_686 zw_692 zw_684 zw_685 zw_56) (by decide +kernel) dX3_senderAt_2 (lk_zeq B dX3_senderAt_5 (by decide) (k_X3_senderAt_17 hd1 B hr hlk) (k_X3_senderAt_8 hd1 B hr hlk))))
def S_X3_senderAt (d : Nat) (G : Nat → zK) (Q : zQ) : Prop := zLk G 0 (b_X3_senderAt_0 d G Q)
theorem s_X3_senderAt_0 {d : Nat} {G : Nat → zK} {Q : zQ} (h : S_X3_senderAt d G Q) {ls st : List zV} {μ : zM} (k : b_X3_senderAt_0 d G Q ls st μ) : G 0 ls st μ := h ls st μ k
theorem of_X3_senderAt {d : Nat} {a0 a1 : zV} {μ : zM} {Q : zQ} (hd1 : 1 ≤ d) (h : ∀ G : Nat → zK, S_X3_senderAt d G Q → G 0 [a0, a1] [] μ) : zCt d mX3_senderAt [a0, a1] μ Q := zCt.mk (by decide) (Nat.le_of_ble_eq_true rfl) (fun p l e s m args below meth c E B hr hlk => h _ (k_X3_senderAt_0 hd1 B hr hlk))
theorem dX3_receiverAt_0 : decode cX3_receiverAt 0 = .ok (.aload_n 0, 1) := by decide +kernel
theorem dX3_receiverAt_1 : decode cX3_receiverAt 1 = .ok (.iload_n 1, 1) := by decide +kernel
theorem dX3_receiverAt_2 : decode cX3_receiverAt 2 = .ok (.invokevirtual 38, 3) := by decide +kernel
theorem dX3_receiverAt_5 : decode cX3_receiverAt 5 = .ok (.ifCond .eq 12, 3) := by decide +kernel
theorem dX3_receiverAt_8 : decode cX3_receiverAt 8 = .ok (.aload_n 0, 1) := by decide +kernel
theorem dX3_receiverAt_9 : decode cX3_receiverAt 9 = .ok (.getfield 27, 3) := by decide +kernel
theorem dX3_receiverAt_12 : decode cX3_receiverAt 12 = .ok (.iload_n 1, 1) := by decide +kernel
theorem dX3_receiverAt_13 : decode cX3_receiverAt 13 = .ok (.iaload, 1) := by decide +kernel
theorem dX3_receiverAt_14 : decode cX3_receiverAt 14 = .ok (.goto 4, 3) := by decide +kernel
theorem dX3_receiverAt_17 : decode cX3_receiverAt 17 = .ok (.iconst (-1), 1) := by decide +kernel
theorem dX3_receiverAt_18 : decode cX3_receiverAt 18 = .ok (.ireturn, 1) := by decide +kernel
def b_X3_receiverAt_18 (d : Nat) (G : Nat → zK) (Q : zQ) : zK := t_iret Q
def b_X3_receiverAt_17 (d : Nat) (G : Nat → zK) (Q : zQ) : zK := o_c (-1) <| b_X3_receiverAt_18 d G Q
def b_X3_receiverAt_8 (d : Nat) (G : Nat → zK) (Q : zQ) : zK := o_al 0 <| o_gf 2 3 <| o_il 1 <| o_iald <| b_X3_receiverAt_18 d G Q
def b_X3_receiverAt_0 (d : Nat) (G : Nat → zK) (Q : zQ) : zK := o_al 0 <| o_il 1 <| o_callv (zCt (d - 1) mX3_has) 2 2 <| t_zeq (b_X3_receiverAt_17 d G Q) (b_X3_receiverAt_8 d G Q)
set_option maxRecDepth 20000 in
theorem k_X3_receiverAt_18 {p : Program} {l : Launch} {e : Env} {s : State} {m : MethodId} {args : Array Value} {below : List Frame} {meth : Method} {c : Code} {E : zE} {d : Nat} {Q : zQ} (hd1 : 1 ≤ d) (B : zB p s m args c E mX3_receiverAt.1.cls mX3_receiverAt.2.1 mX3_receiverAt.2.2.1) (hr : meth.sig.returnType = mX3_receiverAt.2.2.2) (hlk : meth.locks = false) : zLk (zG p l e (zrm d) s m args below meth c E mX3_receiverAt.2.2.1 0 0 (MQ below (zQc E Q) args s 0 0 (zaA E))) 18 (b_X3_receiverAt_18 d (zG p l e (zrm d) s m args below meth c E mX3_receiverAt.2.2.1 0 0 (MQ below (zQc E Q) args s 0 0 (zaA E))) Q) := by
  unfold b_X3_receiverAt_18
  exact lk_iret B hr hlk dX3_receiverAt_18
set_option maxRecDepth 20000 in
theorem k_X3_receiverAt_17 {p : Program} {l : Launch} {e : Env} {s : State} {m : MethodId} {args : Array Value} {below : List Frame} {meth : Method} {c : Code} {E : zE} {d : Nat} {Q : zQ} (hd1 : 1 ≤ d) (B : zB p s m args c E mX3_receiverAt.1.cls mX3_receiverAt.2.1 mX3_receiverAt.2.2.1) (hr : meth.sig.returnType = mX3_receiverAt.2.2.2) (hlk : meth.locks = false) : zLk (zG p l e (zrm d) s m args below meth c E mX3_receiverAt.2.2.1 0 0 (MQ below (zQc E Q) args s 0 0 (zaA E))) 17 (b_X3_receiverAt_17 d (zG p l e (zrm d) s m args below meth c E mX3_receiverAt.2.2.1 0 0 (MQ below (zQc E Q) args s 0 0 (zaA E))) Q) := by
  unfold b_X3_receiverAt_17
  exact lk_c B dX3_receiverAt_17 (k_X3_receiverAt_18 hd1 B hr hlk)
set_option maxRecDepth 20000 in
theorem k_X3_receiverAt_8 {p : Program} {l : Launch} {e : Env} {s : State} {m : MethodId} {args : Array Value} {below : List Frame} {meth : Method} {c : Code} {E : zE} {d : Nat} {Q : zQ} (hd1 : 1 ≤ d) (B : zB p s m args c E mX3_receiverAt.1.cls mX3_receiverAt.2.1 mX3_receiverAt.2.2.1) (hr : meth.sig.returnType = mX3_receiverAt.2.2.2) (hlk : meth.locks = false) : zLk (zG p l e (zrm d) s m args below meth c E mX3_receiverAt.2.2.1 0 0 (MQ below (zQc E Q) args s 0 0 (zaA E))) 8 (b_X3_receiverAt_8 d (zG p l e (zrm d) s m args below meth c E mX3_receiverAt.2.2.1 0 0 (MQ below (zQc E Q) args s 0 0 (zaA E))) Q) := by
  unfold b_X3_receiverAt_8
  exact lk_aln B dX3_receiverAt_8 rfl (lk_gf (T := TX3) B cl_X3 (by decide) in_X3 zw_202 dX3_receiverAt_9 (lk_iln B dX3_receiverAt_12 rfl (lk_iald B dX3_receiverAt_13 (lk_goto B dX3_receiverAt_14 (by decide) (k_X3_receiverAt_18 hd1 B hr hlk)))))
set_option maxRecDepth 20000 in
theorem k_X3_receiverAt_0 {p : Program} {l : Launch} {e : Env} {s : State} {m : MethodId} {args : Array Value} {below : List Frame} {meth : Method} {c : Code} {E : zE} {d : Nat} {Q : zQ} (hd1 : 1 ≤ d) (B : zB p s m args c E mX3_receiverAt.1.cls mX3_receiverAt.2.1 mX3_receiverAt.2.2.1) (hr : meth.sig.returnType = mX3_receiverAt.2.2.2) (hlk : meth.locks = false) : zLk (zG p l e (zrm d) s m args below meth c E mX3_receiverAt.2.2.1 0 0 (MQ below (zQc E Q) args s 0 0 (zaA E))) 0 (b_X3_receiverAt_0 d (zG p l e (zrm d) s m args below meth c E mX3_receiverAt.2.2.1 0 0 (MQ below (zQc E Q) args s 0 0 (zaA E))) Q) := by
  unfold b_X3_receiverAt_0
  exact lk_aln B dX3_receiverAt_0 rfl (lk_iln B dX3_receiverAt_1 rfl (lk_callv (M := mX3_has) (T := TX3) (N := 4) B (zhR hd1 (by decide)) ⟨Nat.zero_le _, Nat.zero_le _⟩ cl_X3 (zw5 zw_686 zw_692 zw_684 zw_685 zw_56) (by decide +kernel) dX3_receiverAt_2 (lk_zeq B dX3_receiverAt_5 (by decide) (k_X3_receiverAt_17 hd1 B hr hlk) (k_X3_receiverAt_8 hd1 B hr hlk))))
def S_X3_receiverAt (d : Nat) (G : Nat → zK) (Q : zQ) : Prop := zLk G 0 (b_X3_receiverAt_0 d G Q)
theorem s_X3_receiverAt_0 {d : Nat} {G : Nat → zK} {Q : zQ} (h : S_X3_receiverAt d G Q) {ls st : List zV} {μ : zM} (k : b_X3_receiverAt_0 d G Q ls st μ) : G 0 ls st μ := h ls st μ k
theorem of_X3_receiverAt {d : Nat} {a0 a1 : zV} {μ : zM} {Q : zQ} (hd1 : 1 ≤ d) (h : ∀ G : Nat → zK, S_X3_receiverAt d G Q → G 0 [a0, a1] [] μ) : zCt d mX3_receiverAt [a0, a1] μ Q := zCt.mk (by decide) (Nat.le_of_ble_eq_true rfl) (fun p l e s m args below meth c E B hr hlk => h _ (k_X3_receiverAt_0 hd1 B hr hlk))
theorem dX3_nameAt_0 : decode cX3_nameAt 0 = .ok (.aload_n 0, 1) := by decide +kernel
theorem dX3_nameAt_1 : decode cX3_nameAt 1 = .ok (.getfield 16, 3) := by decide +kernel
theorem dX3_nameAt_4 : decode cX3_nameAt 4 = .ok (.iload_n 1, 1) := by decide +kernel
theorem dX3_nameAt_5 : decode cX3_nameAt 5 = .ok (.invokevirtual 41, 3) := by decide +kernel
theorem dX3_nameAt_8 : decode cX3_nameAt 8 = .ok (.ireturn, 1) := by decide +kernel
def b_X3_nameAt_0 (d : Nat) (G : Nat → zK) (Q : zQ) : zK := o_al 0 <| o_gf 2 0 <| o_il 1 <| o_callv (zCt (d - 1) mX6_nameAt) 4 2 <| t_iret Q
set_option maxRecDepth 20000 in
theorem k_X3_nameAt_0 {p : Program} {l : Launch} {e : Env} {s : State} {m : MethodId} {args : Array Value} {below : List Frame} {meth : Method} {c : Code} {E : zE} {d : Nat} {Q : zQ} (hd1 : 1 ≤ d) (B : zB p s m args c E mX3_nameAt.1.cls mX3_nameAt.2.1 mX3_nameAt.2.2.1) (hr : meth.sig.returnType = mX3_nameAt.2.2.2) (hlk : meth.locks = false) : zLk (zG p l e (zrm d) s m args below meth c E mX3_nameAt.2.2.1 0 0 (MQ below (zQc E Q) args s 0 0 (zaA E))) 0 (b_X3_nameAt_0 d (zG p l e (zrm d) s m args below meth c E mX3_nameAt.2.2.1 0 0 (MQ below (zQc E Q) args s 0 0 (zaA E))) Q) := by
  unfold b_X3_nameAt_0
  exact lk_aln B dX3_nameAt_0 rfl (lk_gf (T := TX3) B cl_X3 (by decide) in_X3 zw_199 dX3_nameAt_1 (lk_iln B dX3_nameAt_4 rfl (lk_callv (M := mX6_nameAt) (T := TX6) (N := 5) B (zhR hd1 (by decide)) ⟨Nat.zero_le _, Nat.zero_le _⟩ cl_X6 (zw5 zw_402 zw_705 zw_400 zw_401 zw_51) (by decide +kernel) dX3_nameAt_5 (lk_iret B hr hlk dX3_nameAt_8))))
def S_X3_nameAt (d : Nat) (G : Nat → zK) (Q : zQ) : Prop := zLk G 0 (b_X3_nameAt_0 d G Q)
theorem s_X3_nameAt_0 {d : Nat} {G : Nat → zK} {Q : zQ} (h : S_X3_nameAt d G Q) {ls st : List zV} {μ : zM} (k : b_X3_nameAt_0 d G Q ls st μ) : G 0 ls st μ := h ls st μ k
theorem of_X3_nameAt {d : Nat} {a0 a1 : zV} {μ : zM} {Q : zQ} (hd1 : 1 ≤ d) (h : ∀ G : Nat → zK, S_X3_nameAt d G Q → G 0 [a0, a1] [] μ) : zCt d mX3_nameAt [a0, a1] μ Q := zCt.mk (by decide) (Nat.le_of_ble_eq_true rfl) (fun p l e s m args below meth c E B hr hlk => h _ (k_X3_nameAt_0 hd1 B hr hlk))
theorem dX3_sendName_0 : decode cX3_sendName 0 = .ok (.aload_n 0, 1) := by decide +kernel
theorem dX3_sendName_1 : decode cX3_sendName 1 = .ok (.getfield 16, 3) := by decide +kernel
theorem dX3_sendName_4 : decode cX3_sendName 4 = .ok (.invokevirtual 45, 3) := by decide +kernel
theorem dX3_sendName_7 : decode cX3_sendName 7 = .ok (.ifCond .ne 19, 3) := by decide +kernel
theorem dX3_sendName_10 : decode cX3_sendName 10 = .ok (.aload_n 0, 1) := by decide +kernel
theorem dX3_sendName_11 : decode cX3_sendName 11 = .ok (.iload_n 1, 1) := by decide +kernel
theorem dX3_sendName_12 : decode cX3_sendName 12 = .ok (.iload_n 2, 1) := by decide +kernel
theorem dX3_sendName_13 : decode cX3_sendName 13 = .ok (.iload_n 3, 1) := by decide +kernel
theorem dX3_sendName_14 : decode cX3_sendName 14 = .ok (.invokevirtual 49, 3) := by decide +kernel
theorem dX3_sendName_17 : decode cX3_sendName 17 = .ok (.aload_n 0, 1) := by decide +kernel
theorem dX3_sendName_18 : decode cX3_sendName 18 = .ok (.getfield 16, 3) := by decide +kernel
theorem dX3_sendName_21 : decode cX3_sendName 21 = .ok (.iload 4, 2) := by decide +kernel
theorem dX3_sendName_23 : decode cX3_sendName 23 = .ok (.invokevirtual 53, 3) := by decide +kernel
theorem dX3_sendName_26 : decode cX3_sendName 26 = .ok (.return_, 1) := by decide +kernel
def b_X3_sendName_26 (d : Nat) (G : Nat → zK) (Q : zQ) : zK := t_vret Q
def b_X3_sendName_10 (d : Nat) (G : Nat → zK) (Q : zQ) : zK := o_al 0 <| o_il 1 <| o_il 2 <| o_il 3 <| o_callv (zCt (d - 1) mX3_writeHead) 2 4 <| o_al 0 <| o_gf 2 0 <| o_il 4 <| o_callv (zCt (d - 1) mX6_appendName) 4 2 <| b_X3_sendName_26 d G Q
def b_X3_sendName_0 (d : Nat) (G : Nat → zK) (Q : zQ) : zK := o_al 0 <| o_gf 2 0 <| o_callv (zCt (d - 1) mX6_isFull) 4 1 <| t_zeq (b_X3_sendName_10 d G Q) (b_X3_sendName_26 d G Q)
set_option maxRecDepth 20000 in
theorem k_X3_sendName_26 {p : Program} {l : Launch} {e : Env} {s : State} {m : MethodId} {args : Array Value} {below : List Frame} {meth : Method} {c : Code} {E : zE} {d : Nat} {Q : zQ} (hd1 : 1 ≤ d) (B : zB p s m args c E mX3_sendName.1.cls mX3_sendName.2.1 mX3_sendName.2.2.1) (hr : meth.sig.returnType = mX3_sendName.2.2.2) (hlk : meth.locks = false) : zLk (zG p l e (zrm d) s m args below meth c E mX3_sendName.2.2.1 0 0 (MQ below (zQc E Q) args s 0 0 (zaA E))) 26 (b_X3_sendName_26 d (zG p l e (zrm d) s m args below meth c E mX3_sendName.2.2.1 0 0 (MQ below (zQc E Q) args s 0 0 (zaA E))) Q) := by
  unfold b_X3_sendName_26
  exact lk_vret B hr hlk dX3_sendName_26
set_option maxRecDepth 20000 in
theorem k_X3_sendName_10 {p : Program} {l : Launch} {e : Env} {s : State} {m : MethodId} {args : Array Value} {below : List Frame} {meth : Method} {c : Code} {E : zE} {d : Nat} {Q : zQ} (hd1 : 1 ≤ d) (B : zB p s m args c E mX3_sendName.1.cls mX3_sendName.2.1 mX3_sendName.2.2.1) (hr : meth.sig.returnType = mX3_sendName.2.2.2) (hlk : meth.locks = false) : zLk (zG p l e (zrm d) s m args below meth c E mX3_sendName.2.2.1 0 0 (MQ below (zQc E Q) args s 0 0 (zaA E))) 10 (b_X3_sendName_10 d (zG p l e (zrm d) s m args below meth c E mX3_sendName.2.2.1 0 0 (MQ below (zQc E Q) args s 0 0 (zaA E))) Q) := by
  unfold b_X3_sendName_10
  exact lk_aln B dX3_sendName_10 rfl (lk_iln B dX3_sendName_11 rfl (lk_iln B dX3_sendName_12 rfl (lk_iln B dX3_sendName_13 rfl (lk_callv (M := mX3_writeHead) (T := TX3) (N := 4) B (zhR hd1 (by decide)) ⟨Nat.zero_le _, Nat.zero_le _⟩ cl_X3 (zw5 zw_669 zw_666 zw_668 zw_12 zw_56) (by decide +kernel) dX3_sendName_14 (lk_aln B dX3_sendName_17 rfl (lk_gf (T := TX3) B cl_X3 (by decide) in_X3 zw_199 dX3_sendName_18 (lk_il B dX3_sendName_21 (lk_callv (M := mX6_appendName) (T := TX6) (N := 5) B (zhR hd1 (by decide)) ⟨Nat.zero_le _, Nat.zero_le _⟩ cl_X6 (zw5 zw_674 zw_671 zw_672 zw_673 zw_51) (by decide +kernel) dX3_sendName_23 (k_X3_sendName_26 hd1 B hr hlk)))))))))
set_option maxRecDepth 20000 in
theorem k_X3_sendName_0 {p : Program} {l : Launch} {e : Env} {s : State} {m : MethodId} {args : Array Value} {below : List Frame} {meth : Method} {c : Code} {E : zE} {d : Nat} {Q : zQ} (hd1 : 1 ≤ d) (B : zB p s m args c E mX3_sendName.1.cls mX3_sendName.2.1 mX3_sendName.2.2.1) (hr : meth.sig.returnType = mX3_sendName.2.2.2) (hlk : meth.locks = false) : zLk (zG p l e (zrm d) s m args below meth c E mX3_sendName.2.2.1 0 0 (MQ below (zQc E Q) args s 0 0 (zaA E))) 0 (b_X3_sendName_0 d (zG p l e (zrm d) s m args below meth c E mX3_sendName.2.2.1 0 0 (MQ below (zQc E Q) args s 0 0 (zaA E))) Q) := by
  unfold b_X3_sendName_0
  exact lk_aln B dX3_sendName_0 rfl (lk_gf (T := TX3) B cl_X3 (by decide) in_X3 zw_199 dX3_sendName_1 (lk_callv (M := mX6_isFull) (T := TX6) (N := 5) B (zhR hd1 (by decide)) ⟨Nat.zero_le _, Nat.zero_le _⟩ cl_X6 (zw5 zw_318 zw_665 zw_316 zw_317 zw_51) (by decide +kernel) dX3_sendName_4 (lk_zne B dX3_sendName_7 (by decide) (k_X3_sendName_26 hd1 B hr hlk) (k_X3_sendName_10 hd1 B hr hlk))))
def S_X3_sendName (d : Nat) (G : Nat → zK) (Q : zQ) : Prop := zLk G 0 (b_X3_sendName_0 d G Q)
theorem s_X3_sendName_0 {d : Nat} {G : Nat → zK} {Q : zQ} (h : S_X3_sendName d G Q) {ls st : List zV} {μ : zM} (k : b_X3_sendName_0 d G Q ls st μ) : G 0 ls st μ := h ls st μ k
theorem of_X3_sendName {d : Nat} {a0 a1 a2 a3 a4 : zV} {μ : zM} {Q : zQ} (hd1 : 1 ≤ d) (h : ∀ G : Nat → zK, S_X3_sendName d G Q → G 0 [a0, a1, a2, a3, a4] [] μ) : zCt d mX3_sendName [a0, a1, a2, a3, a4] μ Q := zCt.mk (by decide) (Nat.le_of_ble_eq_true rfl) (fun p l e s m args below meth c E B hr hlk => h _ (k_X3_sendName_0 hd1 B hr hlk))
theorem dX3_sendBlock_0 : decode cX3_sendBlock 0 = .ok (.aload_n 0, 1) := by decide +kernel
theorem dX3_sendBlock_1 : decode cX3_sendBlock 1 = .ok (.getfield 16, 3) := by decide +kernel
theorem dX3_sendBlock_4 : decode cX3_sendBlock 4 = .ok (.invokevirtual 45, 3) := by decide +kernel
theorem dX3_sendBlock_7 : decode cX3_sendBlock 7 = .ok (.ifCond .ne 20, 3) := by decide +kernel
theorem dX3_sendBlock_10 : decode cX3_sendBlock 10 = .ok (.aload_n 0, 1) := by decide +kernel
theorem dX3_sendBlock_11 : decode cX3_sendBlock 11 = .ok (.iconst 1, 1) := by decide +kernel
theorem dX3_sendBlock_12 : decode cX3_sendBlock 12 = .ok (.iload_n 1, 1) := by decide +kernel
theorem dX3_sendBlock_13 : decode cX3_sendBlock 13 = .ok (.iload_n 2, 1) := by decide +kernel
theorem dX3_sendBlock_14 : decode cX3_sendBlock 14 = .ok (.invokevirtual 49, 3) := by decide +kernel
theorem dX3_sendBlock_17 : decode cX3_sendBlock 17 = .ok (.aload_n 0, 1) := by decide +kernel
theorem dX3_sendBlock_18 : decode cX3_sendBlock 18 = .ok (.getfield 16, 3) := by decide +kernel
theorem dX3_sendBlock_21 : decode cX3_sendBlock 21 = .ok (.aload_n 3, 1) := by decide +kernel
theorem dX3_sendBlock_22 : decode cX3_sendBlock 22 = .ok (.iload 4, 2) := by decide +kernel
theorem dX3_sendBlock_24 : decode cX3_sendBlock 24 = .ok (.invokevirtual 56, 3) := by decide +kernel
theorem dX3_sendBlock_27 : decode cX3_sendBlock 27 = .ok (.return_, 1) := by decide +kernel
def b_X3_sendBlock_27 (d : Nat) (G : Nat → zK) (Q : zQ) : zK := t_vret Q
def b_X3_sendBlock_10 (d : Nat) (G : Nat → zK) (Q : zQ) : zK := o_al 0 <| o_c 1 <| o_il 1 <| o_il 2 <| o_callv (zCt (d - 1) mX3_writeHead) 2 4 <| o_al 0 <| o_gf 2 0 <| o_al 3 <| o_il 4 <| o_callv (zCt (d - 1) mX6_appendCopy) 4 3 <| b_X3_sendBlock_27 d G Q
def b_X3_sendBlock_0 (d : Nat) (G : Nat → zK) (Q : zQ) : zK := o_al 0 <| o_gf 2 0 <| o_callv (zCt (d - 1) mX6_isFull) 4 1 <| t_zeq (b_X3_sendBlock_10 d G Q) (b_X3_sendBlock_27 d G Q)
set_option maxRecDepth 20000 in
theorem k_X3_sendBlock_27 {p : Program} {l : Launch} {e : Env} {s : State} {m : MethodId} {args : Array Value} {below : List Frame} {meth : Method} {c : Code} {E : zE} {d : Nat} {Q : zQ} (hd1 : 1 ≤ d) (B : zB p s m args c E mX3_sendBlock.1.cls mX3_sendBlock.2.1 mX3_sendBlock.2.2.1) (hr : meth.sig.returnType = mX3_sendBlock.2.2.2) (hlk : meth.locks = false) : zLk (zG p l e (zrm d) s m args below meth c E mX3_sendBlock.2.2.1 0 0 (MQ below (zQc E Q) args s 0 0 (zaA E))) 27 (b_X3_sendBlock_27 d (zG p l e (zrm d) s m args below meth c E mX3_sendBlock.2.2.1 0 0 (MQ below (zQc E Q) args s 0 0 (zaA E))) Q) := by
  unfold b_X3_sendBlock_27
  exact lk_vret B hr hlk dX3_sendBlock_27
set_option maxRecDepth 20000 in
theorem k_X3_sendBlock_10 {p : Program} {l : Launch} {e : Env} {s : State} {m : MethodId} {args : Array Value} {below : List Frame} {meth : Method} {c : Code} {E : zE} {d : Nat} {Q : zQ} (hd1 : 1 ≤ d) (B : zB p s m args c E mX3_sendBlock.1.cls mX3_sendBlock.2.1 mX3_sendBlock.2.2.1) (hr : meth.sig.returnType = mX3_sendBlock.2.2.2) (hlk : meth.locks = false) : zLk (zG p l e (zrm d) s m args below meth c E mX3_sendBlock.2.2.1 0 0 (MQ below (zQc E Q) args s 0 0 (zaA E))) 10 (b_X3_sendBlock_10 d (zG p l e (zrm d) s m args below meth c E mX3_sendBlock.2.2.1 0 0 (MQ below (zQc E Q) args s 0 0 (zaA E))) Q) := by
  unfold b_X3_sendBlock_10
  exact lk_aln B dX3_sendBlock_10 rfl (lk_c B dX3_sendBlock_11 (lk_iln B dX3_sendBlock_12 rfl (lk_iln B dX3_sendBlock_13 rfl (lk_callv (M := mX3_writeHead) (T := TX3) (N := 4) B (zhR hd1 (by decide)) ⟨Nat.zero_le _, Nat.zero_le _⟩ cl_X3 (zw5 zw_669 zw_666 zw_668 zw_12 zw_56) (by decide +kernel) dX3_sendBlock_14 (lk_aln B dX3_sendBlock_17 rfl (lk_gf (T := TX3) B cl_X3 (by decide) in_X3 zw_199 dX3_sendBlock_18 (lk_aln B dX3_sendBlock_21 rfl (lk_il B dX3_sendBlock_22 (lk_callv (M := mX6_appendCopy) (T := TX6) (N := 5) B (zhR hd1 (by decide)) ⟨Nat.zero_le _, Nat.zero_le _⟩ cl_X6 (zw5 zw_412 zw_729 zw_410 zw_411 zw_51) (by decide +kernel) dX3_sendBlock_24 (k_X3_sendBlock_27 hd1 B hr hlk))))))))))
set_option maxRecDepth 20000 in
theorem k_X3_sendBlock_0 {p : Program} {l : Launch} {e : Env} {s : State} {m : MethodId} {args : Array Value} {below : List Frame} {meth : Method} {c : Code} {E : zE} {d : Nat} {Q : zQ} (hd1 : 1 ≤ d) (B : zB p s m args c E mX3_sendBlock.1.cls mX3_sendBlock.2.1 mX3_sendBlock.2.2.1) (hr : meth.sig.returnType = mX3_sendBlock.2.2.2) (hlk : meth.locks = false) : zLk (zG p l e (zrm d) s m args below meth c E mX3_sendBlock.2.2.1 0 0 (MQ below (zQc E Q) args s 0 0 (zaA E))) 0 (b_X3_sendBlock_0 d (zG p l e (zrm d) s m args below meth c E mX3_sendBlock.2.2.1 0 0 (MQ below (zQc E Q) args s 0 0 (zaA E))) Q) := by
  unfold b_X3_sendBlock_0
  exact lk_aln B dX3_sendBlock_0 rfl (lk_gf (T := TX3) B cl_X3 (by decide) in_X3 zw_199 dX3_sendBlock_1 (lk_callv (M := mX6_isFull) (T := TX6) (N := 5) B (zhR hd1 (by decide)) ⟨Nat.zero_le _, Nat.zero_le _⟩ cl_X6 (zw5 zw_318 zw_665 zw_316 zw_317 zw_51) (by decide +kernel) dX3_sendBlock_4 (lk_zne B dX3_sendBlock_7 (by decide) (k_X3_sendBlock_27 hd1 B hr hlk) (k_X3_sendBlock_10 hd1 B hr hlk))))
def S_X3_sendBlock (d : Nat) (G : Nat → zK) (Q : zQ) : Prop := zLk G 0 (b_X3_sendBlock_0 d G Q)
theorem s_X3_sendBlock_0 {d : Nat} {G : Nat → zK} {Q : zQ} (h : S_X3_sendBlock d G Q) {ls st : List zV} {μ : zM} (k : b_X3_sendBlock_0 d G Q ls st μ) : G 0 ls st μ := h ls st μ k
theorem of_X3_sendBlock {d : Nat} {a0 a1 a2 a3 a4 : zV} {μ : zM} {Q : zQ} (hd1 : 1 ≤ d) (h : ∀ G : Nat → zK, S_X3_sendBlock d G Q → G 0 [a0, a1, a2, a3, a4] [] μ) : zCt d mX3_sendBlock [a0, a1, a2, a3, a4] μ Q := zCt.mk (by decide) (Nat.le_of_ble_eq_true rfl) (fun p l e s m args below meth c E B hr hlk => h _ (k_X3_sendBlock_0 hd1 B hr hlk))
theorem dX3_writeHead_0 : decode cX3_writeHead 0 = .ok (.aload_n 0, 1) := by decide +kernel
theorem dX3_writeHead_1 : decode cX3_writeHead 1 = .ok (.getfield 16, 3) := by decide +kernel
theorem dX3_writeHead_4 : decode cX3_writeHead 4 = .ok (.invokevirtual 30, 3) := by decide +kernel
theorem dX3_writeHead_7 : decode cX3_writeHead 7 = .ok (.istore 4, 2) := by decide +kernel
theorem dX3_writeHead_9 : decode cX3_writeHead 9 = .ok (.aload_n 0, 1) := by decide +kernel
theorem dX3_writeHead_10 : decode cX3_writeHead 10 = .ok (.getfield 20, 3) := by decide +kernel
theorem dX3_writeHead_13 : decode cX3_writeHead 13 = .ok (.iload 4, 2) := by decide +kernel
theorem dX3_writeHead_15 : decode cX3_writeHead 15 = .ok (.iload_n 1, 1) := by decide +kernel
theorem dX3_writeHead_16 : decode cX3_writeHead 16 = .ok (.iastore, 1) := by decide +kernel
theorem dX3_writeHead_17 : decode cX3_writeHead 17 = .ok (.aload_n 0, 1) := by decide +kernel
theorem dX3_writeHead_18 : decode cX3_writeHead 18 = .ok (.getfield 24, 3) := by decide +kernel
theorem dX3_writeHead_21 : decode cX3_writeHead 21 = .ok (.iload 4, 2) := by decide +kernel
theorem dX3_writeHead_23 : decode cX3_writeHead 23 = .ok (.iload_n 2, 1) := by decide +kernel
theorem dX3_writeHead_24 : decode cX3_writeHead 24 = .ok (.iastore, 1) := by decide +kernel
theorem dX3_writeHead_25 : decode cX3_writeHead 25 = .ok (.aload_n 0, 1) := by decide +kernel
theorem dX3_writeHead_26 : decode cX3_writeHead 26 = .ok (.getfield 27, 3) := by decide +kernel
theorem dX3_writeHead_29 : decode cX3_writeHead 29 = .ok (.iload 4, 2) := by decide +kernel
theorem dX3_writeHead_31 : decode cX3_writeHead 31 = .ok (.iload_n 3, 1) := by decide +kernel
theorem dX3_writeHead_32 : decode cX3_writeHead 32 = .ok (.iastore, 1) := by decide +kernel
theorem dX3_writeHead_33 : decode cX3_writeHead 33 = .ok (.return_, 1) := by decide +kernel
def b_X3_writeHead_0 (d : Nat) (G : Nat → zK) (Q : zQ) : zK := o_al 0 <| o_gf 2 0 <| o_callv (zCt (d - 1) mX6_count) 4 1 <| o_is 4 <| o_al 0 <| o_gf 2 1 <| o_il 4 <| o_il 1 <| o_iast <| o_al 0 <| o_gf 2 2 <| o_il 4 <| o_il 2 <| o_iast <| o_al 0 <| o_gf 2 3 <| o_il 4 <| o_il 3 <| o_iast <| t_vret Q
set_option maxRecDepth 20000 in
theorem k_X3_writeHead_0 {p : Program} {l : Launch} {e : Env} {s : State} {m : MethodId} {args : Array Value} {below : List Frame} {meth : Method} {c : Code} {E : zE} {d : Nat} {Q : zQ} (hd1 : 1 ≤ d) (B : zB p s m args c E mX3_writeHead.1.cls mX3_writeHead.2.1 mX3_writeHead.2.2.1) (hr : meth.sig.returnType = mX3_writeHead.2.2.2) (hlk : meth.locks = false) : zLk (zG p l e (zrm d) s m args below meth c E mX3_writeHead.2.2.1 0 0 (MQ below (zQc E Q) args s 0 0 (zaA E))) 0 (b_X3_writeHead_0 d (zG p l e (zrm d) s m args below meth c E mX3_writeHead.2.2.1 0 0 (MQ below (zQc E Q) args s 0 0 (zaA E))) Q) := by
  unfold b_X3_writeHead_0
  exact lk_aln B dX3_writeHead_0 rfl (lk_gf (T := TX3) B cl_X3 (by decide) in_X3 zw_199 dX3_writeHead_1 (lk_callv (M := mX6_count) (T := TX6) (N := 5) B (zhR hd1 (by decide)) ⟨Nat.zero_le _, Nat.zero_le _⟩ cl_X6 (zw5 zw_398 zw_670 zw_396 zw_397 zw_51) (by decide +kernel) dX3_writeHead_4 (lk_is B dX3_writeHead_7 (by decide) (lk_aln B dX3_writeHead_9 rfl (lk_gf (T := TX3) B cl_X3 (by decide) in_X3 zw_200 dX3_writeHead_10 (lk_il B dX3_writeHead_13 (lk_iln B dX3_writeHead_15 rfl (lk_iast B dX3_writeHead_16 (lk_aln B dX3_writeHead_17 rfl (lk_gf (T := TX3) B cl_X3 (by decide) in_X3 zw_201 dX3_writeHead_18 (lk_il B dX3_writeHead_21 (lk_iln B dX3_writeHead_23 rfl (lk_iast B dX3_writeHead_24 (lk_aln B dX3_writeHead_25 rfl (lk_gf (T := TX3) B cl_X3 (by decide) in_X3 zw_202 dX3_writeHead_26 (lk_il B dX3_writeHead_29 (lk_iln B dX3_writeHead_31 rfl (lk_iast B dX3_writeHead_32 (lk_vret B hr hlk dX3_writeHead_33)))))))))))))))))))
def S_X3_writeHead (d : Nat) (G : Nat → zK) (Q : zQ) : Prop := zLk G 0 (b_X3_writeHead_0 d G Q)
theorem s_X3_writeHead_0 {d : Nat} {G : Nat → zK} {Q : zQ} (h : S_X3_writeHead d G Q) {ls st : List zV} {μ : zM} (k : b_X3_writeHead_0 d G Q ls st μ) : G 0 ls st μ := h ls st μ k
theorem of_X3_writeHead {d : Nat} {a0 a1 a2 a3 : zV} {μ : zM} {Q : zQ} (hd1 : 1 ≤ d) (h : ∀ G : Nat → zK, S_X3_writeHead d G Q → G 0 [a0, a1, a2, a3, .inr none] [] μ) : zCt d mX3_writeHead [a0, a1, a2, a3] μ Q := zCt.mk (by decide) (Nat.le_of_ble_eq_true rfl) (fun p l e s m args below meth c E B hr hlk => h _ (k_X3_writeHead_0 hd1 B hr hlk))
theorem dX3_lose_0 : decode cX3_lose 0 = .ok (.aload_n 0, 1) := by decide +kernel
theorem dX3_lose_1 : decode cX3_lose 1 = .ok (.iload_n 1, 1) := by decide +kernel
theorem dX3_lose_2 : decode cX3_lose 2 = .ok (.invokevirtual 38, 3) := by decide +kernel
theorem dX3_lose_5 : decode cX3_lose 5 = .ok (.ifCond .ne 4, 3) := by decide +kernel
theorem dX3_lose_8 : decode cX3_lose 8 = .ok (.return_, 1) := by decide +kernel
theorem dX3_lose_9 : decode cX3_lose 9 = .ok (.aload_n 0, 1) := by decide +kernel
theorem dX3_lose_10 : decode cX3_lose 10 = .ok (.getfield 16, 3) := by decide +kernel
theorem dX3_lose_13 : decode cX3_lose 13 = .ok (.invokevirtual 30, 3) := by decide +kernel
theorem dX3_lose_16 : decode cX3_lose 16 = .ok (.iload_n 1, 1) := by decide +kernel
theorem dX3_lose_17 : decode cX3_lose 17 = .ok (.isub, 1) := by decide +kernel
theorem dX3_lose_18 : decode cX3_lose 18 = .ok (.iconst 1, 1) := by decide +kernel
theorem dX3_lose_19 : decode cX3_lose 19 = .ok (.isub, 1) := by decide +kernel
theorem dX3_lose_20 : decode cX3_lose 20 = .ok (.istore_n 2, 1) := by decide +kernel
theorem dX3_lose_21 : decode cX3_lose 21 = .ok (.aload_n 0, 1) := by decide +kernel
theorem dX3_lose_22 : decode cX3_lose 22 = .ok (.getfield 20, 3) := by decide +kernel
theorem dX3_lose_25 : decode cX3_lose 25 = .ok (.iload_n 1, 1) := by decide +kernel
theorem dX3_lose_26 : decode cX3_lose 26 = .ok (.iconst 1, 1) := by decide +kernel
theorem dX3_lose_27 : decode cX3_lose 27 = .ok (.iadd, 1) := by decide +kernel
theorem dX3_lose_28 : decode cX3_lose 28 = .ok (.aload_n 0, 1) := by decide +kernel
theorem dX3_lose_29 : decode cX3_lose 29 = .ok (.getfield 20, 3) := by decide +kernel
theorem dX3_lose_32 : decode cX3_lose 32 = .ok (.iload_n 1, 1) := by decide +kernel
theorem dX3_lose_33 : decode cX3_lose 33 = .ok (.iload_n 2, 1) := by decide +kernel
theorem dX3_lose_34 : decode cX3_lose 34 = .ok (.invokestatic 60, 3) := by decide +kernel
theorem dX3_lose_37 : decode cX3_lose 37 = .ok (.aload_n 0, 1) := by decide +kernel
theorem dX3_lose_38 : decode cX3_lose 38 = .ok (.getfield 24, 3) := by decide +kernel
theorem dX3_lose_41 : decode cX3_lose 41 = .ok (.iload_n 1, 1) := by decide +kernel
theorem dX3_lose_42 : decode cX3_lose 42 = .ok (.iconst 1, 1) := by decide +kernel
theorem dX3_lose_43 : decode cX3_lose 43 = .ok (.iadd, 1) := by decide +kernel
theorem dX3_lose_44 : decode cX3_lose 44 = .ok (.aload_n 0, 1) := by decide +kernel
theorem dX3_lose_45 : decode cX3_lose 45 = .ok (.getfield 24, 3) := by decide +kernel
theorem dX3_lose_48 : decode cX3_lose 48 = .ok (.iload_n 1, 1) := by decide +kernel
theorem dX3_lose_49 : decode cX3_lose 49 = .ok (.iload_n 2, 1) := by decide +kernel
theorem dX3_lose_50 : decode cX3_lose 50 = .ok (.invokestatic 60, 3) := by decide +kernel
theorem dX3_lose_53 : decode cX3_lose 53 = .ok (.aload_n 0, 1) := by decide +kernel
theorem dX3_lose_54 : decode cX3_lose 54 = .ok (.getfield 27, 3) := by decide +kernel
theorem dX3_lose_57 : decode cX3_lose 57 = .ok (.iload_n 1, 1) := by decide +kernel
theorem dX3_lose_58 : decode cX3_lose 58 = .ok (.iconst 1, 1) := by decide +kernel
theorem dX3_lose_59 : decode cX3_lose 59 = .ok (.iadd, 1) := by decide +kernel
theorem dX3_lose_60 : decode cX3_lose 60 = .ok (.aload_n 0, 1) := by decide +kernel
theorem dX3_lose_61 : decode cX3_lose 61 = .ok (.getfield 27, 3) := by decide +kernel
theorem dX3_lose_64 : decode cX3_lose 64 = .ok (.iload_n 1, 1) := by decide +kernel
theorem dX3_lose_65 : decode cX3_lose 65 = .ok (.iload_n 2, 1) := by decide +kernel
theorem dX3_lose_66 : decode cX3_lose 66 = .ok (.invokestatic 60, 3) := by decide +kernel
theorem dX3_lose_69 : decode cX3_lose 69 = .ok (.aload_n 0, 1) := by decide +kernel
theorem dX3_lose_70 : decode cX3_lose 70 = .ok (.getfield 16, 3) := by decide +kernel
theorem dX3_lose_73 : decode cX3_lose 73 = .ok (.iload_n 1, 1) := by decide +kernel
theorem dX3_lose_74 : decode cX3_lose 74 = .ok (.invokevirtual 66, 3) := by decide +kernel
theorem dX3_lose_77 : decode cX3_lose 77 = .ok (.return_, 1) := by decide +kernel
def b_X3_lose_9 (d : Nat) (G : Nat → zK) (Q : zQ) : zK := o_al 0 <| o_gf 2 0 <| o_callv (zCt (d - 1) mX6_count) 4 1 <| o_il 1 <| o_sub <| o_c 1 <| o_sub <| o_is 2 <| o_al 0 <| o_gf 2 1 <| o_il 1 <| o_c 1 <| o_add <| o_al 0 <| o_gf 2 1 <| o_il 1 <| o_il 2 <| o_acp <| o_al 0 <| o_gf 2 2 <| o_il 1 <| o_c 1 <| o_add <| o_al 0 <| o_gf 2 2 <| o_il 1 <| o_il 2 <| o_acp <| o_al 0 <| o_gf 2 3 <| o_il 1 <| o_c 1 <| o_add <| o_al 0 <| o_gf 2 3 <| o_il 1 <| o_il 2 <| o_acp <| o_al 0 <| o_gf 2 0 <| o_il 1 <| o_callv (zCt (d - 1) mX6_removeSlot) 4 2 <| t_vret Q
def b_X3_lose_8 (d : Nat) (G : Nat → zK) (Q : zQ) : zK := t_vret Q
def b_X3_lose_0 (d : Nat) (G : Nat → zK) (Q : zQ) : zK := o_al 0 <| o_il 1 <| o_callv (zCt (d - 1) mX3_has) 2 2 <| t_zeq (b_X3_lose_8 d G Q) (b_X3_lose_9 d G Q)
set_option maxRecDepth 20000 in
theorem k_X3_lose_9 {p : Program} {l : Launch} {e : Env} {s : State} {m : MethodId} {args : Array Value} {below : List Frame} {meth : Method} {c : Code} {E : zE} {d : Nat} {Q : zQ} (hd1 : 1 ≤ d) (B : zB p s m args c E mX3_lose.1.cls mX3_lose.2.1 mX3_lose.2.2.1) (hr : meth.sig.returnType = mX3_lose.2.2.2) (hlk : meth.locks = false) : zLk (zG p l e (zrm d) s m args below meth c E mX3_lose.2.2.1 0 0 (MQ below (zQc E Q) args s 0 0 (zaA E))) 9 (b_X3_lose_9 d (zG p l e (zrm d) s m args below meth c E mX3_lose.2.2.1 0 0 (MQ below (zQc E Q) args s 0 0 (zaA E))) Q) := by
  have hRa : 1 ≤ (zrm d).frames ∧ 8 + (nativeFrameWords "java/lang/System" "arraycopy" 5 + 11) ≤ (zrm d).locals := zhRa hd1
  unfold b_X3_lose_9
  exact lk_aln B dX3_lose_9 rfl (lk_gf (T := TX3) B cl_X3 (by decide) in_X3 zw_199 dX3_lose_10 (lk_callv (M := mX6_count) (T := TX6) (N := 5) B (zhR hd1 (by decide)) ⟨Nat.zero_le _, Nat.zero_le _⟩ cl_X6 (zw5 zw_398 zw_670 zw_396 zw_397 zw_51) (by decide +kernel) dX3_lose_13 (lk_iln B dX3_lose_16 rfl (lk_sub B dX3_lose_17 (lk_c B dX3_lose_18 (lk_sub B dX3_lose_19 (lk_isn B dX3_lose_20 rfl (by decide) (lk_aln B dX3_lose_21 rfl (lk_gf (T := TX3) B cl_X3 (by decide) in_X3 zw_200 dX3_lose_22 (lk_iln B dX3_lose_25 rfl (lk_c B dX3_lose_26 (lk_add B dX3_lose_27 (lk_aln B dX3_lose_28 rfl (lk_gf (T := TX3) B cl_X3 (by decide) in_X3 zw_200 dX3_lose_29 (lk_iln B dX3_lose_32 rfl (lk_iln B dX3_lose_33 rfl (lk_acp B hRa (zw4 zw_719 zw_321 zw_320 zw_59) dX3_lose_34 (lk_aln B dX3_lose_37 rfl (lk_gf (T := TX3) B cl_X3 (by decide) in_X3 zw_201 dX3_lose_38 (lk_iln B dX3_lose_41 rfl (lk_c B dX3_lose_42 (lk_add B dX3_lose_43 (lk_aln B dX3_lose_44 rfl (lk_gf (T := TX3) B cl_X3 (by decide) in_X3 zw_201 dX3_lose_45 (lk_iln B dX3_lose_48 rfl (lk_iln B dX3_lose_49 rfl (lk_acp B hRa (zw4 zw_719 zw_321 zw_320 zw_59) dX3_lose_50 (lk_aln B dX3_lose_53 rfl (lk_gf (T := TX3) B cl_X3 (by decide) in_X3 zw_202 dX3_lose_54 (lk_iln B dX3_lose_57 rfl (lk_c B dX3_lose_58 (lk_add B dX3_lose_59 (lk_aln B dX3_lose_60 rfl (lk_gf (T := TX3) B cl_X3 (by decide) in_X3 zw_202 dX3_lose_61 (lk_iln B dX3_lose_64 rfl (lk_iln B dX3_lose_65 rfl (lk_acp B hRa (zw4 zw_719 zw_321 zw_320 zw_59) dX3_lose_66 (lk_aln B dX3_lose_69 rfl (lk_gf (T := TX3) B cl_X3 (by decide) in_X3 zw_199 dX3_lose_70 (lk_iln B dX3_lose_73 rfl (lk_callv (M := mX6_removeSlot) (T := TX6) (N := 5) B (zhR hd1 (by decide)) ⟨Nat.zero_le _, Nat.zero_le _⟩ cl_X6 (zw5 zw_634 zw_720 zw_632 zw_633 zw_51) (by decide +kernel) dX3_lose_74 (lk_vret B hr hlk dX3_lose_77))))))))))))))))))))))))))))))))))))))))))
set_option maxRecDepth 20000 in
theorem k_X3_lose_8 {p : Program} {l : Launch} {e : Env} {s : State} {m : MethodId} {args : Array Value} {below : List Frame} {meth : Method} {c : Code} {E : zE} {d : Nat} {Q : zQ} (hd1 : 1 ≤ d) (B : zB p s m args c E mX3_lose.1.cls mX3_lose.2.1 mX3_lose.2.2.1) (hr : meth.sig.returnType = mX3_lose.2.2.2) (hlk : meth.locks = false) : zLk (zG p l e (zrm d) s m args below meth c E mX3_lose.2.2.1 0 0 (MQ below (zQc E Q) args s 0 0 (zaA E))) 8 (b_X3_lose_8 d (zG p l e (zrm d) s m args below meth c E mX3_lose.2.2.1 0 0 (MQ below (zQc E Q) args s 0 0 (zaA E))) Q) := by
  unfold b_X3_lose_8
  exact lk_vret B hr hlk dX3_lose_8
set_option maxRecDepth 20000 in
theorem k_X3_lose_0 {p : Program} {l : Launch} {e : Env} {s : State} {m : MethodId} {args : Array Value} {below : List Frame} {meth : Method} {c : Code} {E : zE} {d : Nat} {Q : zQ} (hd1 : 1 ≤ d) (B : zB p s m args c E mX3_lose.1.cls mX3_lose.2.1 mX3_lose.2.2.1) (hr : meth.sig.returnType = mX3_lose.2.2.2) (hlk : meth.locks = false) : zLk (zG p l e (zrm d) s m args below meth c E mX3_lose.2.2.1 0 0 (MQ below (zQc E Q) args s 0 0 (zaA E))) 0 (b_X3_lose_0 d (zG p l e (zrm d) s m args below meth c E mX3_lose.2.2.1 0 0 (MQ below (zQc E Q) args s 0 0 (zaA E))) Q) := by
  unfold b_X3_lose_0
  exact lk_aln B dX3_lose_0 rfl (lk_iln B dX3_lose_1 rfl (lk_callv (M := mX3_has) (T := TX3) (N := 4) B (zhR hd1 (by decide)) ⟨Nat.zero_le _, Nat.zero_le _⟩ cl_X3 (zw5 zw_686 zw_692 zw_684 zw_685 zw_56) (by decide +kernel) dX3_lose_2 (lk_zne B dX3_lose_5 (by decide) (k_X3_lose_9 hd1 B hr hlk) (k_X3_lose_8 hd1 B hr hlk))))
def S_X3_lose (d : Nat) (G : Nat → zK) (Q : zQ) : Prop := zLk G 0 (b_X3_lose_0 d G Q)
theorem s_X3_lose_0 {d : Nat} {G : Nat → zK} {Q : zQ} (h : S_X3_lose d G Q) {ls st : List zV} {μ : zM} (k : b_X3_lose_0 d G Q ls st μ) : G 0 ls st μ := h ls st μ k
theorem of_X3_lose {d : Nat} {a0 a1 : zV} {μ : zM} {Q : zQ} (hd1 : 1 ≤ d) (h : ∀ G : Nat → zK, S_X3_lose d G Q → G 0 [a0, a1, .inr none] [] μ) : zCt d mX3_lose [a0, a1] μ Q := zCt.mk (by decide) (Nat.le_of_ble_eq_true rfl) (fun p l e s m args below meth c E B hr hlk => h _ (k_X3_lose_0 hd1 B hr hlk))
theorem dX3_damage_0 : decode cX3_damage 0 = .ok (.aload_n 0, 1) := by decide +kernel
theorem dX3_damage_1 : decode cX3_damage 1 = .ok (.getfield 16, 3) := by decide +kernel
theorem dX3_damage_4 : decode cX3_damage 4 = .ok (.iload_n 1, 1) := by decide +kernel
theorem dX3_damage_5 : decode cX3_damage 5 = .ok (.iload_n 2, 1) := by decide +kernel
theorem dX3_damage_6 : decode cX3_damage 6 = .ok (.invokevirtual 69, 3) := by decide +kernel
theorem dX3_damage_9 : decode cX3_damage 9 = .ok (.istore 4, 2) := by decide +kernel
theorem dX3_damage_11 : decode cX3_damage 11 = .ok (.iload 4, 2) := by decide +kernel
theorem dX3_damage_13 : decode cX3_damage 13 = .ok (.iconst (-1), 1) := by decide +kernel
theorem dX3_damage_14 : decode cX3_damage 14 = .ok (.if_icmp .ne 5, 3) := by decide +kernel
theorem dX3_damage_17 : decode cX3_damage 17 = .ok (.iconst 0, 1) := by decide +kernel
theorem dX3_damage_18 : decode cX3_damage 18 = .ok (.ireturn, 1) := by decide +kernel
theorem dX3_damage_19 : decode cX3_damage 19 = .ok (.aload_n 0, 1) := by decide +kernel
theorem dX3_damage_20 : decode cX3_damage 20 = .ok (.getfield 16, 3) := by decide +kernel
theorem dX3_damage_23 : decode cX3_damage 23 = .ok (.iload_n 1, 1) := by decide +kernel
theorem dX3_damage_24 : decode cX3_damage 24 = .ok (.iload_n 2, 1) := by decide +kernel
theorem dX3_damage_25 : decode cX3_damage 25 = .ok (.iload 4, 2) := by decide +kernel
theorem dX3_damage_27 : decode cX3_damage 27 = .ok (.iload_n 3, 1) := by decide +kernel
theorem dX3_damage_28 : decode cX3_damage 28 = .ok (.sipush 255, 3) := by decide +kernel
theorem dX3_damage_31 : decode cX3_damage 31 = .ok (.iand, 1) := by decide +kernel
theorem dX3_damage_32 : decode cX3_damage 32 = .ok (.ixor, 1) := by decide +kernel
theorem dX3_damage_33 : decode cX3_damage 33 = .ok (.invokevirtual 73, 3) := by decide +kernel
theorem dX3_damage_36 : decode cX3_damage 36 = .ok (.iconst 1, 1) := by decide +kernel
theorem dX3_damage_37 : decode cX3_damage 37 = .ok (.ireturn, 1) := by decide +kernel
def b_X3_damage_19 (d : Nat) (G : Nat → zK) (Q : zQ) : zK := o_al 0 <| o_gf 2 0 <| o_il 1 <| o_il 2 <| o_il 4 <| o_il 3 <| o_c 255 <| o_and <| o_xor <| o_callv (zCt (d - 1) mX6_changeByte) 4 4 <| o_c 1 <| t_zret Q
def b_X3_damage_17 (d : Nat) (G : Nat → zK) (Q : zQ) : zK := o_c 0 <| t_zret Q
def b_X3_damage_0 (d : Nat) (G : Nat → zK) (Q : zQ) : zK := o_al 0 <| o_gf 2 0 <| o_il 1 <| o_il 2 <| o_callv (zCt (d - 1) mX6_byteAt) 4 3 <| o_is 4 <| o_il 4 <| o_c (-1) <| t_ieq (b_X3_damage_17 d G Q) (b_X3_damage_19 d G Q)
set_option maxRecDepth 20000 in
theorem k_X3_damage_19 {p : Program} {l : Launch} {e : Env} {s : State} {m : MethodId} {args : Array Value} {below : List Frame} {meth : Method} {c : Code} {E : zE} {d : Nat} {Q : zQ} (hd1 : 1 ≤ d) (B : zB p s m args c E mX3_damage.1.cls mX3_damage.2.1 mX3_damage.2.2.1) (hr : meth.sig.returnType = mX3_damage.2.2.2) (hlk : meth.locks = false) : zLk (zG p l e (zrm d) s m args below meth c E mX3_damage.2.2.1 0 0 (MQ below (zQc E Q) args s 0 0 (zaA E))) 19 (b_X3_damage_19 d (zG p l e (zrm d) s m args below meth c E mX3_damage.2.2.1 0 0 (MQ below (zQc E Q) args s 0 0 (zaA E))) Q) := by
  unfold b_X3_damage_19
  exact lk_aln B dX3_damage_19 rfl (lk_gf (T := TX3) B cl_X3 (by decide) in_X3 zw_199 dX3_damage_20 (lk_iln B dX3_damage_23 rfl (lk_iln B dX3_damage_24 rfl (lk_il B dX3_damage_25 (lk_iln B dX3_damage_27 rfl (lk_s B dX3_damage_28 rfl (lk_and B dX3_damage_31 (lk_xor B dX3_damage_32 (lk_callv (M := mX6_changeByte) (T := TX6) (N := 5) B (zhR hd1 (by decide)) ⟨Nat.zero_le _, Nat.zero_le _⟩ cl_X6 (zw5 zw_759 zw_756 zw_757 zw_758 zw_51) (by decide +kernel) dX3_damage_33 (lk_c B dX3_damage_36 (lk_zret B hr hlk dX3_damage_37)))))))))))
set_option maxRecDepth 20000 in
theorem k_X3_damage_17 {p : Program} {l : Launch} {e : Env} {s : State} {m : MethodId} {args : Array Value} {below : List Frame} {meth : Method} {c : Code} {E : zE} {d : Nat} {Q : zQ} (hd1 : 1 ≤ d) (B : zB p s m args c E mX3_damage.1.cls mX3_damage.2.1 mX3_damage.2.2.1) (hr : meth.sig.returnType = mX3_damage.2.2.2) (hlk : meth.locks = false) : zLk (zG p l e (zrm d) s m args below meth c E mX3_damage.2.2.1 0 0 (MQ below (zQc E Q) args s 0 0 (zaA E))) 17 (b_X3_damage_17 d (zG p l e (zrm d) s m args below meth c E mX3_damage.2.2.1 0 0 (MQ below (zQc E Q) args s 0 0 (zaA E))) Q) := by
  unfold b_X3_damage_17
  exact lk_c B dX3_damage_17 (lk_zret B hr hlk dX3_damage_18)
set_option maxRecDepth 20000 in
theorem k_X3_damage_0 {p : Program} {l : Launch} {e : Env} {s : State} {m : MethodId} {args : Array Value} {below : List Frame} {meth : Method} {c : Code} {E : zE} {d : Nat} {Q : zQ} (hd1 : 1 ≤ d) (B : zB p s m args c E mX3_damage.1.cls mX3_damage.2.1 mX3_damage.2.2.1) (hr : meth.sig.returnType = mX3_damage.2.2.2) (hlk : meth.locks = false) : zLk (zG p l e (zrm d) s m args below meth c E mX3_damage.2.2.1 0 0 (MQ below (zQc E Q) args s 0 0 (zaA E))) 0 (b_X3_damage_0 d (zG p l e (zrm d) s m args below meth c E mX3_damage.2.2.1 0 0 (MQ below (zQc E Q) args s 0 0 (zaA E))) Q) := by
  unfold b_X3_damage_0
  exact lk_aln B dX3_damage_0 rfl (lk_gf (T := TX3) B cl_X3 (by decide) in_X3 zw_199 dX3_damage_1 (lk_iln B dX3_damage_4 rfl (lk_iln B dX3_damage_5 rfl (lk_callv (M := mX6_byteAt) (T := TX6) (N := 5) B (zhR hd1 (by decide)) ⟨Nat.zero_le _, Nat.zero_le _⟩ cl_X6 (zw5 zw_348 zw_755 zw_346 zw_347 zw_51) (by decide +kernel) dX3_damage_6 (lk_is B dX3_damage_9 (by decide) (lk_il B dX3_damage_11 (lk_c B dX3_damage_13 (lk_ine B dX3_damage_14 (by decide) (k_X3_damage_19 hd1 B hr hlk) (k_X3_damage_17 hd1 B hr hlk)))))))))
def S_X3_damage (d : Nat) (G : Nat → zK) (Q : zQ) : Prop := zLk G 0 (b_X3_damage_0 d G Q)
theorem s_X3_damage_0 {d : Nat} {G : Nat → zK} {Q : zQ} (h : S_X3_damage d G Q) {ls st : List zV} {μ : zM} (k : b_X3_damage_0 d G Q ls st μ) : G 0 ls st μ := h ls st μ k
theorem of_X3_damage {d : Nat} {a0 a1 a2 a3 : zV} {μ : zM} {Q : zQ} (hd1 : 1 ≤ d) (h : ∀ G : Nat → zK, S_X3_damage d G Q → G 0 [a0, a1, a2, a3, .inr none] [] μ) : zCt d mX3_damage [a0, a1, a2, a3] μ Q := zCt.mk (by decide) (Nat.le_of_ble_eq_true rfl) (fun p l e s m args below meth c E B hr hlk => h _ (k_X3_damage_0 hd1 B hr hlk))
