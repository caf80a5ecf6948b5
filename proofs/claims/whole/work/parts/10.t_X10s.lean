theorem dX10_isStore_0 : decode cX10_isStore 0 = .ok (.iload_n 0, 1) := by decide +kernel
theorem dX10_isStore_1 : decode cX10_isStore 1 = .ok (.ifCond .lt 12, 3) := by decide +kernel
theorem dX10_isStore_4 : decode cX10_isStore 4 = .ok (.iload_n 0, 1) := by decide +kernel
theorem dX10_isStore_5 : decode cX10_isStore 5 = .ok (.iconst 3, 1) := by decide +kernel
theorem dX10_isStore_6 : decode cX10_isStore 6 = .ok (.if_icmp .ge 7, 3) := by decide +kernel
theorem dX10_isStore_9 : decode cX10_isStore 9 = .ok (.iconst 1, 1) := by decide +kernel
theorem dX10_isStore_10 : decode cX10_isStore 10 = .ok (.goto 4, 3) := by decide +kernel
theorem dX10_isStore_13 : decode cX10_isStore 13 = .ok (.iconst 0, 1) := by decide +kernel
theorem dX10_isStore_14 : decode cX10_isStore 14 = .ok (.ireturn, 1) := by decide +kernel
def b_X10_isStore_14 (d : Nat) (G : Nat → zK) (Q : zQ) : zK := t_zret Q
def b_X10_isStore_13 (d : Nat) (G : Nat → zK) (Q : zQ) : zK := o_c 0 <| b_X10_isStore_14 d G Q
def b_X10_isStore_9 (d : Nat) (G : Nat → zK) (Q : zQ) : zK := o_c 1 <| b_X10_isStore_14 d G Q
def b_X10_isStore_4 (d : Nat) (G : Nat → zK) (Q : zQ) : zK := o_il 0 <| o_c 3 <| t_ilt (b_X10_isStore_9 d G Q) (b_X10_isStore_13 d G Q)
def b_X10_isStore_0 (d : Nat) (G : Nat → zK) (Q : zQ) : zK := o_il 0 <| t_zlt (b_X10_isStore_13 d G Q) (b_X10_isStore_4 d G Q)
set_option maxRecDepth 20000 in
theorem k_X10_isStore_14 {p : Program} {l : Launch} {e : Env} {s : State} {m : MethodId} {args : Array Value} {below : List Frame} {meth : Method} {c : Code} {E : zE} {d : Nat} {Q : zQ} (B : zB p s m args c E mX10_isStore.1.cls mX10_isStore.2.1 mX10_isStore.2.2.1) (hr : meth.sig.returnType = mX10_isStore.2.2.2) (hlk : meth.locks = false) : zLk (zG p l e (zrm d) s m args below meth c E mX10_isStore.2.2.1 0 0 (MQ below (zQc E Q) args s 0 0 (zaA E))) 14 (b_X10_isStore_14 d (zG p l e (zrm d) s m args below meth c E mX10_isStore.2.2.1 0 0 (MQ below (zQc E Q) args s 0 0 (zaA E))) Q) := by
  unfold b_X10_isStore_14
  exact lk_zret B hr hlk dX10_isStore_14
set_option maxRecDepth 20000 in
theorem k_X10_isStore_13 {p : Program} {l : Launch} {e : Env} {s : State} {m : MethodId} {args : Array Value} {below : List Frame} {meth : Method} {c : Code} {E : zE} {d : Nat} {Q : zQ} (B : zB p s m args c E mX10_isStore.1.cls mX10_isStore.2.1 mX10_isStore.2.2.1) (hr : meth.sig.returnType = mX10_isStore.2.2.2) (hlk : meth.locks = false) : zLk (zG p l e (zrm d) s m args below meth c E mX10_isStore.2.2.1 0 0 (MQ below (zQc E Q) args s 0 0 (zaA E))) 13 (b_X10_isStore_13 d (zG p l e (zrm d) s m args below meth c E mX10_isStore.2.2.1 0 0 (MQ below (zQc E Q) args s 0 0 (zaA E))) Q) := by
  unfold b_X10_isStore_13
  exact lk_c B dX10_isStore_13 (k_X10_isStore_14 B hr hlk)
set_option maxRecDepth 20000 in
theorem k_X10_isStore_9 {p : Program} {l : Launch} {e : Env} {s : State} {m : MethodId} {args : Array Value} {below : List Frame} {meth : Method} {c : Code} {E : zE} {d : Nat} {Q : zQ} (B : zB p s m args c E mX10_isStore.1.cls mX10_isStore.2.1 mX10_isStore.2.2.1) (hr : meth.sig.returnType = mX10_isStore.2.2.2) (hlk : meth.locks = false) : zLk (zG p l e (zrm d) s m args below meth c E mX10_isStore.2.2.1 0 0 (MQ below (zQc E Q) args s 0 0 (zaA E))) 9 (b_X10_isStore_9 d (zG p l e (zrm d) s m args below meth c E mX10_isStore.2.2.1 0 0 (MQ below (zQc E Q) args s 0 0 (zaA E))) Q) := by
  unfold b_X10_isStore_9
  exact lk_c B dX10_isStore_9 (lk_goto B dX10_isStore_10 (by decide) (k_X10_isStore_14 B hr hlk))
set_option maxRecDepth 20000 in
theorem k_X10_isStore_4 {p : Program} {l : Launch} {e : Env} {s : State} {m : MethodId} {args : Array Value} {below : List Frame} {meth : Method} {c : Code} {E : zE} {d : Nat} {Q : zQ} (B : zB p s m args c E mX10_isStore.1.cls mX10_isStore.2.1 mX10_isStore.2.2.1) (hr : meth.sig.returnType = mX10_isStore.2.2.2) (hlk : meth.locks = false) : zLk (zG p l e (zrm d) s m args below meth c E mX10_isStore.2.2.1 0 0 (MQ below (zQc E Q) args s 0 0 (zaA E))) 4 (b_X10_isStore_4 d (zG p l e (zrm d) s m args below meth c E mX10_isStore.2.2.1 0 0 (MQ below (zQc E Q) args s 0 0 (zaA E))) Q) := by
  unfold b_X10_isStore_4
  exact lk_iln B dX10_isStore_4 rfl (lk_c B dX10_isStore_5 (lk_ige B dX10_isStore_6 (by decide) (k_X10_isStore_13 B hr hlk) (k_X10_isStore_9 B hr hlk)))
set_option maxRecDepth 20000 in
theorem k_X10_isStore_0 {p : Program} {l : Launch} {e : Env} {s : State} {m : MethodId} {args : Array Value} {below : List Frame} {meth : Method} {c : Code} {E : zE} {d : Nat} {Q : zQ} (B : zB p s m args c E mX10_isStore.1.cls mX10_isStore.2.1 mX10_isStore.2.2.1) (hr : meth.sig.returnType = mX10_isStore.2.2.2) (hlk : meth.locks = false) : zLk (zG p l e (zrm d) s m args below meth c E mX10_isStore.2.2.1 0 0 (MQ below (zQc E Q) args s 0 0 (zaA E))) 0 (b_X10_isStore_0 d (zG p l e (zrm d) s m args below meth c E mX10_isStore.2.2.1 0 0 (MQ below (zQc E Q) args s 0 0 (zaA E))) Q) := by
  unfold b_X10_isStore_0
  exact lk_iln B dX10_isStore_0 rfl (lk_zlt B dX10_isStore_1 (by decide) (k_X10_isStore_13 B hr hlk) (k_X10_isStore_4 B hr hlk))
def S_X10_isStore (d : Nat) (G : Nat → zK) (Q : zQ) : Prop := zLk G 0 (b_X10_isStore_0 d G Q)
theorem s_X10_isStore_0 {d : Nat} {G : Nat → zK} {Q : zQ} (h : S_X10_isStore d G Q) {ls st : List zV} {μ : zM} (k : b_X10_isStore_0 d G Q ls st μ) : G 0 ls st μ := h ls st μ k
theorem of_X10_isStore {d : Nat} {a0 : zV} {μ : zM} {Q : zQ} (h : ∀ G : Nat → zK, S_X10_isStore d G Q → G 0 [a0] [] μ) : zCt d mX10_isStore [a0] μ Q := zCt.mk (by decide) (Nat.le_of_ble_eq_true rfl) (fun p l e s m args below meth c E B hr hlk => h _ (k_X10_isStore_0 B hr hlk))
theorem dX10_isName_0 : decode cX10_isName 0 = .ok (.iload_n 0, 1) := by decide +kernel
theorem dX10_isName_1 : decode cX10_isName 1 = .ok (.ifCond .lt 13, 3) := by decide +kernel
theorem dX10_isName_4 : decode cX10_isName 4 = .ok (.iload_n 0, 1) := by decide +kernel
theorem dX10_isName_5 : decode cX10_isName 5 = .ok (.ldc 209, 2) := by decide +kernel
theorem dX10_isName_7 : decode cX10_isName 7 = .ok (.if_icmp .ge 7, 3) := by decide +kernel
theorem dX10_isName_10 : decode cX10_isName 10 = .ok (.iconst 1, 1) := by decide +kernel
theorem dX10_isName_11 : decode cX10_isName 11 = .ok (.goto 4, 3) := by decide +kernel
theorem dX10_isName_14 : decode cX10_isName 14 = .ok (.iconst 0, 1) := by decide +kernel
theorem dX10_isName_15 : decode cX10_isName 15 = .ok (.ireturn, 1) := by decide +kernel
def b_X10_isName_15 (d : Nat) (G : Nat → zK) (Q : zQ) : zK := t_zret Q
def b_X10_isName_14 (d : Nat) (G : Nat → zK) (Q : zQ) : zK := o_c 0 <| b_X10_isName_15 d G Q
def b_X10_isName_10 (d : Nat) (G : Nat → zK) (Q : zQ) : zK := o_c 1 <| b_X10_isName_15 d G Q
def b_X10_isName_4 (d : Nat) (G : Nat → zK) (Q : zQ) : zK := o_il 0 <| o_c 65521 <| t_ilt (b_X10_isName_10 d G Q) (b_X10_isName_14 d G Q)
def b_X10_isName_0 (d : Nat) (G : Nat → zK) (Q : zQ) : zK := o_il 0 <| t_zlt (b_X10_isName_14 d G Q) (b_X10_isName_4 d G Q)
set_option maxRecDepth 20000 in
theorem k_X10_isName_15 {p : Program} {l : Launch} {e : Env} {s : State} {m : MethodId} {args : Array Value} {below : List Frame} {meth : Method} {c : Code} {E : zE} {d : Nat} {Q : zQ} (B : zB p s m args c E mX10_isName.1.cls mX10_isName.2.1 mX10_isName.2.2.1) (hr : meth.sig.returnType = mX10_isName.2.2.2) (hlk : meth.locks = false) : zLk (zG p l e (zrm d) s m args below meth c E mX10_isName.2.2.1 0 0 (MQ below (zQc E Q) args s 0 0 (zaA E))) 15 (b_X10_isName_15 d (zG p l e (zrm d) s m args below meth c E mX10_isName.2.2.1 0 0 (MQ below (zQc E Q) args s 0 0 (zaA E))) Q) := by
  unfold b_X10_isName_15
  exact lk_zret B hr hlk dX10_isName_15
set_option maxRecDepth 20000 in
theorem k_X10_isName_14 {p : Program} {l : Launch} {e : Env} {s : State} {m : MethodId} {args : Array Value} {below : List Frame} {meth : Method} {c : Code} {E : zE} {d : Nat} {Q : zQ} (B : zB p s m args c E mX10_isName.1.cls mX10_isName.2.1 mX10_isName.2.2.1) (hr : meth.sig.returnType = mX10_isName.2.2.2) (hlk : meth.locks = false) : zLk (zG p l e (zrm d) s m args below meth c E mX10_isName.2.2.1 0 0 (MQ below (zQc E Q) args s 0 0 (zaA E))) 14 (b_X10_isName_14 d (zG p l e (zrm d) s m args below meth c E mX10_isName.2.2.1 0 0 (MQ below (zQc E Q) args s 0 0 (zaA E))) Q) := by
  unfold b_X10_isName_14
  exact lk_c B dX10_isName_14 (k_X10_isName_15 B hr hlk)
set_option maxRecDepth 20000 in
theorem k_X10_isName_10 {p : Program} {l : Launch} {e : Env} {s : State} {m : MethodId} {args : Array Value} {below : List Frame} {meth : Method} {c : Code} {E : zE} {d : Nat} {Q : zQ} (B : zB p s m args c E mX10_isName.1.cls mX10_isName.2.1 mX10_isName.2.2.1) (hr : meth.sig.returnType = mX10_isName.2.2.2) (hlk : meth.locks = false) : zLk (zG p l e (zrm d) s m args below meth c E mX10_isName.2.2.1 0 0 (MQ below (zQc E Q) args s 0 0 (zaA E))) 10 (b_X10_isName_10 d (zG p l e (zrm d) s m args below meth c E mX10_isName.2.2.1 0 0 (MQ below (zQc E Q) args s 0 0 (zaA E))) Q) := by
  unfold b_X10_isName_10
  exact lk_c B dX10_isName_10 (lk_goto B dX10_isName_11 (by decide) (k_X10_isName_15 B hr hlk))
set_option maxRecDepth 20000 in
theorem k_X10_isName_4 {p : Program} {l : Launch} {e : Env} {s : State} {m : MethodId} {args : Array Value} {below : List Frame} {meth : Method} {c : Code} {E : zE} {d : Nat} {Q : zQ} (B : zB p s m args c E mX10_isName.1.cls mX10_isName.2.1 mX10_isName.2.2.1) (hr : meth.sig.returnType = mX10_isName.2.2.2) (hlk : meth.locks = false) : zLk (zG p l e (zrm d) s m args below meth c E mX10_isName.2.2.1 0 0 (MQ below (zQc E Q) args s 0 0 (zaA E))) 4 (b_X10_isName_4 d (zG p l e (zrm d) s m args below meth c E mX10_isName.2.2.1 0 0 (MQ below (zQc E Q) args s 0 0 (zaA E))) Q) := by
  unfold b_X10_isName_4
  exact lk_iln B dX10_isName_4 rfl (lk_ldc B zw_282 rfl dX10_isName_5 (lk_ige B dX10_isName_7 (by decide) (k_X10_isName_14 B hr hlk) (k_X10_isName_10 B hr hlk)))
set_option maxRecDepth 20000 in
theorem k_X10_isName_0 {p : Program} {l : Launch} {e : Env} {s : State} {m : MethodId} {args : Array Value} {below : List Frame} {meth : Method} {c : Code} {E : zE} {d : Nat} {Q : zQ} (B : zB p s m args c E mX10_isName.1.cls mX10_isName.2.1 mX10_isName.2.2.1) (hr : meth.sig.returnType = mX10_isName.2.2.2) (hlk : meth.locks = false) : zLk (zG p l e (zrm d) s m args below meth c E mX10_isName.2.2.1 0 0 (MQ below (zQc E Q) args s 0 0 (zaA E))) 0 (b_X10_isName_0 d (zG p l e (zrm d) s m args below meth c E mX10_isName.2.2.1 0 0 (MQ below (zQc E Q) args s 0 0 (zaA E))) Q) := by
  unfold b_X10_isName_0
  exact lk_iln B dX10_isName_0 rfl (lk_zlt B dX10_isName_1 (by decide) (k_X10_isName_14 B hr hlk) (k_X10_isName_4 B hr hlk))
def S_X10_isName (d : Nat) (G : Nat → zK) (Q : zQ) : Prop := zLk G 0 (b_X10_isName_0 d G Q)
theorem s_X10_isName_0 {d : Nat} {G : Nat → zK} {Q : zQ} (h : S_X10_isName d G Q) {ls st : List zV} {μ : zM} (k : b_X10_isName_0 d G Q ls st μ) : G 0 ls st μ := h ls st μ k
theorem of_X10_isName {d : Nat} {a0 : zV} {μ : zM} {Q : zQ} (h : ∀ G : Nat → zK, S_X10_isName d G Q → G 0 [a0] [] μ) : zCt d mX10_isName [a0] μ Q := zCt.mk (by decide) (Nat.le_of_ble_eq_true rfl) (fun p l e s m args below meth c E B hr hlk => h _ (k_X10_isName_0 B hr hlk))
theorem dX10_nameOf_0 : decode cX10_nameOf 0 = .ok (.ldc 210, 2) := by decide +kernel
theorem dX10_nameOf_2 : decode cX10_nameOf 2 = .ok (.istore_n 3, 1) := by decide +kernel
theorem dX10_nameOf_3 : decode cX10_nameOf 3 = .ok (.iload_n 1, 1) := by decide +kernel
theorem dX10_nameOf_4 : decode cX10_nameOf 4 = .ok (.istore 4, 2) := by decide +kernel
theorem dX10_nameOf_6 : decode cX10_nameOf 6 = .ok (.iload 4, 2) := by decide +kernel
theorem dX10_nameOf_8 : decode cX10_nameOf 8 = .ok (.iload_n 1, 1) := by decide +kernel
theorem dX10_nameOf_9 : decode cX10_nameOf 9 = .ok (.iload_n 2, 1) := by decide +kernel
theorem dX10_nameOf_10 : decode cX10_nameOf 10 = .ok (.iadd, 1) := by decide +kernel
theorem dX10_nameOf_11 : decode cX10_nameOf 11 = .ok (.if_icmp .ge 25, 3) := by decide +kernel
theorem dX10_nameOf_14 : decode cX10_nameOf 14 = .ok (.sipush 263, 3) := by decide +kernel
theorem dX10_nameOf_17 : decode cX10_nameOf 17 = .ok (.iload_n 3, 1) := by decide +kernel
theorem dX10_nameOf_18 : decode cX10_nameOf 18 = .ok (.imul, 1) := by decide +kernel
theorem dX10_nameOf_19 : decode cX10_nameOf 19 = .ok (.aload_n 0, 1) := by decide +kernel
theorem dX10_nameOf_20 : decode cX10_nameOf 20 = .ok (.iload 4, 2) := by decide +kernel
theorem dX10_nameOf_22 : decode cX10_nameOf 22 = .ok (.iaload, 1) := by decide +kernel
theorem dX10_nameOf_23 : decode cX10_nameOf 23 = .ok (.iadd, 1) := by decide +kernel
theorem dX10_nameOf_24 : decode cX10_nameOf 24 = .ok (.iconst 1, 1) := by decide +kernel
theorem dX10_nameOf_25 : decode cX10_nameOf 25 = .ok (.iadd, 1) := by decide +kernel
theorem dX10_nameOf_26 : decode cX10_nameOf 26 = .ok (.ldc 209, 2) := by decide +kernel
theorem dX10_nameOf_28 : decode cX10_nameOf 28 = .ok (.irem, 1) := by decide +kernel
theorem dX10_nameOf_29 : decode cX10_nameOf 29 = .ok (.istore_n 3, 1) := by decide +kernel
theorem dX10_nameOf_30 : decode cX10_nameOf 30 = .ok (.iinc 4 1, 3) := by decide +kernel
theorem dX10_nameOf_33 : decode cX10_nameOf 33 = .ok (.goto (-27), 3) := by decide +kernel
theorem dX10_nameOf_36 : decode cX10_nameOf 36 = .ok (.iload_n 3, 1) := by decide +kernel
theorem dX10_nameOf_37 : decode cX10_nameOf 37 = .ok (.ireturn, 1) := by decide +kernel
def b_X10_nameOf_0 (d : Nat) (G : Nat → zK) (Q : zQ) : zK := o_c 40503 <| o_is 3 <| o_il 1 <| o_is 4 <| G 6
def b_X10_nameOf_36 (d : Nat) (G : Nat → zK) (Q : zQ) : zK := o_il 3 <| t_iret Q
def b_X10_nameOf_14 (d : Nat) (G : Nat → zK) (Q : zQ) : zK := o_c 263 <| o_il 3 <| o_mul <| o_al 0 <| o_il 4 <| o_iald <| o_add <| o_c 1 <| o_add <| o_c 65521 <| o_rem <| o_is 3 <| o_inc 4 1 <| G 6
def b_X10_nameOf_6 (d : Nat) (G : Nat → zK) (Q : zQ) : zK := o_il 4 <| o_il 1 <| o_il 2 <| o_add <| t_ilt (b_X10_nameOf_14 d G Q) (b_X10_nameOf_36 d G Q)
set_option maxRecDepth 20000 in
theorem k_X10_nameOf_0 {p : Program} {l : Launch} {e : Env} {s : State} {m : MethodId} {args : Array Value} {below : List Frame} {meth : Method} {c : Code} {E : zE} {d : Nat} {Q : zQ} (B : zB p s m args c E mX10_nameOf.1.cls mX10_nameOf.2.1 mX10_nameOf.2.2.1) (hr : meth.sig.returnType = mX10_nameOf.2.2.2) (hlk : meth.locks = false) : zLk (zG p l e (zrm d) s m args below meth c E mX10_nameOf.2.2.1 0 0 (MQ below (zQc E Q) args s 0 0 (zaA E))) 0 (b_X10_nameOf_0 d (zG p l e (zrm d) s m args below meth c E mX10_nameOf.2.2.1 0 0 (MQ below (zQc E Q) args s 0 0 (zaA E))) Q) := by
  unfold b_X10_nameOf_0
  exact lk_ldc B zw_281 rfl dX10_nameOf_0 (lk_isn B dX10_nameOf_2 rfl (by decide) (lk_iln B dX10_nameOf_3 rfl (lk_is B dX10_nameOf_4 (by decide) (fun _ _ _ h => h))))
set_option maxRecDepth 20000 in
theorem k_X10_nameOf_36 {p : Program} {l : Launch} {e : Env} {s : State} {m : MethodId} {args : Array Value} {below : List Frame} {meth : Method} {c : Code} {E : zE} {d : Nat} {Q : zQ} (B : zB p s m args c E mX10_nameOf.1.cls mX10_nameOf.2.1 mX10_nameOf.2.2.1) (hr : meth.sig.returnType = mX10_nameOf.2.2.2) (hlk : meth.locks = false) : zLk (zG p l e (zrm d) s m args below meth c E mX10_nameOf.2.2.1 0 0 (MQ below (zQc E Q) args s 0 0 (zaA E))) 36 (b_X10_nameOf_36 d (zG p l e (zrm d) s m args below meth c E mX10_nameOf.2.2.1 0 0 (MQ below (zQc E Q) args s 0 0 (zaA E))) Q) := by
  unfold b_X10_nameOf_36
  exact lk_iln B dX10_nameOf_36 rfl (lk_iret B hr hlk dX10_nameOf_37)
set_option maxRecDepth 20000 in
theorem k_X10_nameOf_14 {p : Program} {l : Launch} {e : Env} {s : State} {m : MethodId} {args : Array Value} {below : List Frame} {meth : Method} {c : Code} {E : zE} {d : Nat} {Q : zQ} (B : zB p s m args c E mX10_nameOf.1.cls mX10_nameOf.2.1 mX10_nameOf.2.2.1) (hr : meth.sig.returnType = mX10_nameOf.2.2.2) (hlk : meth.locks = false) : zLk (zG p l e (zrm d) s m args below meth c E mX10_nameOf.2.2.1 0 0 (MQ below (zQc E Q) args s 0 0 (zaA E))) 14 (b_X10_nameOf_14 d (zG p l e (zrm d) s m args below meth c E mX10_nameOf.2.2.1 0 0 (MQ below (zQc E Q) args s 0 0 (zaA E))) Q) := by
  unfold b_X10_nameOf_14
  exact lk_s B dX10_nameOf_14 rfl (lk_iln B dX10_nameOf_17 rfl (lk_mul B dX10_nameOf_18 (lk_aln B dX10_nameOf_19 rfl (lk_il B dX10_nameOf_20 (lk_iald B dX10_nameOf_22 (lk_add B dX10_nameOf_23 (lk_c B dX10_nameOf_24 (lk_add B dX10_nameOf_25 (lk_ldc B zw_282 rfl dX10_nameOf_26 (lk_rem B dX10_nameOf_28 (lk_isn B dX10_nameOf_29 rfl (by decide) (lk_inc B dX10_nameOf_30 (by decide) (lk_goto B dX10_nameOf_33 (by decide) (fun _ _ _ h => h))))))))))))))
set_option maxRecDepth 20000 in
theorem k_X10_nameOf_6 {p : Program} {l : Launch} {e : Env} {s : State} {m : MethodId} {args : Array Value} {below : List Frame} {meth : Method} {c : Code} {E : zE} {d : Nat} {Q : zQ} (B : zB p s m args c E mX10_nameOf.1.cls mX10_nameOf.2.1 mX10_nameOf.2.2.1) (hr : meth.sig.returnType = mX10_nameOf.2.2.2) (hlk : meth.locks = false) : zLk (zG p l e (zrm d) s m args below meth c E mX10_nameOf.2.2.1 0 0 (MQ below (zQc E Q) args s 0 0 (zaA E))) 6 (b_X10_nameOf_6 d (zG p l e (zrm d) s m args below meth c E mX10_nameOf.2.2.1 0 0 (MQ below (zQc E Q) args s 0 0 (zaA E))) Q) := by
  unfold b_X10_nameOf_6
  exact lk_il B dX10_nameOf_6 (lk_iln B dX10_nameOf_8 rfl (lk_iln B dX10_nameOf_9 rfl (lk_add B dX10_nameOf_10 (lk_ige B dX10_nameOf_11 (by decide) (k_X10_nameOf_36 B hr hlk) (k_X10_nameOf_14 B hr hlk)))))
def S_X10_nameOf (d : Nat) (G : Nat → zK) (Q : zQ) : Prop := zLk G 0 (b_X10_nameOf_0 d G Q) ∧ zLk G 6 (b_X10_nameOf_6 d G Q)
theorem s_X10_nameOf_0 {d : Nat} {G : Nat → zK} {Q : zQ} (h : S_X10_nameOf d G Q) {ls st : List zV} {μ : zM} (k : b_X10_nameOf_0 d G Q ls st μ) : G 0 ls st μ := h.1 ls st μ k
theorem s_X10_nameOf_6 {d : Nat} {G : Nat → zK} {Q : zQ} (h : S_X10_nameOf d G Q) {ls st : List zV} {μ : zM} (k : b_X10_nameOf_6 d G Q ls st μ) : G 6 ls st μ := h.2 ls st μ k
theorem of_X10_nameOf {d : Nat} {a0 a1 a2 : zV} {μ : zM} {Q : zQ} (h : ∀ G : Nat → zK, S_X10_nameOf d G Q → G 0 [a0, a1, a2, .inr none, .inr none] [] μ) : zCt d mX10_nameOf [a0, a1, a2] μ Q := zCt.mk (by decide) (Nat.le_of_ble_eq_true rfl) (fun p l e s m args below meth c E B hr hlk => h _ ⟨k_X10_nameOf_0 B hr hlk, k_X10_nameOf_6 B hr hlk⟩)
