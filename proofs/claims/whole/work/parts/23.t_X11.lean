theorem dX11_isStore_0 : decode cX11_isStore 0 = .ok (.iload_n 0, 1) := by decide +kernel
theorem dX11_isStore_1 : decode cX11_isStore 1 = .ok (.ifCond .lt 12, 3) := by decide +kernel
theorem dX11_isStore_4 : decode cX11_isStore 4 = .ok (.iload_n 0, 1) := by decide +kernel
theorem dX11_isStore_5 : decode cX11_isStore 5 = .ok (.iconst 2, 1) := by decide +kernel
theorem dX11_isStore_6 : decode cX11_isStore 6 = .ok (.if_icmp .gt 7, 3) := by decide +kernel
theorem dX11_isStore_9 : decode cX11_isStore 9 = .ok (.iconst 1, 1) := by decide +kernel
theorem dX11_isStore_10 : decode cX11_isStore 10 = .ok (.goto 4, 3) := by decide +kernel
theorem dX11_isStore_13 : decode cX11_isStore 13 = .ok (.iconst 0, 1) := by decide +kernel
theorem dX11_isStore_14 : decode cX11_isStore 14 = .ok (.ireturn, 1) := by decide +kernel
def b_X11_isStore_14 (d : Nat) (G : Nat → zK) (Q : zQ) : zK := t_zret Q
def b_X11_isStore_13 (d : Nat) (G : Nat → zK) (Q : zQ) : zK := o_c 0 <| b_X11_isStore_14 d G Q
def b_X11_isStore_9 (d : Nat) (G : Nat → zK) (Q : zQ) : zK := o_c 1 <| b_X11_isStore_14 d G Q
def b_X11_isStore_4 (d : Nat) (G : Nat → zK) (Q : zQ) : zK := o_il 0 <| o_c 2 <| t_igt (b_X11_isStore_13 d G Q) (b_X11_isStore_9 d G Q)
def b_X11_isStore_0 (d : Nat) (G : Nat → zK) (Q : zQ) : zK := o_il 0 <| t_zlt (b_X11_isStore_13 d G Q) (b_X11_isStore_4 d G Q)
set_option maxRecDepth 20000 in
theorem k_X11_isStore_14 {p : Program} {l : Launch} {e : Env} {s : State} {m : MethodId} {args : Array Value} {below : List Frame} {meth : Method} {c : Code} {E : zE} {d : Nat} {Q : zQ} (B : zB p s m args c E mX11_isStore.1.cls mX11_isStore.2.1 mX11_isStore.2.2.1) (hr : meth.sig.returnType = mX11_isStore.2.2.2) (hlk : meth.locks = false) : zLk (zG p l e (zrm d) s m args below meth c E mX11_isStore.2.2.1 0 0 (MQ below (zQc E Q) args s 0 0 (zaA E))) 14 (b_X11_isStore_14 d (zG p l e (zrm d) s m args below meth c E mX11_isStore.2.2.1 0 0 (MQ below (zQc E Q) args s 0 0 (zaA E))) Q) := by
  unfold b_X11_isStore_14
  exact lk_zret B hr hlk dX11_isStore_14
set_option maxRecDepth 20000 in
theorem k_X11_isStore_13 {p : Program} {l : Launch} {e : Env} {s : State} {m : MethodId} {args : Array Value} {below : List Frame} {meth : Method} {c : Code} {E : zE} {d : Nat} {Q : zQ} (B : zB p s m args c E mX11_isStore.1.cls mX11_isStore.2.1 mX11_isStore.2.2.1) (hr : meth.sig.returnType = mX11_isStore.2.2.2) (hlk : meth.locks = false) : zLk (zG p l e (zrm d) s m args below meth c E mX11_isStore.2.2.1 0 0 (MQ below (zQc E Q) args s 0 0 (zaA E))) 13 (b_X11_isStore_13 d (zG p l e (zrm d) s m args below meth c E mX11_isStore.2.2.1 0 0 (MQ below (zQc E Q) args s 0 0 (zaA E))) Q) := by
  unfold b_X11_isStore_13
  exact lk_c B dX11_isStore_13 (k_X11_isStore_14 B hr hlk)
set_option maxRecDepth 20000 in
theorem k_X11_isStore_9 {p : Program} {l : Launch} {e : Env} {s : State} {m : MethodId} {args : Array Value} {below : List Frame} {meth : Method} {c : Code} {E : zE} {d : Nat} {Q : zQ} (B : zB p s m args c E mX11_isStore.1.cls mX11_isStore.2.1 mX11_isStore.2.2.1) (hr : meth.sig.returnType = mX11_isStore.2.2.2) (hlk : meth.locks = false) : zLk (zG p l e (zrm d) s m args below meth c E mX11_isStore.2.2.1 0 0 (MQ below (zQc E Q) args s 0 0 (zaA E))) 9 (b_X11_isStore_9 d (zG p l e (zrm d) s m args below meth c E mX11_isStore.2.2.1 0 0 (MQ below (zQc E Q) args s 0 0 (zaA E))) Q) := by
  unfold b_X11_isStore_9
  exact lk_c B dX11_isStore_9 (lk_goto B dX11_isStore_10 (by decide) (k_X11_isStore_14 B hr hlk))
set_option maxRecDepth 20000 in
theorem k_X11_isStore_4 {p : Program} {l : Launch} {e : Env} {s : State} {m : MethodId} {args : Array Value} {below : List Frame} {meth : Method} {c : Code} {E : zE} {d : Nat} {Q : zQ} (B : zB p s m args c E mX11_isStore.1.cls mX11_isStore.2.1 mX11_isStore.2.2.1) (hr : meth.sig.returnType = mX11_isStore.2.2.2) (hlk : meth.locks = false) : zLk (zG p l e (zrm d) s m args below meth c E mX11_isStore.2.2.1 0 0 (MQ below (zQc E Q) args s 0 0 (zaA E))) 4 (b_X11_isStore_4 d (zG p l e (zrm d) s m args below meth c E mX11_isStore.2.2.1 0 0 (MQ below (zQc E Q) args s 0 0 (zaA E))) Q) := by
  unfold b_X11_isStore_4
  exact lk_iln B dX11_isStore_4 rfl (lk_c B dX11_isStore_5 (lk_igt B dX11_isStore_6 (by decide) (k_X11_isStore_13 B hr hlk) (k_X11_isStore_9 B hr hlk)))
set_option maxRecDepth 20000 in
theorem k_X11_isStore_0 {p : Program} {l : Launch} {e : Env} {s : State} {m : MethodId} {args : Array Value} {below : List Frame} {meth : Method} {c : Code} {E : zE} {d : Nat} {Q : zQ} (B : zB p s m args c E mX11_isStore.1.cls mX11_isStore.2.1 mX11_isStore.2.2.1) (hr : meth.sig.returnType = mX11_isStore.2.2.2) (hlk : meth.locks = false) : zLk (zG p l e (zrm d) s m args below meth c E mX11_isStore.2.2.1 0 0 (MQ below (zQc E Q) args s 0 0 (zaA E))) 0 (b_X11_isStore_0 d (zG p l e (zrm d) s m args below meth c E mX11_isStore.2.2.1 0 0 (MQ below (zQc E Q) args s 0 0 (zaA E))) Q) := by
  unfold b_X11_isStore_0
  exact lk_iln B dX11_isStore_0 rfl (lk_zlt B dX11_isStore_1 (by decide) (k_X11_isStore_13 B hr hlk) (k_X11_isStore_4 B hr hlk))
def S_X11_isStore (d : Nat) (G : Nat → zK) (Q : zQ) : Prop := zLk G 0 (b_X11_isStore_0 d G Q)
theorem s_X11_isStore_0 {d : Nat} {G : Nat → zK} {Q : zQ} (h : S_X11_isStore d G Q) {ls st : List zV} {μ : zM} (k : b_X11_isStore_0 d G Q ls st μ) : G 0 ls st μ := h ls st μ k
theorem of_X11_isStore {d : Nat} {a0 : zV} {μ : zM} {Q : zQ} (h : ∀ G : Nat → zK, S_X11_isStore d G Q → G 0 [a0] [] μ) : zCt d mX11_isStore [a0] μ Q := zCt.mk (by decide) (Nat.le_of_ble_eq_true rfl) (fun p l e s m args below meth c E B hr hlk => h _ (k_X11_isStore_0 B hr hlk))
theorem dX11_type_0 : decode cX11_type 0 = .ok (.iload_n 1, 1) := by decide +kernel
theorem dX11_type_1 : decode cX11_type 1 = .ok (.ifCond .lt 19, 3) := by decide +kernel
theorem dX11_type_4 : decode cX11_type 4 = .ok (.iload_n 1, 1) := by decide +kernel
theorem dX11_type_5 : decode cX11_type 5 = .ok (.sipush 255, 3) := by decide +kernel
theorem dX11_type_8 : decode cX11_type 8 = .ok (.if_icmp .gt 12, 3) := by decide +kernel
theorem dX11_type_11 : decode cX11_type 11 = .ok (.aload_n 0, 1) := by decide +kernel
theorem dX11_type_12 : decode cX11_type 12 = .ok (.getfield 104, 3) := by decide +kernel
theorem dX11_type_15 : decode cX11_type 15 = .ok (.bipush 32, 2) := by decide +kernel
theorem dX11_type_17 : decode cX11_type 17 = .ok (.if_icmp .ne 5, 3) := by decide +kernel
theorem dX11_type_20 : decode cX11_type 20 = .ok (.iconst 0, 1) := by decide +kernel
theorem dX11_type_21 : decode cX11_type 21 = .ok (.ireturn, 1) := by decide +kernel
theorem dX11_type_22 : decode cX11_type 22 = .ok (.aload_n 0, 1) := by decide +kernel
theorem dX11_type_23 : decode cX11_type 23 = .ok (.getfield 62, 3) := by decide +kernel
theorem dX11_type_26 : decode cX11_type 26 = .ok (.aload_n 0, 1) := by decide +kernel
theorem dX11_type_27 : decode cX11_type 27 = .ok (.getfield 104, 3) := by decide +kernel
theorem dX11_type_30 : decode cX11_type 30 = .ok (.iload_n 1, 1) := by decide +kernel
theorem dX11_type_31 : decode cX11_type 31 = .ok (.iastore, 1) := by decide +kernel
theorem dX11_type_32 : decode cX11_type 32 = .ok (.aload_n 0, 1) := by decide +kernel
theorem dX11_type_33 : decode cX11_type 33 = .ok (.dup, 1) := by decide +kernel
theorem dX11_type_34 : decode cX11_type 34 = .ok (.getfield 104, 3) := by decide +kernel
theorem dX11_type_37 : decode cX11_type 37 = .ok (.iconst 1, 1) := by decide +kernel
theorem dX11_type_38 : decode cX11_type 38 = .ok (.iadd, 1) := by decide +kernel
theorem dX11_type_39 : decode cX11_type 39 = .ok (.putfield 104, 3) := by decide +kernel
theorem dX11_type_42 : decode cX11_type 42 = .ok (.iconst 1, 1) := by decide +kernel
theorem dX11_type_43 : decode cX11_type 43 = .ok (.ireturn, 1) := by decide +kernel
def b_X11_type_20 (d : Nat) (G : Nat → zK) (Q : zQ) : zK := o_c 0 <| t_zret Q
def b_X11_type_22 (d : Nat) (G : Nat → zK) (Q : zQ) : zK := o_al 0 <| o_gf 9 19 <| o_al 0 <| o_gf 9 18 <| o_il 1 <| o_iast <| o_al 0 <| o_dup <| o_gf 9 18 <| o_c 1 <| o_add <| o_pf 9 18 <| o_c 1 <| t_zret Q
def b_X11_type_11 (d : Nat) (G : Nat → zK) (Q : zQ) : zK := o_al 0 <| o_gf 9 18 <| o_c 32 <| t_ieq (b_X11_type_20 d G Q) (b_X11_type_22 d G Q)
def b_X11_type_4 (d : Nat) (G : Nat → zK) (Q : zQ) : zK := o_il 1 <| o_c 255 <| t_igt (b_X11_type_20 d G Q) (b_X11_type_11 d G Q)
def b_X11_type_0 (d : Nat) (G : Nat → zK) (Q : zQ) : zK := o_il 1 <| t_zlt (b_X11_type_20 d G Q) (b_X11_type_4 d G Q)
set_option maxRecDepth 20000 in
theorem k_X11_type_20 {p : Program} {l : Launch} {e : Env} {s : State} {m : MethodId} {args : Array Value} {below : List Frame} {meth : Method} {c : Code} {E : zE} {d : Nat} {Q : zQ} (B : zB p s m args c E mX11_type.1.cls mX11_type.2.1 mX11_type.2.2.1) (hr : meth.sig.returnType = mX11_type.2.2.2) (hlk : meth.locks = false) : zLk (zG p l e (zrm d) s m args below meth c E mX11_type.2.2.1 0 0 (MQ below (zQc E Q) args s 0 0 (zaA E))) 20 (b_X11_type_20 d (zG p l e (zrm d) s m args below meth c E mX11_type.2.2.1 0 0 (MQ below (zQc E Q) args s 0 0 (zaA E))) Q) := by
  unfold b_X11_type_20
  exact lk_c B dX11_type_20 (lk_zret B hr hlk dX11_type_21)
set_option maxRecDepth 20000 in
theorem k_X11_type_22 {p : Program} {l : Launch} {e : Env} {s : State} {m : MethodId} {args : Array Value} {below : List Frame} {meth : Method} {c : Code} {E : zE} {d : Nat} {Q : zQ} (B : zB p s m args c E mX11_type.1.cls mX11_type.2.1 mX11_type.2.2.1) (hr : meth.sig.returnType = mX11_type.2.2.2) (hlk : meth.locks = false) : zLk (zG p l e (zrm d) s m args below meth c E mX11_type.2.2.1 0 0 (MQ below (zQc E Q) args s 0 0 (zaA E))) 22 (b_X11_type_22 d (zG p l e (zrm d) s m args below meth c E mX11_type.2.2.1 0 0 (MQ below (zQc E Q) args s 0 0 (zaA E))) Q) := by
  unfold b_X11_type_22
  exact lk_aln B dX11_type_22 rfl (lk_gf (T := TX11) B cl_X11 (by decide) in_X11 zw_807 dX11_type_23 (lk_aln B dX11_type_26 rfl (lk_gf (T := TX11) B cl_X11 (by decide) in_X11 zw_806 dX11_type_27 (lk_iln B dX11_type_30 rfl (lk_iast B dX11_type_31 (lk_aln B dX11_type_32 rfl (lk_dup B dX11_type_33 (lk_gf (T := TX11) B cl_X11 (by decide) in_X11 zw_806 dX11_type_34 (lk_c B dX11_type_37 (lk_add B dX11_type_38 (lk_pf (T := TX11) B cl_X11 (by decide) in_X11 tyX11_ok nmX11 zw_806 rfl (by decide +kernel) dX11_type_39 (lk_c B dX11_type_42 (lk_zret B hr hlk dX11_type_43)))))))))))))
set_option maxRecDepth 20000 in
theorem k_X11_type_11 {p : Program} {l : Launch} {e : Env} {s : State} {m : MethodId} {args : Array Value} {below : List Frame} {meth : Method} {c : Code} {E : zE} {d : Nat} {Q : zQ} (B : zB p s m args c E mX11_type.1.cls mX11_type.2.1 mX11_type.2.2.1) (hr : meth.sig.returnType = mX11_type.2.2.2) (hlk : meth.locks = false) : zLk (zG p l e (zrm d) s m args below meth c E mX11_type.2.2.1 0 0 (MQ below (zQc E Q) args s 0 0 (zaA E))) 11 (b_X11_type_11 d (zG p l e (zrm d) s m args below meth c E mX11_type.2.2.1 0 0 (MQ below (zQc E Q) args s 0 0 (zaA E))) Q) := by
  unfold b_X11_type_11
  exact lk_aln B dX11_type_11 rfl (lk_gf (T := TX11) B cl_X11 (by decide) in_X11 zw_806 dX11_type_12 (lk_b B dX11_type_15 rfl (lk_ine B dX11_type_17 (by decide) (k_X11_type_22 B hr hlk) (k_X11_type_20 B hr hlk))))
set_option maxRecDepth 20000 in
theorem k_X11_type_4 {p : Program} {l : Launch} {e : Env} {s : State} {m : MethodId} {args : Array Value} {below : List Frame} {meth : Method} {c : Code} {E : zE} {d : Nat} {Q : zQ} (B : zB p s m args c E mX11_type.1.cls mX11_type.2.1 mX11_type.2.2.1) (hr : meth.sig.returnType = mX11_type.2.2.2) (hlk : meth.locks = false) : zLk (zG p l e (zrm d) s m args below meth c E mX11_type.2.2.1 0 0 (MQ below (zQc E Q) args s 0 0 (zaA E))) 4 (b_X11_type_4 d (zG p l e (zrm d) s m args below meth c E mX11_type.2.2.1 0 0 (MQ below (zQc E Q) args s 0 0 (zaA E))) Q) := by
  unfold b_X11_type_4
  exact lk_iln B dX11_type_4 rfl (lk_s B dX11_type_5 rfl (lk_igt B dX11_type_8 (by decide) (k_X11_type_20 B hr hlk) (k_X11_type_11 B hr hlk)))
set_option maxRecDepth 20000 in
theorem k_X11_type_0 {p : Program} {l : Launch} {e : Env} {s : State} {m : MethodId} {args : Array Value} {below : List Frame} {meth : Method} {c : Code} {E : zE} {d : Nat} {Q : zQ} (B : zB p s m args c E mX11_type.1.cls mX11_type.2.1 mX11_type.2.2.1) (hr : meth.sig.returnType = mX11_type.2.2.2) (hlk : meth.locks = false) : zLk (zG p l e (zrm d) s m args below meth c E mX11_type.2.2.1 0 0 (MQ below (zQc E Q) args s 0 0 (zaA E))) 0 (b_X11_type_0 d (zG p l e (zrm d) s m args below meth c E mX11_type.2.2.1 0 0 (MQ below (zQc E Q) args s 0 0 (zaA E))) Q) := by
  unfold b_X11_type_0
  exact lk_iln B dX11_type_0 rfl (lk_zlt B dX11_type_1 (by decide) (k_X11_type_20 B hr hlk) (k_X11_type_4 B hr hlk))
def S_X11_type (d : Nat) (G : Nat → zK) (Q : zQ) : Prop := zLk G 0 (b_X11_type_0 d G Q)
theorem s_X11_type_0 {d : Nat} {G : Nat → zK} {Q : zQ} (h : S_X11_type d G Q) {ls st : List zV} {μ : zM} (k : b_X11_type_0 d G Q ls st μ) : G 0 ls st μ := h ls st μ k
theorem of_X11_type {d : Nat} {a0 a1 : zV} {μ : zM} {Q : zQ} (h : ∀ G : Nat → zK, S_X11_type d G Q → G 0 [a0, a1] [] μ) : zCt d mX11_type [a0, a1] μ Q := zCt.mk (by decide) (Nat.le_of_ble_eq_true rfl) (fun p l e s m args below meth c E B hr hlk => h _ (k_X11_type_0 B hr hlk))
theorem dX11_clear_0 : decode cX11_clear 0 = .ok (.aload_n 0, 1) := by decide +kernel
theorem dX11_clear_1 : decode cX11_clear 1 = .ok (.iconst 0, 1) := by decide +kernel
theorem dX11_clear_2 : decode cX11_clear 2 = .ok (.putfield 104, 3) := by decide +kernel
theorem dX11_clear_5 : decode cX11_clear 5 = .ok (.aload_n 0, 1) := by decide +kernel
theorem dX11_clear_6 : decode cX11_clear 6 = .ok (.iconst 0, 1) := by decide +kernel
theorem dX11_clear_7 : decode cX11_clear 7 = .ok (.putfield 108, 3) := by decide +kernel
theorem dX11_clear_10 : decode cX11_clear 10 = .ok (.return_, 1) := by decide +kernel
def b_X11_clear_0 (d : Nat) (G : Nat → zK) (Q : zQ) : zK := o_al 0 <| o_c 0 <| o_pf 9 18 <| o_al 0 <| o_c 0 <| o_pf 9 20 <| t_vret Q
set_option maxRecDepth 20000 in
theorem k_X11_clear_0 {p : Program} {l : Launch} {e : Env} {s : State} {m : MethodId} {args : Array Value} {below : List Frame} {meth : Method} {c : Code} {E : zE} {d : Nat} {Q : zQ} (B : zB p s m args c E mX11_clear.1.cls mX11_clear.2.1 mX11_clear.2.2.1) (hr : meth.sig.returnType = mX11_clear.2.2.2) (hlk : meth.locks = false) : zLk (zG p l e (zrm d) s m args below meth c E mX11_clear.2.2.1 0 0 (MQ below (zQc E Q) args s 0 0 (zaA E))) 0 (b_X11_clear_0 d (zG p l e (zrm d) s m args below meth c E mX11_clear.2.2.1 0 0 (MQ below (zQc E Q) args s 0 0 (zaA E))) Q) := by
  unfold b_X11_clear_0
  exact lk_aln B dX11_clear_0 rfl (lk_c B dX11_clear_1 (lk_pf (T := TX11) B cl_X11 (by decide) in_X11 tyX11_ok nmX11 zw_806 rfl (by decide +kernel) dX11_clear_2 (lk_aln B dX11_clear_5 rfl (lk_c B dX11_clear_6 (lk_pf (T := TX11) B cl_X11 (by decide) in_X11 tyX11_ok nmX11 zw_808 rfl (by decide +kernel) dX11_clear_7 (lk_vret B hr hlk dX11_clear_10))))))
def S_X11_clear (d : Nat) (G : Nat → zK) (Q : zQ) : Prop := zLk G 0 (b_X11_clear_0 d G Q)
theorem s_X11_clear_0 {d : Nat} {G : Nat → zK} {Q : zQ} (h : S_X11_clear d G Q) {ls st : List zV} {μ : zM} (k : b_X11_clear_0 d G Q ls st μ) : G 0 ls st μ := h ls st μ k
theorem of_X11_clear {d : Nat} {a0 : zV} {μ : zM} {Q : zQ} (h : ∀ G : Nat → zK, S_X11_clear d G Q → G 0 [a0] [] μ) : zCt d mX11_clear [a0] μ Q := zCt.mk (by decide) (Nat.le_of_ble_eq_true rfl) (fun p l e s m args below meth c E B hr hlk => h _ (k_X11_clear_0 B hr hlk))
theorem dX11_name_0 : decode cX11_name 0 = .ok (.ldc 111, 2) := by decide +kernel
theorem dX11_name_2 : decode cX11_name 2 = .ok (.istore_n 1, 1) := by decide +kernel
theorem dX11_name_3 : decode cX11_name 3 = .ok (.iconst 0, 1) := by decide +kernel
theorem dX11_name_4 : decode cX11_name 4 = .ok (.istore_n 2, 1) := by decide +kernel
theorem dX11_name_5 : decode cX11_name 5 = .ok (.iload_n 2, 1) := by decide +kernel
theorem dX11_name_6 : decode cX11_name 6 = .ok (.aload_n 0, 1) := by decide +kernel
theorem dX11_name_7 : decode cX11_name 7 = .ok (.getfield 104, 3) := by decide +kernel
theorem dX11_name_10 : decode cX11_name 10 = .ok (.if_icmp .ge 20, 3) := by decide +kernel
theorem dX11_name_13 : decode cX11_name 13 = .ok (.iload_n 1, 1) := by decide +kernel
theorem dX11_name_14 : decode cX11_name 14 = .ok (.aload_n 0, 1) := by decide +kernel
theorem dX11_name_15 : decode cX11_name 15 = .ok (.getfield 62, 3) := by decide +kernel
theorem dX11_name_18 : decode cX11_name 18 = .ok (.iload_n 2, 1) := by decide +kernel
theorem dX11_name_19 : decode cX11_name 19 = .ok (.iaload, 1) := by decide +kernel
theorem dX11_name_20 : decode cX11_name 20 = .ok (.invokestatic 112, 3) := by decide +kernel
theorem dX11_name_23 : decode cX11_name 23 = .ok (.istore_n 1, 1) := by decide +kernel
theorem dX11_name_24 : decode cX11_name 24 = .ok (.iinc 2 1, 3) := by decide +kernel
theorem dX11_name_27 : decode cX11_name 27 = .ok (.goto (-22), 3) := by decide +kernel
theorem dX11_name_30 : decode cX11_name 30 = .ok (.iload_n 1, 1) := by decide +kernel
theorem dX11_name_31 : decode cX11_name 31 = .ok (.ireturn, 1) := by decide +kernel
def b_X11_name_0 (d : Nat) (G : Nat → zK) (Q : zQ) : zK := o_c 40503 <| o_is 1 <| o_c 0 <| o_is 2 <| G 5
def b_X11_name_30 (d : Nat) (G : Nat → zK) (Q : zQ) : zK := o_il 1 <| t_iret Q
def b_X11_name_13 (d : Nat) (G : Nat → zK) (Q : zQ) : zK := o_il 1 <| o_al 0 <| o_gf 9 19 <| o_il 2 <| o_iald <| o_call (zCt (d - 1) mX11_step) 2 <| o_is 1 <| o_inc 2 1 <| G 5
def b_X11_name_5 (d : Nat) (G : Nat → zK) (Q : zQ) : zK := o_il 2 <| o_al 0 <| o_gf 9 18 <| t_ilt (b_X11_name_13 d G Q) (b_X11_name_30 d G Q)
set_option maxRecDepth 20000 in
theorem k_X11_name_0 {p : Program} {l : Launch} {e : Env} {s : State} {m : MethodId} {args : Array Value} {below : List Frame} {meth : Method} {c : Code} {E : zE} {d : Nat} {Q : zQ} (hd1 : 1 ≤ d) (B : zB p s m args c E mX11_name.1.cls mX11_name.2.1 mX11_name.2.2.1) (hr : meth.sig.returnType = mX11_name.2.2.2) (hlk : meth.locks = false) : zLk (zG p l e (zrm d) s m args below meth c E mX11_name.2.2.1 0 0 (MQ below (zQc E Q) args s 0 0 (zaA E))) 0 (b_X11_name_0 d (zG p l e (zrm d) s m args below meth c E mX11_name.2.2.1 0 0 (MQ below (zQc E Q) args s 0 0 (zaA E))) Q) := by
  unfold b_X11_name_0
  exact lk_ldc B zw_924 rfl dX11_name_0 (lk_isn B dX11_name_2 rfl (by decide) (lk_c B dX11_name_3 (lk_isn B dX11_name_4 rfl (by decide) (fun _ _ _ h => h))))
set_option maxRecDepth 20000 in
theorem k_X11_name_30 {p : Program} {l : Launch} {e : Env} {s : State} {m : MethodId} {args : Array Value} {below : List Frame} {meth : Method} {c : Code} {E : zE} {d : Nat} {Q : zQ} (hd1 : 1 ≤ d) (B : zB p s m args c E mX11_name.1.cls mX11_name.2.1 mX11_name.2.2.1) (hr : meth.sig.returnType = mX11_name.2.2.2) (hlk : meth.locks = false) : zLk (zG p l e (zrm d) s m args below meth c E mX11_name.2.2.1 0 0 (MQ below (zQc E Q) args s 0 0 (zaA E))) 30 (b_X11_name_30 d (zG p l e (zrm d) s m args below meth c E mX11_name.2.2.1 0 0 (MQ below (zQc E Q) args s 0 0 (zaA E))) Q) := by
  unfold b_X11_name_30
  exact lk_iln B dX11_name_30 rfl (lk_iret B hr hlk dX11_name_31)
set_option maxRecDepth 20000 in
theorem k_X11_name_13 {p : Program} {l : Launch} {e : Env} {s : State} {m : MethodId} {args : Array Value} {below : List Frame} {meth : Method} {c : Code} {E : zE} {d : Nat} {Q : zQ} (hd1 : 1 ≤ d) (B : zB p s m args c E mX11_name.1.cls mX11_name.2.1 mX11_name.2.2.1) (hr : meth.sig.returnType = mX11_name.2.2.2) (hlk : meth.locks = false) : zLk (zG p l e (zrm d) s m args below meth c E mX11_name.2.2.1 0 0 (MQ below (zQc E Q) args s 0 0 (zaA E))) 13 (b_X11_name_13 d (zG p l e (zrm d) s m args below meth c E mX11_name.2.2.1 0 0 (MQ below (zQc E Q) args s 0 0 (zaA E))) Q) := by
  unfold b_X11_name_13
  exact lk_iln B dX11_name_13 rfl (lk_aln B dX11_name_14 rfl (lk_gf (T := TX11) B cl_X11 (by decide) in_X11 zw_807 dX11_name_15 (lk_iln B dX11_name_18 rfl (lk_iald B dX11_name_19 (lk_calls (M := mX11_step) B (zhR hd1 (by decide)) ⟨Nat.zero_le _, Nat.zero_le _⟩ (zw4 zw_927 zw_925 zw_926 zw_58) (by decide +kernel) dX11_name_20 (lk_isn B dX11_name_23 rfl (by decide) (lk_inc B dX11_name_24 (by decide) (lk_goto B dX11_name_27 (by decide) (fun _ _ _ h => h)))))))))
set_option maxRecDepth 20000 in
theorem k_X11_name_5 {p : Program} {l : Launch} {e : Env} {s : State} {m : MethodId} {args : Array Value} {below : List Frame} {meth : Method} {c : Code} {E : zE} {d : Nat} {Q : zQ} (hd1 : 1 ≤ d) (B : zB p s m args c E mX11_name.1.cls mX11_name.2.1 mX11_name.2.2.1) (hr : meth.sig.returnType = mX11_name.2.2.2) (hlk : meth.locks = false) : zLk (zG p l e (zrm d) s m args below meth c E mX11_name.2.2.1 0 0 (MQ below (zQc E Q) args s 0 0 (zaA E))) 5 (b_X11_name_5 d (zG p l e (zrm d) s m args below meth c E mX11_name.2.2.1 0 0 (MQ below (zQc E Q) args s 0 0 (zaA E))) Q) := by
  unfold b_X11_name_5
  exact lk_iln B dX11_name_5 rfl (lk_aln B dX11_name_6 rfl (lk_gf (T := TX11) B cl_X11 (by decide) in_X11 zw_806 dX11_name_7 (lk_ige B dX11_name_10 (by decide) (k_X11_name_30 hd1 B hr hlk) (k_X11_name_13 hd1 B hr hlk))))
def S_X11_name (d : Nat) (G : Nat → zK) (Q : zQ) : Prop := zLk G 0 (b_X11_name_0 d G Q) ∧ zLk G 5 (b_X11_name_5 d G Q)
theorem s_X11_name_0 {d : Nat} {G : Nat → zK} {Q : zQ} (h : S_X11_name d G Q) {ls st : List zV} {μ : zM} (k : b_X11_name_0 d G Q ls st μ) : G 0 ls st μ := h.1 ls st μ k
theorem s_X11_name_5 {d : Nat} {G : Nat → zK} {Q : zQ} (h : S_X11_name d G Q) {ls st : List zV} {μ : zM} (k : b_X11_name_5 d G Q ls st μ) : G 5 ls st μ := h.2 ls st μ k
theorem of_X11_name {d : Nat} {a0 : zV} {μ : zM} {Q : zQ} (hd1 : 1 ≤ d) (h : ∀ G : Nat → zK, S_X11_name d G Q → G 0 [a0, .inr none, .inr none] [] μ) : zCt d mX11_name [a0] μ Q := zCt.mk (by decide) (Nat.le_of_ble_eq_true rfl) (fun p l e s m args below meth c E B hr hlk => h _ ⟨k_X11_name_0 hd1 B hr hlk, k_X11_name_5 hd1 B hr hlk⟩)
theorem dX11_step_0 : decode cX11_step 0 = .ok (.sipush 263, 3) := by decide +kernel
theorem dX11_step_3 : decode cX11_step 3 = .ok (.iload_n 0, 1) := by decide +kernel
theorem dX11_step_4 : decode cX11_step 4 = .ok (.imul, 1) := by decide +kernel
theorem dX11_step_5 : decode cX11_step 5 = .ok (.iload_n 1, 1) := by decide +kernel
theorem dX11_step_6 : decode cX11_step 6 = .ok (.iadd, 1) := by decide +kernel
theorem dX11_step_7 : decode cX11_step 7 = .ok (.iconst 1, 1) := by decide +kernel
theorem dX11_step_8 : decode cX11_step 8 = .ok (.iadd, 1) := by decide +kernel
theorem dX11_step_9 : decode cX11_step 9 = .ok (.ldc 116, 2) := by decide +kernel
theorem dX11_step_11 : decode cX11_step 11 = .ok (.irem, 1) := by decide +kernel
theorem dX11_step_12 : decode cX11_step 12 = .ok (.ireturn, 1) := by decide +kernel
def b_X11_step_0 (d : Nat) (G : Nat → zK) (Q : zQ) : zK := o_c 263 <| o_il 0 <| o_mul <| o_il 1 <| o_add <| o_c 1 <| o_add <| o_c 65521 <| o_rem <| t_iret Q
set_option maxRecDepth 20000 in
theorem k_X11_step_0 {p : Program} {l : Launch} {e : Env} {s : State} {m : MethodId} {args : Array Value} {below : List Frame} {meth : Method} {c : Code} {E : zE} {d : Nat} {Q : zQ} (B : zB p s m args c E mX11_step.1.cls mX11_step.2.1 mX11_step.2.2.1) (hr : meth.sig.returnType = mX11_step.2.2.2) (hlk : meth.locks = false) : zLk (zG p l e (zrm d) s m args below meth c E mX11_step.2.2.1 0 0 (MQ below (zQc E Q) args s 0 0 (zaA E))) 0 (b_X11_step_0 d (zG p l e (zrm d) s m args below meth c E mX11_step.2.2.1 0 0 (MQ below (zQc E Q) args s 0 0 (zaA E))) Q) := by
  unfold b_X11_step_0
  exact lk_s B dX11_step_0 rfl (lk_iln B dX11_step_3 rfl (lk_mul B dX11_step_4 (lk_iln B dX11_step_5 rfl (lk_add B dX11_step_6 (lk_c B dX11_step_7 (lk_add B dX11_step_8 (lk_ldc B zw_928 rfl dX11_step_9 (lk_rem B dX11_step_11 (lk_iret B hr hlk dX11_step_12)))))))))
def S_X11_step (d : Nat) (G : Nat → zK) (Q : zQ) : Prop := zLk G 0 (b_X11_step_0 d G Q)
theorem s_X11_step_0 {d : Nat} {G : Nat → zK} {Q : zQ} (h : S_X11_step d G Q) {ls st : List zV} {μ : zM} (k : b_X11_step_0 d G Q ls st μ) : G 0 ls st μ := h ls st μ k
theorem of_X11_step {d : Nat} {a0 a1 : zV} {μ : zM} {Q : zQ} (h : ∀ G : Nat → zK, S_X11_step d G Q → G 0 [a0, a1] [] μ) : zCt d mX11_step [a0, a1] μ Q := zCt.mk (by decide) (Nat.le_of_ble_eq_true rfl) (fun p l e s m args below meth c E B hr hlk => h _ (k_X11_step_0 B hr hlk))
theorem dX11_entry_0 : decode cX11_entry 0 = .ok (.iload_n 1, 1) := by decide +kernel
theorem dX11_entry_1 : decode cX11_entry 1 = .ok (.iconst 1, 1) := by decide +kernel
theorem dX11_entry_2 : decode cX11_entry 2 = .ok (.if_icmp .lt 20, 3) := by decide +kernel
theorem dX11_entry_5 : decode cX11_entry 5 = .ok (.iload_n 1, 1) := by decide +kernel
theorem dX11_entry_6 : decode cX11_entry 6 = .ok (.sipush 255, 3) := by decide +kernel
theorem dX11_entry_9 : decode cX11_entry 9 = .ok (.if_icmp .gt 13, 3) := by decide +kernel
theorem dX11_entry_12 : decode cX11_entry 12 = .ok (.iload_n 2, 1) := by decide +kernel
theorem dX11_entry_13 : decode cX11_entry 13 = .ok (.ifCond .lt 9, 3) := by decide +kernel
theorem dX11_entry_16 : decode cX11_entry 16 = .ok (.iload_n 2, 1) := by decide +kernel
theorem dX11_entry_17 : decode cX11_entry 17 = .ok (.ldc 117, 2) := by decide +kernel
theorem dX11_entry_19 : decode cX11_entry 19 = .ok (.if_icmp .le 5, 3) := by decide +kernel
theorem dX11_entry_22 : decode cX11_entry 22 = .ok (.iconst 0, 1) := by decide +kernel
theorem dX11_entry_23 : decode cX11_entry 23 = .ok (.ireturn, 1) := by decide +kernel
theorem dX11_entry_24 : decode cX11_entry 24 = .ok (.iconst 0, 1) := by decide +kernel
theorem dX11_entry_25 : decode cX11_entry 25 = .ok (.istore_n 3, 1) := by decide +kernel
theorem dX11_entry_26 : decode cX11_entry 26 = .ok (.iload_n 3, 1) := by decide +kernel
theorem dX11_entry_27 : decode cX11_entry 27 = .ok (.aload_n 0, 1) := by decide +kernel
theorem dX11_entry_28 : decode cX11_entry 28 = .ok (.getfield 108, 3) := by decide +kernel
theorem dX11_entry_31 : decode cX11_entry 31 = .ok (.if_icmp .ge 19, 3) := by decide +kernel
theorem dX11_entry_34 : decode cX11_entry 34 = .ok (.aload_n 0, 1) := by decide +kernel
theorem dX11_entry_35 : decode cX11_entry 35 = .ok (.getfield 65, 3) := by decide +kernel
theorem dX11_entry_38 : decode cX11_entry 38 = .ok (.iload_n 3, 1) := by decide +kernel
theorem dX11_entry_39 : decode cX11_entry 39 = .ok (.iaload, 1) := by decide +kernel
theorem dX11_entry_40 : decode cX11_entry 40 = .ok (.iload_n 1, 1) := by decide +kernel
theorem dX11_entry_41 : decode cX11_entry 41 = .ok (.if_icmp .eq 9, 3) := by decide +kernel
theorem dX11_entry_44 : decode cX11_entry 44 = .ok (.iinc 3 1, 3) := by decide +kernel
theorem dX11_entry_47 : decode cX11_entry 47 = .ok (.goto (-21), 3) := by decide +kernel
theorem dX11_entry_50 : decode cX11_entry 50 = .ok (.iload_n 3, 1) := by decide +kernel
theorem dX11_entry_51 : decode cX11_entry 51 = .ok (.bipush 16, 2) := by decide +kernel
theorem dX11_entry_53 : decode cX11_entry 53 = .ok (.if_icmp .ne 5, 3) := by decide +kernel
theorem dX11_entry_56 : decode cX11_entry 56 = .ok (.iconst 0, 1) := by decide +kernel
theorem dX11_entry_57 : decode cX11_entry 57 = .ok (.ireturn, 1) := by decide +kernel
theorem dX11_entry_58 : decode cX11_entry 58 = .ok (.aload_n 0, 1) := by decide +kernel
theorem dX11_entry_59 : decode cX11_entry 59 = .ok (.getfield 65, 3) := by decide +kernel
theorem dX11_entry_62 : decode cX11_entry 62 = .ok (.iload_n 3, 1) := by decide +kernel
theorem dX11_entry_63 : decode cX11_entry 63 = .ok (.iload_n 1, 1) := by decide +kernel
theorem dX11_entry_64 : decode cX11_entry 64 = .ok (.iastore, 1) := by decide +kernel
theorem dX11_entry_65 : decode cX11_entry 65 = .ok (.aload_n 0, 1) := by decide +kernel
theorem dX11_entry_66 : decode cX11_entry 66 = .ok (.getfield 68, 3) := by decide +kernel
theorem dX11_entry_69 : decode cX11_entry 69 = .ok (.iload_n 3, 1) := by decide +kernel
theorem dX11_entry_70 : decode cX11_entry 70 = .ok (.iload_n 2, 1) := by decide +kernel
theorem dX11_entry_71 : decode cX11_entry 71 = .ok (.iastore, 1) := by decide +kernel
theorem dX11_entry_72 : decode cX11_entry 72 = .ok (.aload_n 0, 1) := by decide +kernel
theorem dX11_entry_73 : decode cX11_entry 73 = .ok (.iload_n 3, 1) := by decide +kernel
theorem dX11_entry_74 : decode cX11_entry 74 = .ok (.aload_n 0, 1) := by decide +kernel
theorem dX11_entry_75 : decode cX11_entry 75 = .ok (.getfield 108, 3) := by decide +kernel
theorem dX11_entry_78 : decode cX11_entry 78 = .ok (.if_icmp .ne 12, 3) := by decide +kernel
theorem dX11_entry_81 : decode cX11_entry 81 = .ok (.aload_n 0, 1) := by decide +kernel
theorem dX11_entry_82 : decode cX11_entry 82 = .ok (.getfield 108, 3) := by decide +kernel
theorem dX11_entry_85 : decode cX11_entry 85 = .ok (.iconst 1, 1) := by decide +kernel
theorem dX11_entry_86 : decode cX11_entry 86 = .ok (.iadd, 1) := by decide +kernel
theorem dX11_entry_87 : decode cX11_entry 87 = .ok (.goto 7, 3) := by decide +kernel
theorem dX11_entry_90 : decode cX11_entry 90 = .ok (.aload_n 0, 1) := by decide +kernel
theorem dX11_entry_91 : decode cX11_entry 91 = .ok (.getfield 108, 3) := by decide +kernel
theorem dX11_entry_94 : decode cX11_entry 94 = .ok (.putfield 108, 3) := by decide +kernel
theorem dX11_entry_97 : decode cX11_entry 97 = .ok (.iconst 1, 1) := by decide +kernel
theorem dX11_entry_98 : decode cX11_entry 98 = .ok (.ireturn, 1) := by decide +kernel
def b_X11_entry_22 (d : Nat) (G : Nat → zK) (Q : zQ) : zK := o_c 0 <| t_zret Q
def b_X11_entry_24 (d : Nat) (G : Nat → zK) (Q : zQ) : zK := o_c 0 <| o_is 3 <| G 26
def b_X11_entry_16 (d : Nat) (G : Nat → zK) (Q : zQ) : zK := o_il 2 <| o_c 65520 <| t_igt (b_X11_entry_22 d G Q) (b_X11_entry_24 d G Q)
def b_X11_entry_12 (d : Nat) (G : Nat → zK) (Q : zQ) : zK := o_il 2 <| t_zlt (b_X11_entry_22 d G Q) (b_X11_entry_16 d G Q)
def b_X11_entry_5 (d : Nat) (G : Nat → zK) (Q : zQ) : zK := o_il 1 <| o_c 255 <| t_igt (b_X11_entry_22 d G Q) (b_X11_entry_12 d G Q)
def b_X11_entry_0 (d : Nat) (G : Nat → zK) (Q : zQ) : zK := o_il 1 <| o_c 1 <| t_ilt (b_X11_entry_22 d G Q) (b_X11_entry_5 d G Q)
def b_X11_entry_44 (d : Nat) (G : Nat → zK) (Q : zQ) : zK := o_inc 3 1 <| G 26
def b_X11_entry_34 (d : Nat) (G : Nat → zK) (Q : zQ) : zK := o_al 0 <| o_gf 9 21 <| o_il 3 <| o_iald <| o_il 1 <| t_ieq (G 50) (b_X11_entry_44 d G Q)
def b_X11_entry_26 (d : Nat) (G : Nat → zK) (Q : zQ) : zK := o_il 3 <| o_al 0 <| o_gf 9 20 <| t_ilt (b_X11_entry_34 d G Q) (G 50)
def b_X11_entry_94 (d : Nat) (G : Nat → zK) (Q : zQ) : zK := o_pf 9 20 <| o_c 1 <| t_zret Q
def b_X11_entry_90 (d : Nat) (G : Nat → zK) (Q : zQ) : zK := o_al 0 <| o_gf 9 20 <| b_X11_entry_94 d G Q
def b_X11_entry_81 (d : Nat) (G : Nat → zK) (Q : zQ) : zK := o_al 0 <| o_gf 9 20 <| o_c 1 <| o_add <| b_X11_entry_94 d G Q
def b_X11_entry_58 (d : Nat) (G : Nat → zK) (Q : zQ) : zK := o_al 0 <| o_gf 9 21 <| o_il 3 <| o_il 1 <| o_iast <| o_al 0 <| o_gf 9 22 <| o_il 3 <| o_il 2 <| o_iast <| o_al 0 <| o_il 3 <| o_al 0 <| o_gf 9 20 <| t_ieq (b_X11_entry_81 d G Q) (b_X11_entry_90 d G Q)
def b_X11_entry_56 (d : Nat) (G : Nat → zK) (Q : zQ) : zK := o_c 0 <| t_zret Q
def b_X11_entry_50 (d : Nat) (G : Nat → zK) (Q : zQ) : zK := o_il 3 <| o_c 16 <| t_ieq (b_X11_entry_56 d G Q) (b_X11_entry_58 d G Q)
set_option maxRecDepth 20000 in
theorem k_X11_entry_22 {p : Program} {l : Launch} {e : Env} {s : State} {m : MethodId} {args : Array Value} {below : List Frame} {meth : Method} {c : Code} {E : zE} {d : Nat} {Q : zQ} (B : zB p s m args c E mX11_entry.1.cls mX11_entry.2.1 mX11_entry.2.2.1) (hr : meth.sig.returnType = mX11_entry.2.2.2) (hlk : meth.locks = false) : zLk (zG p l e (zrm d) s m args below meth c E mX11_entry.2.2.1 0 0 (MQ below (zQc E Q) args s 0 0 (zaA E))) 22 (b_X11_entry_22 d (zG p l e (zrm d) s m args below meth c E mX11_entry.2.2.1 0 0 (MQ below (zQc E Q) args s 0 0 (zaA E))) Q) := by
  unfold b_X11_entry_22
  exact lk_c B dX11_entry_22 (lk_zret B hr hlk dX11_entry_23)
set_option maxRecDepth 20000 in
theorem k_X11_entry_24 {p : Program} {l : Launch} {e : Env} {s : State} {m : MethodId} {args : Array Value} {below : List Frame} {meth : Method} {c : Code} {E : zE} {d : Nat} {Q : zQ} (B : zB p s m args c E mX11_entry.1.cls mX11_entry.2.1 mX11_entry.2.2.1) (hr : meth.sig.returnType = mX11_entry.2.2.2) (hlk : meth.locks = false) : zLk (zG p l e (zrm d) s m args below meth c E mX11_entry.2.2.1 0 0 (MQ below (zQc E Q) args s 0 0 (zaA E))) 24 (b_X11_entry_24 d (zG p l e (zrm d) s m args below meth c E mX11_entry.2.2.1 0 0 (MQ below (zQc E Q) args s 0 0 (zaA E))) Q) := by
  unfold b_X11_entry_24
  exact lk_c B dX11_entry_24 (lk_isn B dX11_entry_25 rfl (by decide) (fun _ _ _ h => h))
set_option maxRecDepth 20000 in
theorem k_X11_entry_16 {p : Program} {l : Launch} {e : Env} {s : State} {m : MethodId} {args : Array Value} {below : List Frame} {meth : Method} {c : Code} {E : zE} {d : Nat} {Q : zQ} (B : zB p s m args c E mX11_entry.1.cls mX11_entry.2.1 mX11_entry.2.2.1) (hr : meth.sig.returnType = mX11_entry.2.2.2) (hlk : meth.locks = false) : zLk (zG p l e (zrm d) s m args below meth c E mX11_entry.2.2.1 0 0 (MQ below (zQc E Q) args s 0 0 (zaA E))) 16 (b_X11_entry_16 d (zG p l e (zrm d) s m args below meth c E mX11_entry.2.2.1 0 0 (MQ below (zQc E Q) args s 0 0 (zaA E))) Q) := by
  unfold b_X11_entry_16
  exact lk_iln B dX11_entry_16 rfl (lk_ldc B zw_933 rfl dX11_entry_17 (lk_ile B dX11_entry_19 (by decide) (k_X11_entry_24 B hr hlk) (k_X11_entry_22 B hr hlk)))
set_option maxRecDepth 20000 in
theorem k_X11_entry_12 {p : Program} {l : Launch} {e : Env} {s : State} {m : MethodId} {args : Array Value} {below : List Frame} {meth : Method} {c : Code} {E : zE} {d : Nat} {Q : zQ} (B : zB p s m args c E mX11_entry.1.cls mX11_entry.2.1 mX11_entry.2.2.1) (hr : meth.sig.returnType = mX11_entry.2.2.2) (hlk : meth.locks = false) : zLk (zG p l e (zrm d) s m args below meth c E mX11_entry.2.2.1 0 0 (MQ below (zQc E Q) args s 0 0 (zaA E))) 12 (b_X11_entry_12 d (zG p l e (zrm d) s m args below meth c E mX11_entry.2.2.1 0 0 (MQ below (zQc E Q) args s 0 0 (zaA E))) Q) := by
  unfold b_X11_entry_12
  exact lk_iln B dX11_entry_12 rfl (lk_zlt B dX11_entry_13 (by decide) (k_X11_entry_22 B hr hlk) (k_X11_entry_16 B hr hlk))
set_option maxRecDepth 20000 in
theorem k_X11_entry_5 {p : Program} {l : Launch} {e : Env} {s : State} {m : MethodId} {args : Array Value} {below : List Frame} {meth : Method} {c : Code} {E : zE} {d : Nat} {Q : zQ} (B : zB p s m args c E mX11_entry.1.cls mX11_entry.2.1 mX11_entry.2.2.1) (hr : meth.sig.returnType = mX11_entry.2.2.2) (hlk : meth.locks = false) : zLk (zG p l e (zrm d) s m args below meth c E mX11_entry.2.2.1 0 0 (MQ below (zQc E Q) args s 0 0 (zaA E))) 5 (b_X11_entry_5 d (zG p l e (zrm d) s m args below meth c E mX11_entry.2.2.1 0 0 (MQ below (zQc E Q) args s 0 0 (zaA E))) Q) := by
  unfold b_X11_entry_5
  exact lk_iln B dX11_entry_5 rfl (lk_s B dX11_entry_6 rfl (lk_igt B dX11_entry_9 (by decide) (k_X11_entry_22 B hr hlk) (k_X11_entry_12 B hr hlk)))
set_option maxRecDepth 20000 in
theorem k_X11_entry_0 {p : Program} {l : Launch} {e : Env} {s : State} {m : MethodId} {args : Array Value} {below : List Frame} {meth : Method} {c : Code} {E : zE} {d : Nat} {Q : zQ} (B : zB p s m args c E mX11_entry.1.cls mX11_entry.2.1 mX11_entry.2.2.1) (hr : meth.sig.returnType = mX11_entry.2.2.2) (hlk : meth.locks = false) : zLk (zG p l e (zrm d) s m args below meth c E mX11_entry.2.2.1 0 0 (MQ below (zQc E Q) args s 0 0 (zaA E))) 0 (b_X11_entry_0 d (zG p l e (zrm d) s m args below meth c E mX11_entry.2.2.1 0 0 (MQ below (zQc E Q) args s 0 0 (zaA E))) Q) := by
  unfold b_X11_entry_0
  exact lk_iln B dX11_entry_0 rfl (lk_c B dX11_entry_1 (lk_ilt B dX11_entry_2 (by decide) (k_X11_entry_22 B hr hlk) (k_X11_entry_5 B hr hlk)))
set_option maxRecDepth 20000 in
theorem k_X11_entry_44 {p : Program} {l : Launch} {e : Env} {s : State} {m : MethodId} {args : Array Value} {below : List Frame} {meth : Method} {c : Code} {E : zE} {d : Nat} {Q : zQ} (B : zB p s m args c E mX11_entry.1.cls mX11_entry.2.1 mX11_entry.2.2.1) (hr : meth.sig.returnType = mX11_entry.2.2.2) (hlk : meth.locks = false) : zLk (zG p l e (zrm d) s m args below meth c E mX11_entry.2.2.1 0 0 (MQ below (zQc E Q) args s 0 0 (zaA E))) 44 (b_X11_entry_44 d (zG p l e (zrm d) s m args below meth c E mX11_entry.2.2.1 0 0 (MQ below (zQc E Q) args s 0 0 (zaA E))) Q) := by
  unfold b_X11_entry_44
  exact lk_inc B dX11_entry_44 (by decide) (lk_goto B dX11_entry_47 (by decide) (fun _ _ _ h => h))
set_option maxRecDepth 20000 in
theorem k_X11_entry_34 {p : Program} {l : Launch} {e : Env} {s : State} {m : MethodId} {args : Array Value} {below : List Frame} {meth : Method} {c : Code} {E : zE} {d : Nat} {Q : zQ} (B : zB p s m args c E mX11_entry.1.cls mX11_entry.2.1 mX11_entry.2.2.1) (hr : meth.sig.returnType = mX11_entry.2.2.2) (hlk : meth.locks = false) : zLk (zG p l e (zrm d) s m args below meth c E mX11_entry.2.2.1 0 0 (MQ below (zQc E Q) args s 0 0 (zaA E))) 34 (b_X11_entry_34 d (zG p l e (zrm d) s m args below meth c E mX11_entry.2.2.1 0 0 (MQ below (zQc E Q) args s 0 0 (zaA E))) Q) := by
  unfold b_X11_entry_34
  exact lk_aln B dX11_entry_34 rfl (lk_gf (T := TX11) B cl_X11 (by decide) in_X11 zw_809 dX11_entry_35 (lk_iln B dX11_entry_38 rfl (lk_iald B dX11_entry_39 (lk_iln B dX11_entry_40 rfl (lk_ieq B dX11_entry_41 (by decide) (fun _ _ _ h => h) (k_X11_entry_44 B hr hlk))))))
set_option maxRecDepth 20000 in
theorem k_X11_entry_26 {p : Program} {l : Launch} {e : Env} {s : State} {m : MethodId} {args : Array Value} {below : List Frame} {meth : Method} {c : Code} {E : zE} {d : Nat} {Q : zQ} (B : zB p s m args c E mX11_entry.1.cls mX11_entry.2.1 mX11_entry.2.2.1) (hr : meth.sig.returnType = mX11_entry.2.2.2) (hlk : meth.locks = false) : zLk (zG p l e (zrm d) s m args below meth c E mX11_entry.2.2.1 0 0 (MQ below (zQc E Q) args s 0 0 (zaA E))) 26 (b_X11_entry_26 d (zG p l e (zrm d) s m args below meth c E mX11_entry.2.2.1 0 0 (MQ below (zQc E Q) args s 0 0 (zaA E))) Q) := by
  unfold b_X11_entry_26
  exact lk_iln B dX11_entry_26 rfl (lk_aln B dX11_entry_27 rfl (lk_gf (T := TX11) B cl_X11 (by decide) in_X11 zw_808 dX11_entry_28 (lk_ige B dX11_entry_31 (by decide) (fun _ _ _ h => h) (k_X11_entry_34 B hr hlk))))
set_option maxRecDepth 20000 in
theorem k_X11_entry_94 {p : Program} {l : Launch} {e : Env} {s : State} {m : MethodId} {args : Array Value} {below : List Frame} {meth : Method} {c : Code} {E : zE} {d : Nat} {Q : zQ} (B : zB p s m args c E mX11_entry.1.cls mX11_entry.2.1 mX11_entry.2.2.1) (hr : meth.sig.returnType = mX11_entry.2.2.2) (hlk : meth.locks = false) : zLk (zG p l e (zrm d) s m args below meth c E mX11_entry.2.2.1 0 0 (MQ below (zQc E Q) args s 0 0 (zaA E))) 94 (b_X11_entry_94 d (zG p l e (zrm d) s m args below meth c E mX11_entry.2.2.1 0 0 (MQ below (zQc E Q) args s 0 0 (zaA E))) Q) := by
  unfold b_X11_entry_94
  exact lk_pf (T := TX11) B cl_X11 (by decide) in_X11 tyX11_ok nmX11 zw_808 rfl (by decide +kernel) dX11_entry_94 (lk_c B dX11_entry_97 (lk_zret B hr hlk dX11_entry_98))
set_option maxRecDepth 20000 in
theorem k_X11_entry_90 {p : Program} {l : Launch} {e : Env} {s : State} {m : MethodId} {args : Array Value} {below : List Frame} {meth : Method} {c : Code} {E : zE} {d : Nat} {Q : zQ} (B : zB p s m args c E mX11_entry.1.cls mX11_entry.2.1 mX11_entry.2.2.1) (hr : meth.sig.returnType = mX11_entry.2.2.2) (hlk : meth.locks = false) : zLk (zG p l e (zrm d) s m args below meth c E mX11_entry.2.2.1 0 0 (MQ below (zQc E Q) args s 0 0 (zaA E))) 90 (b_X11_entry_90 d (zG p l e (zrm d) s m args below meth c E mX11_entry.2.2.1 0 0 (MQ below (zQc E Q) args s 0 0 (zaA E))) Q) := by
  unfold b_X11_entry_90
  exact lk_aln B dX11_entry_90 rfl (lk_gf (T := TX11) B cl_X11 (by decide) in_X11 zw_808 dX11_entry_91 (k_X11_entry_94 B hr hlk))
set_option maxRecDepth 20000 in
theorem k_X11_entry_81 {p : Program} {l : Launch} {e : Env} {s : State} {m : MethodId} {args : Array Value} {below : List Frame} {meth : Method} {c : Code} {E : zE} {d : Nat} {Q : zQ} (B : zB p s m args c E mX11_entry.1.cls mX11_entry.2.1 mX11_entry.2.2.1) (hr : meth.sig.returnType = mX11_entry.2.2.2) (hlk : meth.locks = false) : zLk (zG p l e (zrm d) s m args below meth c E mX11_entry.2.2.1 0 0 (MQ below (zQc E Q) args s 0 0 (zaA E))) 81 (b_X11_entry_81 d (zG p l e (zrm d) s m args below meth c E mX11_entry.2.2.1 0 0 (MQ below (zQc E Q) args s 0 0 (zaA E))) Q) := by
  unfold b_X11_entry_81
  exact lk_aln B dX11_entry_81 rfl (lk_gf (T := TX11) B cl_X11 (by decide) in_X11 zw_808 dX11_entry_82 (lk_c B dX11_entry_85 (lk_add B dX11_entry_86 (lk_goto B dX11_entry_87 (by decide) (k_X11_entry_94 B hr hlk)))))
set_option maxRecDepth 20000 in
theorem k_X11_entry_58 {p : Program} {l : Launch} {e : Env} {s : State} {m : MethodId} {args : Array Value} {below : List Frame} {meth : Method} {c : Code} {E : zE} {d : Nat} {Q : zQ} (B : zB p s m args c E mX11_entry.1.cls mX11_entry.2.1 mX11_entry.2.2.1) (hr : meth.sig.returnType = mX11_entry.2.2.2) (hlk : meth.locks = false) : zLk (zG p l e (zrm d) s m args below meth c E mX11_entry.2.2.1 0 0 (MQ below (zQc E Q) args s 0 0 (zaA E))) 58 (b_X11_entry_58 d (zG p l e (zrm d) s m args below meth c E mX11_entry.2.2.1 0 0 (MQ below (zQc E Q) args s 0 0 (zaA E))) Q) := by
  unfold b_X11_entry_58
  exact lk_aln B dX11_entry_58 rfl (lk_gf (T := TX11) B cl_X11 (by decide) in_X11 zw_809 dX11_entry_59 (lk_iln B dX11_entry_62 rfl (lk_iln B dX11_entry_63 rfl (lk_iast B dX11_entry_64 (lk_aln B dX11_entry_65 rfl (lk_gf (T := TX11) B cl_X11 (by decide) in_X11 zw_810 dX11_entry_66 (lk_iln B dX11_entry_69 rfl (lk_iln B dX11_entry_70 rfl (lk_iast B dX11_entry_71 (lk_aln B dX11_entry_72 rfl (lk_iln B dX11_entry_73 rfl (lk_aln B dX11_entry_74 rfl (lk_gf (T := TX11) B cl_X11 (by decide) in_X11 zw_808 dX11_entry_75 (lk_ine B dX11_entry_78 (by decide) (k_X11_entry_90 B hr hlk) (k_X11_entry_81 B hr hlk)))))))))))))))
set_option maxRecDepth 20000 in
theorem k_X11_entry_56 {p : Program} {l : Launch} {e : Env} {s : State} {m : MethodId} {args : Array Value} {below : List Frame} {meth : Method} {c : Code} {E : zE} {d : Nat} {Q : zQ} (B : zB p s m args c E mX11_entry.1.cls mX11_entry.2.1 mX11_entry.2.2.1) (hr : meth.sig.returnType = mX11_entry.2.2.2) (hlk : meth.locks = false) : zLk (zG p l e (zrm d) s m args below meth c E mX11_entry.2.2.1 0 0 (MQ below (zQc E Q) args s 0 0 (zaA E))) 56 (b_X11_entry_56 d (zG p l e (zrm d) s m args below meth c E mX11_entry.2.2.1 0 0 (MQ below (zQc E Q) args s 0 0 (zaA E))) Q) := by
  unfold b_X11_entry_56
  exact lk_c B dX11_entry_56 (lk_zret B hr hlk dX11_entry_57)
set_option maxRecDepth 20000 in
theorem k_X11_entry_50 {p : Program} {l : Launch} {e : Env} {s : State} {m : MethodId} {args : Array Value} {below : List Frame} {meth : Method} {c : Code} {E : zE} {d : Nat} {Q : zQ} (B : zB p s m args c E mX11_entry.1.cls mX11_entry.2.1 mX11_entry.2.2.1) (hr : meth.sig.returnType = mX11_entry.2.2.2) (hlk : meth.locks = false) : zLk (zG p l e (zrm d) s m args below meth c E mX11_entry.2.2.1 0 0 (MQ below (zQc E Q) args s 0 0 (zaA E))) 50 (b_X11_entry_50 d (zG p l e (zrm d) s m args below meth c E mX11_entry.2.2.1 0 0 (MQ below (zQc E Q) args s 0 0 (zaA E))) Q) := by
  unfold b_X11_entry_50
  exact lk_iln B dX11_entry_50 rfl (lk_b B dX11_entry_51 rfl (lk_ine B dX11_entry_53 (by decide) (k_X11_entry_58 B hr hlk) (k_X11_entry_56 B hr hlk)))
def S_X11_entry (d : Nat) (G : Nat → zK) (Q : zQ) : Prop := zLk G 0 (b_X11_entry_0 d G Q) ∧ zLk G 26 (b_X11_entry_26 d G Q) ∧ zLk G 50 (b_X11_entry_50 d G Q)
theorem s_X11_entry_0 {d : Nat} {G : Nat → zK} {Q : zQ} (h : S_X11_entry d G Q) {ls st : List zV} {μ : zM} (k : b_X11_entry_0 d G Q ls st μ) : G 0 ls st μ := h.1 ls st μ k
theorem s_X11_entry_26 {d : Nat} {G : Nat → zK} {Q : zQ} (h : S_X11_entry d G Q) {ls st : List zV} {μ : zM} (k : b_X11_entry_26 d G Q ls st μ) : G 26 ls st μ := h.2.1 ls st μ k
theorem s_X11_entry_50 {d : Nat} {G : Nat → zK} {Q : zQ} (h : S_X11_entry d G Q) {ls st : List zV} {μ : zM} (k : b_X11_entry_50 d G Q ls st μ) : G 50 ls st μ := h.2.2 ls st μ k
theorem of_X11_entry {d : Nat} {a0 a1 a2 : zV} {μ : zM} {Q : zQ} (h : ∀ G : Nat → zK, S_X11_entry d G Q → G 0 [a0, a1, a2, .inr none] [] μ) : zCt d mX11_entry [a0, a1, a2] μ Q := zCt.mk (by decide) (Nat.le_of_ble_eq_true rfl) (fun p l e s m args below meth c E B hr hlk => h _ ⟨k_X11_entry_0 B hr hlk, k_X11_entry_26 B hr hlk, k_X11_entry_50 B hr hlk⟩)
theorem dX11_rowName_0 : decode cX11_rowName 0 = .ok (.ldc 111, 2) := by decide +kernel
theorem dX11_rowName_2 : decode cX11_rowName 2 = .ok (.istore_n 1, 1) := by decide +kernel
theorem dX11_rowName_3 : decode cX11_rowName 3 = .ok (.iconst 0, 1) := by decide +kernel
theorem dX11_rowName_4 : decode cX11_rowName 4 = .ok (.istore_n 2, 1) := by decide +kernel
theorem dX11_rowName_5 : decode cX11_rowName 5 = .ok (.iload_n 2, 1) := by decide +kernel
theorem dX11_rowName_6 : decode cX11_rowName 6 = .ok (.aload_n 0, 1) := by decide +kernel
theorem dX11_rowName_7 : decode cX11_rowName 7 = .ok (.getfield 118, 3) := by decide +kernel
theorem dX11_rowName_10 : decode cX11_rowName 10 = .ok (.if_icmp .ge 20, 3) := by decide +kernel
theorem dX11_rowName_13 : decode cX11_rowName 13 = .ok (.iload_n 1, 1) := by decide +kernel
theorem dX11_rowName_14 : decode cX11_rowName 14 = .ok (.aload_n 0, 1) := by decide +kernel
theorem dX11_rowName_15 : decode cX11_rowName 15 = .ok (.getfield 71, 3) := by decide +kernel
theorem dX11_rowName_18 : decode cX11_rowName 18 = .ok (.iload_n 2, 1) := by decide +kernel
theorem dX11_rowName_19 : decode cX11_rowName 19 = .ok (.iaload, 1) := by decide +kernel
theorem dX11_rowName_20 : decode cX11_rowName 20 = .ok (.invokestatic 112, 3) := by decide +kernel
theorem dX11_rowName_23 : decode cX11_rowName 23 = .ok (.istore_n 1, 1) := by decide +kernel
theorem dX11_rowName_24 : decode cX11_rowName 24 = .ok (.iinc 2 1, 3) := by decide +kernel
theorem dX11_rowName_27 : decode cX11_rowName 27 = .ok (.goto (-22), 3) := by decide +kernel
theorem dX11_rowName_30 : decode cX11_rowName 30 = .ok (.iload_n 1, 1) := by decide +kernel
theorem dX11_rowName_31 : decode cX11_rowName 31 = .ok (.ireturn, 1) := by decide +kernel
def b_X11_rowName_0 (d : Nat) (G : Nat → zK) (Q : zQ) : zK := o_c 40503 <| o_is 1 <| o_c 0 <| o_is 2 <| G 5
def b_X11_rowName_30 (d : Nat) (G : Nat → zK) (Q : zQ) : zK := o_il 1 <| t_iret Q
def b_X11_rowName_13 (d : Nat) (G : Nat → zK) (Q : zQ) : zK := o_il 1 <| o_al 0 <| o_gf 9 23 <| o_il 2 <| o_iald <| o_call (zCt (d - 1) mX11_step) 2 <| o_is 1 <| o_inc 2 1 <| G 5
def b_X11_rowName_5 (d : Nat) (G : Nat → zK) (Q : zQ) : zK := o_il 2 <| o_al 0 <| o_gf 9 24 <| t_ilt (b_X11_rowName_13 d G Q) (b_X11_rowName_30 d G Q)
set_option maxRecDepth 20000 in
theorem k_X11_rowName_0 {p : Program} {l : Launch} {e : Env} {s : State} {m : MethodId} {args : Array Value} {below : List Frame} {meth : Method} {c : Code} {E : zE} {d : Nat} {Q : zQ} (hd1 : 1 ≤ d) (B : zB p s m args c E mX11_rowName.1.cls mX11_rowName.2.1 mX11_rowName.2.2.1) (hr : meth.sig.returnType = mX11_rowName.2.2.2) (hlk : meth.locks = false) : zLk (zG p l e (zrm d) s m args below meth c E mX11_rowName.2.2.1 0 0 (MQ below (zQc E Q) args s 0 0 (zaA E))) 0 (b_X11_rowName_0 d (zG p l e (zrm d) s m args below meth c E mX11_rowName.2.2.1 0 0 (MQ below (zQc E Q) args s 0 0 (zaA E))) Q) := by
  unfold b_X11_rowName_0
  exact lk_ldc B zw_924 rfl dX11_rowName_0 (lk_isn B dX11_rowName_2 rfl (by decide) (lk_c B dX11_rowName_3 (lk_isn B dX11_rowName_4 rfl (by decide) (fun _ _ _ h => h))))
set_option maxRecDepth 20000 in
theorem k_X11_rowName_30 {p : Program} {l : Launch} {e : Env} {s : State} {m : MethodId} {args : Array Value} {below : List Frame} {meth : Method} {c : Code} {E : zE} {d : Nat} {Q : zQ} (hd1 : 1 ≤ d) (B : zB p s m args c E mX11_rowName.1.cls mX11_rowName.2.1 mX11_rowName.2.2.1) (hr : meth.sig.returnType = mX11_rowName.2.2.2) (hlk : meth.locks = false) : zLk (zG p l e (zrm d) s m args below meth c E mX11_rowName.2.2.1 0 0 (MQ below (zQc E Q) args s 0 0 (zaA E))) 30 (b_X11_rowName_30 d (zG p l e (zrm d) s m args below meth c E mX11_rowName.2.2.1 0 0 (MQ below (zQc E Q) args s 0 0 (zaA E))) Q) := by
  unfold b_X11_rowName_30
  exact lk_iln B dX11_rowName_30 rfl (lk_iret B hr hlk dX11_rowName_31)
set_option maxRecDepth 20000 in
theorem k_X11_rowName_13 {p : Program} {l : Launch} {e : Env} {s : State} {m : MethodId} {args : Array Value} {below : List Frame} {meth : Method} {c : Code} {E : zE} {d : Nat} {Q : zQ} (hd1 : 1 ≤ d) (B : zB p s m args c E mX11_rowName.1.cls mX11_rowName.2.1 mX11_rowName.2.2.1) (hr : meth.sig.returnType = mX11_rowName.2.2.2) (hlk : meth.locks = false) : zLk (zG p l e (zrm d) s m args below meth c E mX11_rowName.2.2.1 0 0 (MQ below (zQc E Q) args s 0 0 (zaA E))) 13 (b_X11_rowName_13 d (zG p l e (zrm d) s m args below meth c E mX11_rowName.2.2.1 0 0 (MQ below (zQc E Q) args s 0 0 (zaA E))) Q) := by
  unfold b_X11_rowName_13
  exact lk_iln B dX11_rowName_13 rfl (lk_aln B dX11_rowName_14 rfl (lk_gf (T := TX11) B cl_X11 (by decide) in_X11 zw_811 dX11_rowName_15 (lk_iln B dX11_rowName_18 rfl (lk_iald B dX11_rowName_19 (lk_calls (M := mX11_step) B (zhR hd1 (by decide)) ⟨Nat.zero_le _, Nat.zero_le _⟩ (zw4 zw_927 zw_925 zw_926 zw_58) (by decide +kernel) dX11_rowName_20 (lk_isn B dX11_rowName_23 rfl (by decide) (lk_inc B dX11_rowName_24 (by decide) (lk_goto B dX11_rowName_27 (by decide) (fun _ _ _ h => h)))))))))
set_option maxRecDepth 20000 in
theorem k_X11_rowName_5 {p : Program} {l : Launch} {e : Env} {s : State} {m : MethodId} {args : Array Value} {below : List Frame} {meth : Method} {c : Code} {E : zE} {d : Nat} {Q : zQ} (hd1 : 1 ≤ d) (B : zB p s m args c E mX11_rowName.1.cls mX11_rowName.2.1 mX11_rowName.2.2.1) (hr : meth.sig.returnType = mX11_rowName.2.2.2) (hlk : meth.locks = false) : zLk (zG p l e (zrm d) s m args below meth c E mX11_rowName.2.2.1 0 0 (MQ below (zQc E Q) args s 0 0 (zaA E))) 5 (b_X11_rowName_5 d (zG p l e (zrm d) s m args below meth c E mX11_rowName.2.2.1 0 0 (MQ below (zQc E Q) args s 0 0 (zaA E))) Q) := by
  unfold b_X11_rowName_5
  exact lk_iln B dX11_rowName_5 rfl (lk_aln B dX11_rowName_6 rfl (lk_gf (T := TX11) B cl_X11 (by decide) in_X11 zw_812 dX11_rowName_7 (lk_ige B dX11_rowName_10 (by decide) (k_X11_rowName_30 hd1 B hr hlk) (k_X11_rowName_13 hd1 B hr hlk))))
def S_X11_rowName (d : Nat) (G : Nat → zK) (Q : zQ) : Prop := zLk G 0 (b_X11_rowName_0 d G Q) ∧ zLk G 5 (b_X11_rowName_5 d G Q)
theorem s_X11_rowName_0 {d : Nat} {G : Nat → zK} {Q : zQ} (h : S_X11_rowName d G Q) {ls st : List zV} {μ : zM} (k : b_X11_rowName_0 d G Q ls st μ) : G 0 ls st μ := h.1 ls st μ k
theorem s_X11_rowName_5 {d : Nat} {G : Nat → zK} {Q : zQ} (h : S_X11_rowName d G Q) {ls st : List zV} {μ : zM} (k : b_X11_rowName_5 d G Q ls st μ) : G 5 ls st μ := h.2 ls st μ k
theorem of_X11_rowName {d : Nat} {a0 : zV} {μ : zM} {Q : zQ} (hd1 : 1 ≤ d) (h : ∀ G : Nat → zK, S_X11_rowName d G Q → G 0 [a0, .inr none, .inr none] [] μ) : zCt d mX11_rowName [a0] μ Q := zCt.mk (by decide) (Nat.le_of_ble_eq_true rfl) (fun p l e s m args below meth c E B hr hlk => h _ ⟨k_X11_rowName_0 hd1 B hr hlk, k_X11_rowName_5 hd1 B hr hlk⟩)
theorem dX11_push_0 : decode cX11_push 0 = .ok (.aload_n 0, 1) := by decide +kernel
theorem dX11_push_1 : decode cX11_push 1 = .ok (.getfield 71, 3) := by decide +kernel
theorem dX11_push_4 : decode cX11_push 4 = .ok (.aload_n 0, 1) := by decide +kernel
theorem dX11_push_5 : decode cX11_push 5 = .ok (.getfield 118, 3) := by decide +kernel
theorem dX11_push_8 : decode cX11_push 8 = .ok (.iload_n 1, 1) := by decide +kernel
theorem dX11_push_9 : decode cX11_push 9 = .ok (.iastore, 1) := by decide +kernel
theorem dX11_push_10 : decode cX11_push 10 = .ok (.aload_n 0, 1) := by decide +kernel
theorem dX11_push_11 : decode cX11_push 11 = .ok (.dup, 1) := by decide +kernel
theorem dX11_push_12 : decode cX11_push 12 = .ok (.getfield 118, 3) := by decide +kernel
theorem dX11_push_15 : decode cX11_push 15 = .ok (.iconst 1, 1) := by decide +kernel
theorem dX11_push_16 : decode cX11_push 16 = .ok (.iadd, 1) := by decide +kernel
theorem dX11_push_17 : decode cX11_push 17 = .ok (.putfield 118, 3) := by decide +kernel
theorem dX11_push_20 : decode cX11_push 20 = .ok (.return_, 1) := by decide +kernel
def b_X11_push_0 (d : Nat) (G : Nat → zK) (Q : zQ) : zK := o_al 0 <| o_gf 9 23 <| o_al 0 <| o_gf 9 24 <| o_il 1 <| o_iast <| o_al 0 <| o_dup <| o_gf 9 24 <| o_c 1 <| o_add <| o_pf 9 24 <| t_vret Q
set_option maxRecDepth 20000 in
theorem k_X11_push_0 {p : Program} {l : Launch} {e : Env} {s : State} {m : MethodId} {args : Array Value} {below : List Frame} {meth : Method} {c : Code} {E : zE} {d : Nat} {Q : zQ} (B : zB p s m args c E mX11_push.1.cls mX11_push.2.1 mX11_push.2.2.1) (hr : meth.sig.returnType = mX11_push.2.2.2) (hlk : meth.locks = false) : zLk (zG p l e (zrm d) s m args below meth c E mX11_push.2.2.1 0 0 (MQ below (zQc E Q) args s 0 0 (zaA E))) 0 (b_X11_push_0 d (zG p l e (zrm d) s m args below meth c E mX11_push.2.2.1 0 0 (MQ below (zQc E Q) args s 0 0 (zaA E))) Q) := by
  unfold b_X11_push_0
  exact lk_aln B dX11_push_0 rfl (lk_gf (T := TX11) B cl_X11 (by decide) in_X11 zw_811 dX11_push_1 (lk_aln B dX11_push_4 rfl (lk_gf (T := TX11) B cl_X11 (by decide) in_X11 zw_812 dX11_push_5 (lk_iln B dX11_push_8 rfl (lk_iast B dX11_push_9 (lk_aln B dX11_push_10 rfl (lk_dup B dX11_push_11 (lk_gf (T := TX11) B cl_X11 (by decide) in_X11 zw_812 dX11_push_12 (lk_c B dX11_push_15 (lk_add B dX11_push_16 (lk_pf (T := TX11) B cl_X11 (by decide) in_X11 tyX11_ok nmX11 zw_812 rfl (by decide +kernel) dX11_push_17 (lk_vret B hr hlk dX11_push_20))))))))))))
def S_X11_push (d : Nat) (G : Nat → zK) (Q : zQ) : Prop := zLk G 0 (b_X11_push_0 d G Q)
theorem s_X11_push_0 {d : Nat} {G : Nat → zK} {Q : zQ} (h : S_X11_push d G Q) {ls st : List zV} {μ : zM} (k : b_X11_push_0 d G Q ls st μ) : G 0 ls st μ := h ls st μ k
theorem of_X11_push {d : Nat} {a0 a1 : zV} {μ : zM} {Q : zQ} (h : ∀ G : Nat → zK, S_X11_push d G Q → G 0 [a0, a1] [] μ) : zCt d mX11_push [a0, a1] μ Q := zCt.mk (by decide) (Nat.le_of_ble_eq_true rfl) (fun p l e s m args below meth c E B hr hlk => h _ (k_X11_push_0 B hr hlk))
theorem dX11_addTwo_0 : decode cX11_addTwo 0 = .ok (.aload_n 0, 1) := by decide +kernel
theorem dX11_addTwo_1 : decode cX11_addTwo 1 = .ok (.iload_n 1, 1) := by decide +kernel
theorem dX11_addTwo_2 : decode cX11_addTwo 2 = .ok (.sipush 255, 3) := by decide +kernel
theorem dX11_addTwo_5 : decode cX11_addTwo 5 = .ok (.iand, 1) := by decide +kernel
theorem dX11_addTwo_6 : decode cX11_addTwo 6 = .ok (.invokevirtual 121, 3) := by decide +kernel
theorem dX11_addTwo_9 : decode cX11_addTwo 9 = .ok (.aload_n 0, 1) := by decide +kernel
theorem dX11_addTwo_10 : decode cX11_addTwo 10 = .ok (.iload_n 1, 1) := by decide +kernel
theorem dX11_addTwo_11 : decode cX11_addTwo 11 = .ok (.bipush 8, 2) := by decide +kernel
theorem dX11_addTwo_13 : decode cX11_addTwo 13 = .ok (.ishr, 1) := by decide +kernel
theorem dX11_addTwo_14 : decode cX11_addTwo 14 = .ok (.invokevirtual 121, 3) := by decide +kernel
theorem dX11_addTwo_17 : decode cX11_addTwo 17 = .ok (.return_, 1) := by decide +kernel
def b_X11_addTwo_0 (d : Nat) (G : Nat → zK) (Q : zQ) : zK := o_al 0 <| o_il 1 <| o_c 255 <| o_and <| o_callv (zCt (d - 1) mX11_push) 9 2 <| o_al 0 <| o_il 1 <| o_c 8 <| o_shr <| o_callv (zCt (d - 1) mX11_push) 9 2 <| t_vret Q
set_option maxRecDepth 20000 in
theorem k_X11_addTwo_0 {p : Program} {l : Launch} {e : Env} {s : State} {m : MethodId} {args : Array Value} {below : List Frame} {meth : Method} {c : Code} {E : zE} {d : Nat} {Q : zQ} (hd1 : 1 ≤ d) (B : zB p s m args c E mX11_addTwo.1.cls mX11_addTwo.2.1 mX11_addTwo.2.2.1) (hr : meth.sig.returnType = mX11_addTwo.2.2.2) (hlk : meth.locks = false) : zLk (zG p l e (zrm d) s m args below meth c E mX11_addTwo.2.2.1 0 0 (MQ below (zQc E Q) args s 0 0 (zaA E))) 0 (b_X11_addTwo_0 d (zG p l e (zrm d) s m args below meth c E mX11_addTwo.2.2.1 0 0 (MQ below (zQc E Q) args s 0 0 (zaA E))) Q) := by
  unfold b_X11_addTwo_0
  exact lk_aln B dX11_addTwo_0 rfl (lk_iln B dX11_addTwo_1 rfl (lk_s B dX11_addTwo_2 rfl (lk_and B dX11_addTwo_5 (lk_callv (M := mX11_push) (T := TX11) (N := 41) B (zhR hd1 (by decide)) ⟨Nat.zero_le _, Nat.zero_le _⟩ cl_X11 (zw5 zw_941 zw_938 zw_940 zw_16 zw_58) (by decide +kernel) dX11_addTwo_6 (lk_aln B dX11_addTwo_9 rfl (lk_iln B dX11_addTwo_10 rfl (lk_b B dX11_addTwo_11 rfl (lk_shr B dX11_addTwo_13 (lk_callv (M := mX11_push) (T := TX11) (N := 41) B (zhR hd1 (by decide)) ⟨Nat.zero_le _, Nat.zero_le _⟩ cl_X11 (zw5 zw_941 zw_938 zw_940 zw_16 zw_58) (by decide +kernel) dX11_addTwo_14 (lk_vret B hr hlk dX11_addTwo_17))))))))))
def S_X11_addTwo (d : Nat) (G : Nat → zK) (Q : zQ) : Prop := zLk G 0 (b_X11_addTwo_0 d G Q)
theorem s_X11_addTwo_0 {d : Nat} {G : Nat → zK} {Q : zQ} (h : S_X11_addTwo d G Q) {ls st : List zV} {μ : zM} (k : b_X11_addTwo_0 d G Q ls st μ) : G 0 ls st μ := h ls st μ k
theorem of_X11_addTwo {d : Nat} {a0 a1 : zV} {μ : zM} {Q : zQ} (hd1 : 1 ≤ d) (h : ∀ G : Nat → zK, S_X11_addTwo d G Q → G 0 [a0, a1] [] μ) : zCt d mX11_addTwo [a0, a1] μ Q := zCt.mk (by decide) (Nat.le_of_ble_eq_true rfl) (fun p l e s m args below meth c E B hr hlk => h _ (k_X11_addTwo_0 hd1 B hr hlk))
theorem dX11_two_0 : decode cX11_two 0 = .ok (.aload_n 0, 1) := by decide +kernel
theorem dX11_two_1 : decode cX11_two 1 = .ok (.getfield 71, 3) := by decide +kernel
theorem dX11_two_4 : decode cX11_two 4 = .ok (.iload_n 1, 1) := by decide +kernel
theorem dX11_two_5 : decode cX11_two 5 = .ok (.iaload, 1) := by decide +kernel
theorem dX11_two_6 : decode cX11_two 6 = .ok (.sipush 256, 3) := by decide +kernel
theorem dX11_two_9 : decode cX11_two 9 = .ok (.aload_n 0, 1) := by decide +kernel
theorem dX11_two_10 : decode cX11_two 10 = .ok (.getfield 71, 3) := by decide +kernel
theorem dX11_two_13 : decode cX11_two 13 = .ok (.iload_n 1, 1) := by decide +kernel
theorem dX11_two_14 : decode cX11_two 14 = .ok (.iconst 1, 1) := by decide +kernel
theorem dX11_two_15 : decode cX11_two 15 = .ok (.iadd, 1) := by decide +kernel
theorem dX11_two_16 : decode cX11_two 16 = .ok (.iaload, 1) := by decide +kernel
theorem dX11_two_17 : decode cX11_two 17 = .ok (.imul, 1) := by decide +kernel
theorem dX11_two_18 : decode cX11_two 18 = .ok (.iadd, 1) := by decide +kernel
theorem dX11_two_19 : decode cX11_two 19 = .ok (.ireturn, 1) := by decide +kernel
def b_X11_two_0 (d : Nat) (G : Nat → zK) (Q : zQ) : zK := o_al 0 <| o_gf 9 23 <| o_il 1 <| o_iald <| o_c 256 <| o_al 0 <| o_gf 9 23 <| o_il 1 <| o_c 1 <| o_add <| o_iald <| o_mul <| o_add <| t_iret Q
set_option maxRecDepth 20000 in
theorem k_X11_two_0 {p : Program} {l : Launch} {e : Env} {s : State} {m : MethodId} {args : Array Value} {below : List Frame} {meth : Method} {c : Code} {E : zE} {d : Nat} {Q : zQ} (B : zB p s m args c E mX11_two.1.cls mX11_two.2.1 mX11_two.2.2.1) (hr : meth.sig.returnType = mX11_two.2.2.2) (hlk : meth.locks = false) : zLk (zG p l e (zrm d) s m args below meth c E mX11_two.2.2.1 0 0 (MQ below (zQc E Q) args s 0 0 (zaA E))) 0 (b_X11_two_0 d (zG p l e (zrm d) s m args below meth c E mX11_two.2.2.1 0 0 (MQ below (zQc E Q) args s 0 0 (zaA E))) Q) := by
  unfold b_X11_two_0
  exact lk_aln B dX11_two_0 rfl (lk_gf (T := TX11) B cl_X11 (by decide) in_X11 zw_811 dX11_two_1 (lk_iln B dX11_two_4 rfl (lk_iald B dX11_two_5 (lk_s B dX11_two_6 rfl (lk_aln B dX11_two_9 rfl (lk_gf (T := TX11) B cl_X11 (by decide) in_X11 zw_811 dX11_two_10 (lk_iln B dX11_two_13 rfl (lk_c B dX11_two_14 (lk_add B dX11_two_15 (lk_iald B dX11_two_16 (lk_mul B dX11_two_17 (lk_add B dX11_two_18 (lk_iret B hr hlk dX11_two_19)))))))))))))
def S_X11_two (d : Nat) (G : Nat → zK) (Q : zQ) : Prop := zLk G 0 (b_X11_two_0 d G Q)
theorem s_X11_two_0 {d : Nat} {G : Nat → zK} {Q : zQ} (h : S_X11_two d G Q) {ls st : List zV} {μ : zM} (k : b_X11_two_0 d G Q ls st μ) : G 0 ls st μ := h ls st μ k
theorem of_X11_two {d : Nat} {a0 a1 : zV} {μ : zM} {Q : zQ} (h : ∀ G : Nat → zK, S_X11_two d G Q → G 0 [a0, a1] [] μ) : zCt d mX11_two [a0, a1] μ Q := zCt.mk (by decide) (Nat.le_of_ble_eq_true rfl) (fun p l e s m args below meth c E B hr hlk => h _ (k_X11_two_0 B hr hlk))
theorem dX11_bits_0 : decode cX11_bits 0 = .ok (.iload_n 0, 1) := by decide +kernel
theorem dX11_bits_1 : decode cX11_bits 1 = .ok (.iconst 1, 1) := by decide +kernel
theorem dX11_bits_2 : decode cX11_bits 2 = .ok (.iand, 1) := by decide +kernel
theorem dX11_bits_3 : decode cX11_bits 3 = .ok (.iload_n 0, 1) := by decide +kernel
theorem dX11_bits_4 : decode cX11_bits 4 = .ok (.iconst 1, 1) := by decide +kernel
theorem dX11_bits_5 : decode cX11_bits 5 = .ok (.ishr, 1) := by decide +kernel
theorem dX11_bits_6 : decode cX11_bits 6 = .ok (.iconst 1, 1) := by decide +kernel
theorem dX11_bits_7 : decode cX11_bits 7 = .ok (.iand, 1) := by decide +kernel
theorem dX11_bits_8 : decode cX11_bits 8 = .ok (.iadd, 1) := by decide +kernel
theorem dX11_bits_9 : decode cX11_bits 9 = .ok (.iload_n 0, 1) := by decide +kernel
theorem dX11_bits_10 : decode cX11_bits 10 = .ok (.iconst 2, 1) := by decide +kernel
theorem dX11_bits_11 : decode cX11_bits 11 = .ok (.ishr, 1) := by decide +kernel
theorem dX11_bits_12 : decode cX11_bits 12 = .ok (.iconst 1, 1) := by decide +kernel
theorem dX11_bits_13 : decode cX11_bits 13 = .ok (.iand, 1) := by decide +kernel
theorem dX11_bits_14 : decode cX11_bits 14 = .ok (.iadd, 1) := by decide +kernel
theorem dX11_bits_15 : decode cX11_bits 15 = .ok (.iload_n 0, 1) := by decide +kernel
theorem dX11_bits_16 : decode cX11_bits 16 = .ok (.iconst 3, 1) := by decide +kernel
theorem dX11_bits_17 : decode cX11_bits 17 = .ok (.ishr, 1) := by decide +kernel
theorem dX11_bits_18 : decode cX11_bits 18 = .ok (.iconst 1, 1) := by decide +kernel
theorem dX11_bits_19 : decode cX11_bits 19 = .ok (.iand, 1) := by decide +kernel
theorem dX11_bits_20 : decode cX11_bits 20 = .ok (.iadd, 1) := by decide +kernel
theorem dX11_bits_21 : decode cX11_bits 21 = .ok (.ireturn, 1) := by decide +kernel
def b_X11_bits_0 (d : Nat) (G : Nat → zK) (Q : zQ) : zK := o_il 0 <| o_c 1 <| o_and <| o_il 0 <| o_c 1 <| o_shr <| o_c 1 <| o_and <| o_add <| o_il 0 <| o_c 2 <| o_shr <| o_c 1 <| o_and <| o_add <| o_il 0 <| o_c 3 <| o_shr <| o_c 1 <| o_and <| o_add <| t_iret Q
set_option maxRecDepth 20000 in
theorem k_X11_bits_0 {p : Program} {l : Launch} {e : Env} {s : State} {m : MethodId} {args : Array Value} {below : List Frame} {meth : Method} {c : Code} {E : zE} {d : Nat} {Q : zQ} (B : zB p s m args c E mX11_bits.1.cls mX11_bits.2.1 mX11_bits.2.2.1) (hr : meth.sig.returnType = mX11_bits.2.2.2) (hlk : meth.locks = false) : zLk (zG p l e (zrm d) s m args below meth c E mX11_bits.2.2.1 0 0 (MQ below (zQc E Q) args s 0 0 (zaA E))) 0 (b_X11_bits_0 d (zG p l e (zrm d) s m args below meth c E mX11_bits.2.2.1 0 0 (MQ below (zQc E Q) args s 0 0 (zaA E))) Q) := by
  unfold b_X11_bits_0
  exact lk_iln B dX11_bits_0 rfl (lk_c B dX11_bits_1 (lk_and B dX11_bits_2 (lk_iln B dX11_bits_3 rfl (lk_c B dX11_bits_4 (lk_shr B dX11_bits_5 (lk_c B dX11_bits_6 (lk_and B dX11_bits_7 (lk_add B dX11_bits_8 (lk_iln B dX11_bits_9 rfl (lk_c B dX11_bits_10 (lk_shr B dX11_bits_11 (lk_c B dX11_bits_12 (lk_and B dX11_bits_13 (lk_add B dX11_bits_14 (lk_iln B dX11_bits_15 rfl (lk_c B dX11_bits_16 (lk_shr B dX11_bits_17 (lk_c B dX11_bits_18 (lk_and B dX11_bits_19 (lk_add B dX11_bits_20 (lk_iret B hr hlk dX11_bits_21)))))))))))))))))))))
def S_X11_bits (d : Nat) (G : Nat → zK) (Q : zQ) : Prop := zLk G 0 (b_X11_bits_0 d G Q)
theorem s_X11_bits_0 {d : Nat} {G : Nat → zK} {Q : zQ} (h : S_X11_bits d G Q) {ls st : List zV} {μ : zM} (k : b_X11_bits_0 d G Q ls st μ) : G 0 ls st μ := h ls st μ k
theorem of_X11_bits {d : Nat} {a0 : zV} {μ : zM} {Q : zQ} (h : ∀ G : Nat → zK, S_X11_bits d G Q → G 0 [a0] [] μ) : zCt d mX11_bits [a0] μ Q := zCt.mk (by decide) (Nat.le_of_ble_eq_true rfl) (fun p l e s m args below meth c E B hr hlk => h _ (k_X11_bits_0 B hr hlk))
theorem dX11_isBlock_0 : decode cX11_isBlock 0 = .ok (.aload_n 0, 1) := by decide +kernel
theorem dX11_isBlock_1 : decode cX11_isBlock 1 = .ok (.getfield 118, 3) := by decide +kernel
theorem dX11_isBlock_4 : decode cX11_isBlock 4 = .ok (.iconst 1, 1) := by decide +kernel
theorem dX11_isBlock_5 : decode cX11_isBlock 5 = .ok (.if_icmp .ge 5, 3) := by decide +kernel
theorem dX11_isBlock_8 : decode cX11_isBlock 8 = .ok (.iconst 0, 1) := by decide +kernel
theorem dX11_isBlock_9 : decode cX11_isBlock 9 = .ok (.ireturn, 1) := by decide +kernel
theorem dX11_isBlock_10 : decode cX11_isBlock 10 = .ok (.aload_n 0, 1) := by decide +kernel
theorem dX11_isBlock_11 : decode cX11_isBlock 11 = .ok (.getfield 118, 3) := by decide +kernel
theorem dX11_isBlock_14 : decode cX11_isBlock 14 = .ok (.iconst 1, 1) := by decide +kernel
theorem dX11_isBlock_15 : decode cX11_isBlock 15 = .ok (.if_icmp .le 12, 3) := by decide +kernel
theorem dX11_isBlock_18 : decode cX11_isBlock 18 = .ok (.aload_n 0, 1) := by decide +kernel
theorem dX11_isBlock_19 : decode cX11_isBlock 19 = .ok (.getfield 71, 3) := by decide +kernel
theorem dX11_isBlock_22 : decode cX11_isBlock 22 = .ok (.iconst 1, 1) := by decide +kernel
theorem dX11_isBlock_23 : decode cX11_isBlock 23 = .ok (.iaload, 1) := by decide +kernel
theorem dX11_isBlock_24 : decode cX11_isBlock 24 = .ok (.goto 4, 3) := by decide +kernel
theorem dX11_isBlock_27 : decode cX11_isBlock 27 = .ok (.iconst (-1), 1) := by decide +kernel
theorem dX11_isBlock_28 : decode cX11_isBlock 28 = .ok (.istore_n 1, 1) := by decide +kernel
theorem dX11_isBlock_29 : decode cX11_isBlock 29 = .ok (.iconst 1, 1) := by decide +kernel
theorem dX11_isBlock_30 : decode cX11_isBlock 30 = .ok (.istore_n 2, 1) := by decide +kernel
theorem dX11_isBlock_31 : decode cX11_isBlock 31 = .ok (.aload_n 0, 1) := by decide +kernel
theorem dX11_isBlock_32 : decode cX11_isBlock 32 = .ok (.getfield 71, 3) := by decide +kernel
theorem dX11_isBlock_35 : decode cX11_isBlock 35 = .ok (.iconst 0, 1) := by decide +kernel
theorem dX11_isBlock_36 : decode cX11_isBlock 36 = .ok (.iaload, 1) := by decide +kernel
theorem dX11_isBlock_37 : decode cX11_isBlock 37 = .ok (.tableswitch 280 0 3 #[31, 46, 121, 214], 31) := by decide +kernel
theorem dX11_isBlock_68 : decode cX11_isBlock 68 = .ok (.aload_n 0, 1) := by decide +kernel
theorem dX11_isBlock_69 : decode cX11_isBlock 69 = .ok (.getfield 118, 3) := by decide +kernel
theorem dX11_isBlock_72 : decode cX11_isBlock 72 = .ok (.bipush 9, 2) := by decide +kernel
theorem dX11_isBlock_74 : decode cX11_isBlock 74 = .ok (.if_icmp .gt 7, 3) := by decide +kernel
theorem dX11_isBlock_77 : decode cX11_isBlock 77 = .ok (.iconst 1, 1) := by decide +kernel
theorem dX11_isBlock_78 : decode cX11_isBlock 78 = .ok (.goto 4, 3) := by decide +kernel
theorem dX11_isBlock_81 : decode cX11_isBlock 81 = .ok (.iconst 0, 1) := by decide +kernel
theorem dX11_isBlock_82 : decode cX11_isBlock 82 = .ok (.ireturn, 1) := by decide +kernel
theorem dX11_isBlock_83 : decode cX11_isBlock 83 = .ok (.iload_n 1, 1) := by decide +kernel
theorem dX11_isBlock_84 : decode cX11_isBlock 84 = .ok (.iconst 1, 1) := by decide +kernel
theorem dX11_isBlock_85 : decode cX11_isBlock 85 = .ok (.if_icmp .lt 20, 3) := by decide +kernel
theorem dX11_isBlock_88 : decode cX11_isBlock 88 = .ok (.iload_n 1, 1) := by decide +kernel
theorem dX11_isBlock_89 : decode cX11_isBlock 89 = .ok (.iconst 4, 1) := by decide +kernel
theorem dX11_isBlock_90 : decode cX11_isBlock 90 = .ok (.if_icmp .gt 15, 3) := by decide +kernel
theorem dX11_isBlock_93 : decode cX11_isBlock 93 = .ok (.aload_n 0, 1) := by decide +kernel
theorem dX11_isBlock_94 : decode cX11_isBlock 94 = .ok (.getfield 118, 3) := by decide +kernel
theorem dX11_isBlock_97 : decode cX11_isBlock 97 = .ok (.iconst 2, 1) := by decide +kernel
theorem dX11_isBlock_98 : decode cX11_isBlock 98 = .ok (.iconst 4, 1) := by decide +kernel
theorem dX11_isBlock_99 : decode cX11_isBlock 99 = .ok (.iload_n 1, 1) := by decide +kernel
theorem dX11_isBlock_100 : decode cX11_isBlock 100 = .ok (.imul, 1) := by decide +kernel
theorem dX11_isBlock_101 : decode cX11_isBlock 101 = .ok (.iadd, 1) := by decide +kernel
theorem dX11_isBlock_102 : decode cX11_isBlock 102 = .ok (.if_icmp .eq 5, 3) := by decide +kernel
theorem dX11_isBlock_105 : decode cX11_isBlock 105 = .ok (.iconst 0, 1) := by decide +kernel
theorem dX11_isBlock_106 : decode cX11_isBlock 106 = .ok (.ireturn, 1) := by decide +kernel
theorem dX11_isBlock_107 : decode cX11_isBlock 107 = .ok (.iconst 0, 1) := by decide +kernel
theorem dX11_isBlock_108 : decode cX11_isBlock 108 = .ok (.istore_n 3, 1) := by decide +kernel
theorem dX11_isBlock_109 : decode cX11_isBlock 109 = .ok (.iload_n 3, 1) := by decide +kernel
theorem dX11_isBlock_110 : decode cX11_isBlock 110 = .ok (.iload_n 1, 1) := by decide +kernel
theorem dX11_isBlock_111 : decode cX11_isBlock 111 = .ok (.if_icmp .ge 45, 3) := by decide +kernel
theorem dX11_isBlock_114 : decode cX11_isBlock 114 = .ok (.iload_n 2, 1) := by decide +kernel
theorem dX11_isBlock_115 : decode cX11_isBlock 115 = .ok (.ifCond .eq 33, 3) := by decide +kernel
theorem dX11_isBlock_118 : decode cX11_isBlock 118 = .ok (.aload_n 0, 1) := by decide +kernel
theorem dX11_isBlock_119 : decode cX11_isBlock 119 = .ok (.iconst 2, 1) := by decide +kernel
theorem dX11_isBlock_120 : decode cX11_isBlock 120 = .ok (.iconst 4, 1) := by decide +kernel
theorem dX11_isBlock_121 : decode cX11_isBlock 121 = .ok (.iload_n 3, 1) := by decide +kernel
theorem dX11_isBlock_122 : decode cX11_isBlock 122 = .ok (.imul, 1) := by decide +kernel
theorem dX11_isBlock_123 : decode cX11_isBlock 123 = .ok (.iadd, 1) := by decide +kernel
theorem dX11_isBlock_124 : decode cX11_isBlock 124 = .ok (.invokevirtual 125, 3) := by decide +kernel
theorem dX11_isBlock_127 : decode cX11_isBlock 127 = .ok (.ifCond .le 21, 3) := by decide +kernel
theorem dX11_isBlock_130 : decode cX11_isBlock 130 = .ok (.aload_n 0, 1) := by decide +kernel
theorem dX11_isBlock_131 : decode cX11_isBlock 131 = .ok (.iconst 4, 1) := by decide +kernel
theorem dX11_isBlock_132 : decode cX11_isBlock 132 = .ok (.iconst 4, 1) := by decide +kernel
theorem dX11_isBlock_133 : decode cX11_isBlock 133 = .ok (.iload_n 3, 1) := by decide +kernel
theorem dX11_isBlock_134 : decode cX11_isBlock 134 = .ok (.imul, 1) := by decide +kernel
theorem dX11_isBlock_135 : decode cX11_isBlock 135 = .ok (.iadd, 1) := by decide +kernel
theorem dX11_isBlock_136 : decode cX11_isBlock 136 = .ok (.invokevirtual 125, 3) := by decide +kernel
theorem dX11_isBlock_139 : decode cX11_isBlock 139 = .ok (.ldc 117, 2) := by decide +kernel
theorem dX11_isBlock_141 : decode cX11_isBlock 141 = .ok (.if_icmp .gt 7, 3) := by decide +kernel
theorem dX11_isBlock_144 : decode cX11_isBlock 144 = .ok (.iconst 1, 1) := by decide +kernel
theorem dX11_isBlock_145 : decode cX11_isBlock 145 = .ok (.goto 4, 3) := by decide +kernel
theorem dX11_isBlock_148 : decode cX11_isBlock 148 = .ok (.iconst 0, 1) := by decide +kernel
theorem dX11_isBlock_149 : decode cX11_isBlock 149 = .ok (.istore_n 2, 1) := by decide +kernel
theorem dX11_isBlock_150 : decode cX11_isBlock 150 = .ok (.iinc 3 1, 3) := by decide +kernel
theorem dX11_isBlock_153 : decode cX11_isBlock 153 = .ok (.goto (-44), 3) := by decide +kernel
theorem dX11_isBlock_156 : decode cX11_isBlock 156 = .ok (.iload_n 2, 1) := by decide +kernel
theorem dX11_isBlock_157 : decode cX11_isBlock 157 = .ok (.ireturn, 1) := by decide +kernel
theorem dX11_isBlock_158 : decode cX11_isBlock 158 = .ok (.iload_n 1, 1) := by decide +kernel
theorem dX11_isBlock_159 : decode cX11_isBlock 159 = .ok (.ifCond .lt 20, 3) := by decide +kernel
theorem dX11_isBlock_162 : decode cX11_isBlock 162 = .ok (.iload_n 1, 1) := by decide +kernel
theorem dX11_isBlock_163 : decode cX11_isBlock 163 = .ok (.iconst 4, 1) := by decide +kernel
theorem dX11_isBlock_164 : decode cX11_isBlock 164 = .ok (.if_icmp .gt 15, 3) := by decide +kernel
theorem dX11_isBlock_167 : decode cX11_isBlock 167 = .ok (.aload_n 0, 1) := by decide +kernel
theorem dX11_isBlock_168 : decode cX11_isBlock 168 = .ok (.getfield 118, 3) := by decide +kernel
theorem dX11_isBlock_171 : decode cX11_isBlock 171 = .ok (.iconst 2, 1) := by decide +kernel
theorem dX11_isBlock_172 : decode cX11_isBlock 172 = .ok (.iconst 3, 1) := by decide +kernel
theorem dX11_isBlock_173 : decode cX11_isBlock 173 = .ok (.iload_n 1, 1) := by decide +kernel
theorem dX11_isBlock_174 : decode cX11_isBlock 174 = .ok (.imul, 1) := by decide +kernel
theorem dX11_isBlock_175 : decode cX11_isBlock 175 = .ok (.iadd, 1) := by decide +kernel
theorem dX11_isBlock_176 : decode cX11_isBlock 176 = .ok (.if_icmp .eq 5, 3) := by decide +kernel
theorem dX11_isBlock_179 : decode cX11_isBlock 179 = .ok (.iconst 0, 1) := by decide +kernel
theorem dX11_isBlock_180 : decode cX11_isBlock 180 = .ok (.ireturn, 1) := by decide +kernel
theorem dX11_isBlock_181 : decode cX11_isBlock 181 = .ok (.iconst 0, 1) := by decide +kernel
theorem dX11_isBlock_182 : decode cX11_isBlock 182 = .ok (.istore_n 3, 1) := by decide +kernel
theorem dX11_isBlock_183 : decode cX11_isBlock 183 = .ok (.iload_n 3, 1) := by decide +kernel
theorem dX11_isBlock_184 : decode cX11_isBlock 184 = .ok (.iload_n 1, 1) := by decide +kernel
theorem dX11_isBlock_185 : decode cX11_isBlock 185 = .ok (.if_icmp .ge 64, 3) := by decide +kernel
theorem dX11_isBlock_188 : decode cX11_isBlock 188 = .ok (.iload_n 2, 1) := by decide +kernel
theorem dX11_isBlock_189 : decode cX11_isBlock 189 = .ok (.ifCond .eq 52, 3) := by decide +kernel
theorem dX11_isBlock_192 : decode cX11_isBlock 192 = .ok (.aload_n 0, 1) := by decide +kernel
theorem dX11_isBlock_193 : decode cX11_isBlock 193 = .ok (.getfield 71, 3) := by decide +kernel
theorem dX11_isBlock_196 : decode cX11_isBlock 196 = .ok (.iconst 2, 1) := by decide +kernel
theorem dX11_isBlock_197 : decode cX11_isBlock 197 = .ok (.iconst 3, 1) := by decide +kernel
theorem dX11_isBlock_198 : decode cX11_isBlock 198 = .ok (.iload_n 3, 1) := by decide +kernel
theorem dX11_isBlock_199 : decode cX11_isBlock 199 = .ok (.imul, 1) := by decide +kernel
theorem dX11_isBlock_200 : decode cX11_isBlock 200 = .ok (.iadd, 1) := by decide +kernel
theorem dX11_isBlock_201 : decode cX11_isBlock 201 = .ok (.iaload, 1) := by decide +kernel
theorem dX11_isBlock_202 : decode cX11_isBlock 202 = .ok (.iload_n 3, 1) := by decide +kernel
theorem dX11_isBlock_203 : decode cX11_isBlock 203 = .ok (.ifCond .ne 7, 3) := by decide +kernel
theorem dX11_isBlock_206 : decode cX11_isBlock 206 = .ok (.iconst 0, 1) := by decide +kernel
theorem dX11_isBlock_207 : decode cX11_isBlock 207 = .ok (.goto 13, 3) := by decide +kernel
theorem dX11_isBlock_210 : decode cX11_isBlock 210 = .ok (.aload_n 0, 1) := by decide +kernel
theorem dX11_isBlock_211 : decode cX11_isBlock 211 = .ok (.getfield 71, 3) := by decide +kernel
theorem dX11_isBlock_214 : decode cX11_isBlock 214 = .ok (.iconst 3, 1) := by decide +kernel
theorem dX11_isBlock_215 : decode cX11_isBlock 215 = .ok (.iload_n 3, 1) := by decide +kernel
theorem dX11_isBlock_216 : decode cX11_isBlock 216 = .ok (.imul, 1) := by decide +kernel
theorem dX11_isBlock_217 : decode cX11_isBlock 217 = .ok (.iconst 1, 1) := by decide +kernel
theorem dX11_isBlock_218 : decode cX11_isBlock 218 = .ok (.isub, 1) := by decide +kernel
theorem dX11_isBlock_219 : decode cX11_isBlock 219 = .ok (.iaload, 1) := by decide +kernel
theorem dX11_isBlock_220 : decode cX11_isBlock 220 = .ok (.if_icmp .le 21, 3) := by decide +kernel
theorem dX11_isBlock_223 : decode cX11_isBlock 223 = .ok (.aload_n 0, 1) := by decide +kernel
theorem dX11_isBlock_224 : decode cX11_isBlock 224 = .ok (.iconst 3, 1) := by decide +kernel
theorem dX11_isBlock_225 : decode cX11_isBlock 225 = .ok (.iconst 3, 1) := by decide +kernel
theorem dX11_isBlock_226 : decode cX11_isBlock 226 = .ok (.iload_n 3, 1) := by decide +kernel
theorem dX11_isBlock_227 : decode cX11_isBlock 227 = .ok (.imul, 1) := by decide +kernel
theorem dX11_isBlock_228 : decode cX11_isBlock 228 = .ok (.iadd, 1) := by decide +kernel
theorem dX11_isBlock_229 : decode cX11_isBlock 229 = .ok (.invokevirtual 125, 3) := by decide +kernel
theorem dX11_isBlock_232 : decode cX11_isBlock 232 = .ok (.ldc 117, 2) := by decide +kernel
theorem dX11_isBlock_234 : decode cX11_isBlock 234 = .ok (.if_icmp .gt 7, 3) := by decide +kernel
theorem dX11_isBlock_237 : decode cX11_isBlock 237 = .ok (.iconst 1, 1) := by decide +kernel
theorem dX11_isBlock_238 : decode cX11_isBlock 238 = .ok (.goto 4, 3) := by decide +kernel
theorem dX11_isBlock_241 : decode cX11_isBlock 241 = .ok (.iconst 0, 1) := by decide +kernel
theorem dX11_isBlock_242 : decode cX11_isBlock 242 = .ok (.istore_n 2, 1) := by decide +kernel
theorem dX11_isBlock_243 : decode cX11_isBlock 243 = .ok (.iinc 3 1, 3) := by decide +kernel
theorem dX11_isBlock_246 : decode cX11_isBlock 246 = .ok (.goto (-63), 3) := by decide +kernel
theorem dX11_isBlock_249 : decode cX11_isBlock 249 = .ok (.iload_n 2, 1) := by decide +kernel
theorem dX11_isBlock_250 : decode cX11_isBlock 250 = .ok (.ireturn, 1) := by decide +kernel
theorem dX11_isBlock_251 : decode cX11_isBlock 251 = .ok (.iload_n 1, 1) := by decide +kernel
theorem dX11_isBlock_252 : decode cX11_isBlock 252 = .ok (.iconst 1, 1) := by decide +kernel
theorem dX11_isBlock_253 : decode cX11_isBlock 253 = .ok (.if_icmp .lt 24, 3) := by decide +kernel
theorem dX11_isBlock_256 : decode cX11_isBlock 256 = .ok (.iload_n 1, 1) := by decide +kernel
theorem dX11_isBlock_257 : decode cX11_isBlock 257 = .ok (.bipush 15, 2) := by decide +kernel
theorem dX11_isBlock_259 : decode cX11_isBlock 259 = .ok (.if_icmp .gt 18, 3) := by decide +kernel
theorem dX11_isBlock_262 : decode cX11_isBlock 262 = .ok (.aload_n 0, 1) := by decide +kernel
theorem dX11_isBlock_263 : decode cX11_isBlock 263 = .ok (.getfield 118, 3) := by decide +kernel
theorem dX11_isBlock_266 : decode cX11_isBlock 266 = .ok (.iconst 2, 1) := by decide +kernel
theorem dX11_isBlock_267 : decode cX11_isBlock 267 = .ok (.iconst 2, 1) := by decide +kernel
theorem dX11_isBlock_268 : decode cX11_isBlock 268 = .ok (.iload_n 1, 1) := by decide +kernel
theorem dX11_isBlock_269 : decode cX11_isBlock 269 = .ok (.invokestatic 129, 3) := by decide +kernel
theorem dX11_isBlock_272 : decode cX11_isBlock 272 = .ok (.imul, 1) := by decide +kernel
theorem dX11_isBlock_273 : decode cX11_isBlock 273 = .ok (.iadd, 1) := by decide +kernel
theorem dX11_isBlock_274 : decode cX11_isBlock 274 = .ok (.if_icmp .eq 5, 3) := by decide +kernel
theorem dX11_isBlock_277 : decode cX11_isBlock 277 = .ok (.iconst 0, 1) := by decide +kernel
theorem dX11_isBlock_278 : decode cX11_isBlock 278 = .ok (.ireturn, 1) := by decide +kernel
theorem dX11_isBlock_279 : decode cX11_isBlock 279 = .ok (.iconst 2, 1) := by decide +kernel
theorem dX11_isBlock_280 : decode cX11_isBlock 280 = .ok (.istore_n 3, 1) := by decide +kernel
theorem dX11_isBlock_281 : decode cX11_isBlock 281 = .ok (.iload_n 3, 1) := by decide +kernel
theorem dX11_isBlock_282 : decode cX11_isBlock 282 = .ok (.aload_n 0, 1) := by decide +kernel
theorem dX11_isBlock_283 : decode cX11_isBlock 283 = .ok (.getfield 118, 3) := by decide +kernel
theorem dX11_isBlock_286 : decode cX11_isBlock 286 = .ok (.if_icmp .ge 29, 3) := by decide +kernel
theorem dX11_isBlock_289 : decode cX11_isBlock 289 = .ok (.iload_n 2, 1) := by decide +kernel
theorem dX11_isBlock_290 : decode cX11_isBlock 290 = .ok (.ifCond .eq 17, 3) := by decide +kernel
theorem dX11_isBlock_293 : decode cX11_isBlock 293 = .ok (.aload_n 0, 1) := by decide +kernel
theorem dX11_isBlock_294 : decode cX11_isBlock 294 = .ok (.iload_n 3, 1) := by decide +kernel
theorem dX11_isBlock_295 : decode cX11_isBlock 295 = .ok (.invokevirtual 125, 3) := by decide +kernel
theorem dX11_isBlock_298 : decode cX11_isBlock 298 = .ok (.ldc 117, 2) := by decide +kernel
theorem dX11_isBlock_300 : decode cX11_isBlock 300 = .ok (.if_icmp .gt 7, 3) := by decide +kernel
theorem dX11_isBlock_303 : decode cX11_isBlock 303 = .ok (.iconst 1, 1) := by decide +kernel
theorem dX11_isBlock_304 : decode cX11_isBlock 304 = .ok (.goto 4, 3) := by decide +kernel
theorem dX11_isBlock_307 : decode cX11_isBlock 307 = .ok (.iconst 0, 1) := by decide +kernel
theorem dX11_isBlock_308 : decode cX11_isBlock 308 = .ok (.istore_n 2, 1) := by decide +kernel
theorem dX11_isBlock_309 : decode cX11_isBlock 309 = .ok (.iinc 3 2, 3) := by decide +kernel
theorem dX11_isBlock_312 : decode cX11_isBlock 312 = .ok (.goto (-31), 3) := by decide +kernel
theorem dX11_isBlock_315 : decode cX11_isBlock 315 = .ok (.iload_n 2, 1) := by decide +kernel
theorem dX11_isBlock_316 : decode cX11_isBlock 316 = .ok (.ireturn, 1) := by decide +kernel
theorem dX11_isBlock_317 : decode cX11_isBlock 317 = .ok (.iconst 0, 1) := by decide +kernel
theorem dX11_isBlock_318 : decode cX11_isBlock 318 = .ok (.ireturn, 1) := by decide +kernel
def b_X11_isBlock_27 (d : Nat) (G : Nat → zK) (Q : zQ) : zK := o_c (-1) <| G 28
def b_X11_isBlock_18 (d : Nat) (G : Nat → zK) (Q : zQ) : zK := o_al 0 <| o_gf 9 23 <| o_c 1 <| o_iald <| G 28
def b_X11_isBlock_10 (d : Nat) (G : Nat → zK) (Q : zQ) : zK := o_al 0 <| o_gf 9 24 <| o_c 1 <| t_igt (b_X11_isBlock_18 d G Q) (b_X11_isBlock_27 d G Q)
def b_X11_isBlock_8 (d : Nat) (G : Nat → zK) (Q : zQ) : zK := o_c 0 <| t_zret Q
def b_X11_isBlock_0 (d : Nat) (G : Nat → zK) (Q : zQ) : zK := o_al 0 <| o_gf 9 24 <| o_c 1 <| t_ilt (b_X11_isBlock_8 d G Q) (b_X11_isBlock_10 d G Q)
def b_X11_isBlock_317 (d : Nat) (G : Nat → zK) (Q : zQ) : zK := o_c 0 <| t_zret Q
def b_X11_isBlock_82 (d : Nat) (G : Nat → zK) (Q : zQ) : zK := t_zret Q
def b_X11_isBlock_81 (d : Nat) (G : Nat → zK) (Q : zQ) : zK := o_c 0 <| b_X11_isBlock_82 d G Q
def b_X11_isBlock_77 (d : Nat) (G : Nat → zK) (Q : zQ) : zK := o_c 1 <| b_X11_isBlock_82 d G Q
def b_X11_isBlock_68 (d : Nat) (G : Nat → zK) (Q : zQ) : zK := o_al 0 <| o_gf 9 24 <| o_c 9 <| t_igt (b_X11_isBlock_81 d G Q) (b_X11_isBlock_77 d G Q)
def b_X11_isBlock_105 (d : Nat) (G : Nat → zK) (Q : zQ) : zK := o_c 0 <| t_zret Q
def b_X11_isBlock_107 (d : Nat) (G : Nat → zK) (Q : zQ) : zK := o_c 0 <| o_is 3 <| G 109
def b_X11_isBlock_93 (d : Nat) (G : Nat → zK) (Q : zQ) : zK := o_al 0 <| o_gf 9 24 <| o_c 2 <| o_c 4 <| o_il 1 <| o_mul <| o_add <| t_ieq (b_X11_isBlock_107 d G Q) (b_X11_isBlock_105 d G Q)
def b_X11_isBlock_88 (d : Nat) (G : Nat → zK) (Q : zQ) : zK := o_il 1 <| o_c 4 <| t_igt (b_X11_isBlock_105 d G Q) (b_X11_isBlock_93 d G Q)
def b_X11_isBlock_83 (d : Nat) (G : Nat → zK) (Q : zQ) : zK := o_il 1 <| o_c 1 <| t_ilt (b_X11_isBlock_105 d G Q) (b_X11_isBlock_88 d G Q)
def b_X11_isBlock_179 (d : Nat) (G : Nat → zK) (Q : zQ) : zK := o_c 0 <| t_zret Q
def b_X11_isBlock_181 (d : Nat) (G : Nat → zK) (Q : zQ) : zK := o_c 0 <| o_is 3 <| G 183
def b_X11_isBlock_167 (d : Nat) (G : Nat → zK) (Q : zQ) : zK := o_al 0 <| o_gf 9 24 <| o_c 2 <| o_c 3 <| o_il 1 <| o_mul <| o_add <| t_ieq (b_X11_isBlock_181 d G Q) (b_X11_isBlock_179 d G Q)
def b_X11_isBlock_162 (d : Nat) (G : Nat → zK) (Q : zQ) : zK := o_il 1 <| o_c 4 <| t_igt (b_X11_isBlock_179 d G Q) (b_X11_isBlock_167 d G Q)
def b_X11_isBlock_158 (d : Nat) (G : Nat → zK) (Q : zQ) : zK := o_il 1 <| t_zlt (b_X11_isBlock_179 d G Q) (b_X11_isBlock_162 d G Q)
def b_X11_isBlock_277 (d : Nat) (G : Nat → zK) (Q : zQ) : zK := o_c 0 <| t_zret Q
def b_X11_isBlock_279 (d : Nat) (G : Nat → zK) (Q : zQ) : zK := o_c 2 <| o_is 3 <| G 281
def b_X11_isBlock_262 (d : Nat) (G : Nat → zK) (Q : zQ) : zK := o_al 0 <| o_gf 9 24 <| o_c 2 <| o_c 2 <| o_il 1 <| o_call (zCt (d - 1) mX11_bits) 1 <| o_mul <| o_add <| t_ieq (b_X11_isBlock_279 d G Q) (b_X11_isBlock_277 d G Q)
def b_X11_isBlock_256 (d : Nat) (G : Nat → zK) (Q : zQ) : zK := o_il 1 <| o_c 15 <| t_igt (b_X11_isBlock_277 d G Q) (b_X11_isBlock_262 d G Q)
def b_X11_isBlock_251 (d : Nat) (G : Nat → zK) (Q : zQ) : zK := o_il 1 <| o_c 1 <| t_ilt (b_X11_isBlock_277 d G Q) (b_X11_isBlock_256 d G Q)
def b_X11_isBlock_28 (d : Nat) (G : Nat → zK) (Q : zQ) : zK := o_is 1 <| o_c 1 <| o_is 2 <| o_al 0 <| o_gf 9 23 <| o_c 0 <| o_iald <| t_sw [(0, b_X11_isBlock_68 d G Q), (1, b_X11_isBlock_83 d G Q), (2, b_X11_isBlock_158 d G Q), (3, b_X11_isBlock_251 d G Q)] (b_X11_isBlock_317 d G Q)
def b_X11_isBlock_156 (d : Nat) (G : Nat → zK) (Q : zQ) : zK := o_il 2 <| t_zret Q
def b_X11_isBlock_149 (d : Nat) (G : Nat → zK) (Q : zQ) : zK := o_is 2 <| o_inc 3 1 <| G 109
def b_X11_isBlock_148 (d : Nat) (G : Nat → zK) (Q : zQ) : zK := o_c 0 <| b_X11_isBlock_149 d G Q
def b_X11_isBlock_144 (d : Nat) (G : Nat → zK) (Q : zQ) : zK := o_c 1 <| b_X11_isBlock_149 d G Q
def b_X11_isBlock_130 (d : Nat) (G : Nat → zK) (Q : zQ) : zK := o_al 0 <| o_c 4 <| o_c 4 <| o_il 3 <| o_mul <| o_add <| o_callv (zCt (d - 1) mX11_two) 9 2 <| o_c 65520 <| t_igt (b_X11_isBlock_148 d G Q) (b_X11_isBlock_144 d G Q)
def b_X11_isBlock_118 (d : Nat) (G : Nat → zK) (Q : zQ) : zK := o_al 0 <| o_c 2 <| o_c 4 <| o_il 3 <| o_mul <| o_add <| o_callv (zCt (d - 1) mX11_two) 9 2 <| t_zgt (b_X11_isBlock_130 d G Q) (b_X11_isBlock_148 d G Q)
def b_X11_isBlock_114 (d : Nat) (G : Nat → zK) (Q : zQ) : zK := o_il 2 <| t_zeq (b_X11_isBlock_148 d G Q) (b_X11_isBlock_118 d G Q)
def b_X11_isBlock_109 (d : Nat) (G : Nat → zK) (Q : zQ) : zK := o_il 3 <| o_il 1 <| t_ilt (b_X11_isBlock_114 d G Q) (b_X11_isBlock_156 d G Q)
def b_X11_isBlock_249 (d : Nat) (G : Nat → zK) (Q : zQ) : zK := o_il 2 <| t_zret Q
def b_X11_isBlock_242 (d : Nat) (G : Nat → zK) (Q : zQ) : zK := o_is 2 <| o_inc 3 1 <| G 183
def b_X11_isBlock_241 (d : Nat) (G : Nat → zK) (Q : zQ) : zK := o_c 0 <| b_X11_isBlock_242 d G Q
def b_X11_isBlock_210 (d : Nat) (G : Nat → zK) (Q : zQ) : zK := o_al 0 <| o_gf 9 23 <| o_c 3 <| o_il 3 <| o_mul <| o_c 1 <| o_sub <| o_iald <| G 220
def b_X11_isBlock_206 (d : Nat) (G : Nat → zK) (Q : zQ) : zK := o_c 0 <| G 220
def b_X11_isBlock_192 (d : Nat) (G : Nat → zK) (Q : zQ) : zK := o_al 0 <| o_gf 9 23 <| o_c 2 <| o_c 3 <| o_il 3 <| o_mul <| o_add <| o_iald <| o_il 3 <| t_zeq (b_X11_isBlock_206 d G Q) (b_X11_isBlock_210 d G Q)
def b_X11_isBlock_188 (d : Nat) (G : Nat → zK) (Q : zQ) : zK := o_il 2 <| t_zeq (b_X11_isBlock_241 d G Q) (b_X11_isBlock_192 d G Q)
def b_X11_isBlock_183 (d : Nat) (G : Nat → zK) (Q : zQ) : zK := o_il 3 <| o_il 1 <| t_ilt (b_X11_isBlock_188 d G Q) (b_X11_isBlock_249 d G Q)
def b_X11_isBlock_237 (d : Nat) (G : Nat → zK) (Q : zQ) : zK := o_c 1 <| b_X11_isBlock_242 d G Q
def b_X11_isBlock_223 (d : Nat) (G : Nat → zK) (Q : zQ) : zK := o_al 0 <| o_c 3 <| o_c 3 <| o_il 3 <| o_mul <| o_add <| o_callv (zCt (d - 1) mX11_two) 9 2 <| o_c 65520 <| t_igt (b_X11_isBlock_241 d G Q) (b_X11_isBlock_237 d G Q)
def b_X11_isBlock_220 (d : Nat) (G : Nat → zK) (Q : zQ) : zK := t_igt (b_X11_isBlock_223 d G Q) (b_X11_isBlock_241 d G Q)
def b_X11_isBlock_315 (d : Nat) (G : Nat → zK) (Q : zQ) : zK := o_il 2 <| t_zret Q
def b_X11_isBlock_308 (d : Nat) (G : Nat → zK) (Q : zQ) : zK := o_is 2 <| o_inc 3 2 <| G 281
def b_X11_isBlock_307 (d : Nat) (G : Nat → zK) (Q : zQ) : zK := o_c 0 <| b_X11_isBlock_308 d G Q
def b_X11_isBlock_303 (d : Nat) (G : Nat → zK) (Q : zQ) : zK := o_c 1 <| b_X11_isBlock_308 d G Q
def b_X11_isBlock_293 (d : Nat) (G : Nat → zK) (Q : zQ) : zK := o_al 0 <| o_il 3 <| o_callv (zCt (d - 1) mX11_two) 9 2 <| o_c 65520 <| t_igt (b_X11_isBlock_307 d G Q) (b_X11_isBlock_303 d G Q)
def b_X11_isBlock_289 (d : Nat) (G : Nat → zK) (Q : zQ) : zK := o_il 2 <| t_zeq (b_X11_isBlock_307 d G Q) (b_X11_isBlock_293 d G Q)
def b_X11_isBlock_281 (d : Nat) (G : Nat → zK) (Q : zQ) : zK := o_il 3 <| o_al 0 <| o_gf 9 24 <| t_ilt (b_X11_isBlock_289 d G Q) (b_X11_isBlock_315 d G Q)
set_option maxRecDepth 20000 in
theorem k_X11_isBlock_27 {p : Program} {l : Launch} {e : Env} {s : State} {m : MethodId} {args : Array Value} {below : List Frame} {meth : Method} {c : Code} {E : zE} {d : Nat} {Q : zQ} (hd1 : 1 ≤ d) (B : zB p s m args c E mX11_isBlock.1.cls mX11_isBlock.2.1 mX11_isBlock.2.2.1) (hr : meth.sig.returnType = mX11_isBlock.2.2.2) (hlk : meth.locks = false) : zLk (zG p l e (zrm d) s m args below meth c E mX11_isBlock.2.2.1 0 0 (MQ below (zQc E Q) args s 0 0 (zaA E))) 27 (b_X11_isBlock_27 d (zG p l e (zrm d) s m args below meth c E mX11_isBlock.2.2.1 0 0 (MQ below (zQc E Q) args s 0 0 (zaA E))) Q) := by
  unfold b_X11_isBlock_27
  exact lk_c B dX11_isBlock_27 (fun _ _ _ h => h)
set_option maxRecDepth 20000 in
theorem k_X11_isBlock_18 {p : Program} {l : Launch} {e : Env} {s : State} {m : MethodId} {args : Array Value} {below : List Frame} {meth : Method} {c : Code} {E : zE} {d : Nat} {Q : zQ} (hd1 : 1 ≤ d) (B : zB p s m args c E mX11_isBlock.1.cls mX11_isBlock.2.1 mX11_isBlock.2.2.1) (hr : meth.sig.returnType = mX11_isBlock.2.2.2) (hlk : meth.locks = false) : zLk (zG p l e (zrm d) s m args below meth c E mX11_isBlock.2.2.1 0 0 (MQ below (zQc E Q) args s 0 0 (zaA E))) 18 (b_X11_isBlock_18 d (zG p l e (zrm d) s m args below meth c E mX11_isBlock.2.2.1 0 0 (MQ below (zQc E Q) args s 0 0 (zaA E))) Q) := by
  unfold b_X11_isBlock_18
  exact lk_aln B dX11_isBlock_18 rfl (lk_gf (T := TX11) B cl_X11 (by decide) in_X11 zw_811 dX11_isBlock_19 (lk_c B dX11_isBlock_22 (lk_iald B dX11_isBlock_23 (lk_goto B dX11_isBlock_24 (by decide) (fun _ _ _ h => h)))))
set_option maxRecDepth 20000 in
theorem k_X11_isBlock_10 {p : Program} {l : Launch} {e : Env} {s : State} {m : MethodId} {args : Array Value} {below : List Frame} {meth : Method} {c : Code} {E : zE} {d : Nat} {Q : zQ} (hd1 : 1 ≤ d) (B : zB p s m args c E mX11_isBlock.1.cls mX11_isBlock.2.1 mX11_isBlock.2.2.1) (hr : meth.sig.returnType = mX11_isBlock.2.2.2) (hlk : meth.locks = false) : zLk (zG p l e (zrm d) s m args below meth c E mX11_isBlock.2.2.1 0 0 (MQ below (zQc E Q) args s 0 0 (zaA E))) 10 (b_X11_isBlock_10 d (zG p l e (zrm d) s m args below meth c E mX11_isBlock.2.2.1 0 0 (MQ below (zQc E Q) args s 0 0 (zaA E))) Q) := by
  unfold b_X11_isBlock_10
  exact lk_aln B dX11_isBlock_10 rfl (lk_gf (T := TX11) B cl_X11 (by decide) in_X11 zw_812 dX11_isBlock_11 (lk_c B dX11_isBlock_14 (lk_ile B dX11_isBlock_15 (by decide) (k_X11_isBlock_27 hd1 B hr hlk) (k_X11_isBlock_18 hd1 B hr hlk))))
set_option maxRecDepth 20000 in
theorem k_X11_isBlock_8 {p : Program} {l : Launch} {e : Env} {s : State} {m : MethodId} {args : Array Value} {below : List Frame} {meth : Method} {c : Code} {E : zE} {d : Nat} {Q : zQ} (hd1 : 1 ≤ d) (B : zB p s m args c E mX11_isBlock.1.cls mX11_isBlock.2.1 mX11_isBlock.2.2.1) (hr : meth.sig.returnType = mX11_isBlock.2.2.2) (hlk : meth.locks = false) : zLk (zG p l e (zrm d) s m args below meth c E mX11_isBlock.2.2.1 0 0 (MQ below (zQc E Q) args s 0 0 (zaA E))) 8 (b_X11_isBlock_8 d (zG p l e (zrm d) s m args below meth c E mX11_isBlock.2.2.1 0 0 (MQ below (zQc E Q) args s 0 0 (zaA E))) Q) := by
  unfold b_X11_isBlock_8
  exact lk_c B dX11_isBlock_8 (lk_zret B hr hlk dX11_isBlock_9)
set_option maxRecDepth 20000 in
theorem k_X11_isBlock_0 {p : Program} {l : Launch} {e : Env} {s : State} {m : MethodId} {args : Array Value} {below : List Frame} {meth : Method} {c : Code} {E : zE} {d : Nat} {Q : zQ} (hd1 : 1 ≤ d) (B : zB p s m args c E mX11_isBlock.1.cls mX11_isBlock.2.1 mX11_isBlock.2.2.1) (hr : meth.sig.returnType = mX11_isBlock.2.2.2) (hlk : meth.locks = false) : zLk (zG p l e (zrm d) s m args below meth c E mX11_isBlock.2.2.1 0 0 (MQ below (zQc E Q) args s 0 0 (zaA E))) 0 (b_X11_isBlock_0 d (zG p l e (zrm d) s m args below meth c E mX11_isBlock.2.2.1 0 0 (MQ below (zQc E Q) args s 0 0 (zaA E))) Q) := by
  unfold b_X11_isBlock_0
  exact lk_aln B dX11_isBlock_0 rfl (lk_gf (T := TX11) B cl_X11 (by decide) in_X11 zw_812 dX11_isBlock_1 (lk_c B dX11_isBlock_4 (lk_ige B dX11_isBlock_5 (by decide) (k_X11_isBlock_10 hd1 B hr hlk) (k_X11_isBlock_8 hd1 B hr hlk))))
set_option maxRecDepth 20000 in
theorem k_X11_isBlock_317 {p : Program} {l : Launch} {e : Env} {s : State} {m : MethodId} {args : Array Value} {below : List Frame} {meth : Method} {c : Code} {E : zE} {d : Nat} {Q : zQ} (hd1 : 1 ≤ d) (B : zB p s m args c E mX11_isBlock.1.cls mX11_isBlock.2.1 mX11_isBlock.2.2.1) (hr : meth.sig.returnType = mX11_isBlock.2.2.2) (hlk : meth.locks = false) : zLk (zG p l e (zrm d) s m args below meth c E mX11_isBlock.2.2.1 0 0 (MQ below (zQc E Q) args s 0 0 (zaA E))) 317 (b_X11_isBlock_317 d (zG p l e (zrm d) s m args below meth c E mX11_isBlock.2.2.1 0 0 (MQ below (zQc E Q) args s 0 0 (zaA E))) Q) := by
  unfold b_X11_isBlock_317
  exact lk_c B dX11_isBlock_317 (lk_zret B hr hlk dX11_isBlock_318)
set_option maxRecDepth 20000 in
theorem k_X11_isBlock_82 {p : Program} {l : Launch} {e : Env} {s : State} {m : MethodId} {args : Array Value} {below : List Frame} {meth : Method} {c : Code} {E : zE} {d : Nat} {Q : zQ} (hd1 : 1 ≤ d) (B : zB p s m args c E mX11_isBlock.1.cls mX11_isBlock.2.1 mX11_isBlock.2.2.1) (hr : meth.sig.returnType = mX11_isBlock.2.2.2) (hlk : meth.locks = false) : zLk (zG p l e (zrm d) s m args below meth c E mX11_isBlock.2.2.1 0 0 (MQ below (zQc E Q) args s 0 0 (zaA E))) 82 (b_X11_isBlock_82 d (zG p l e (zrm d) s m args below meth c E mX11_isBlock.2.2.1 0 0 (MQ below (zQc E Q) args s 0 0 (zaA E))) Q) := by
  unfold b_X11_isBlock_82
  exact lk_zret B hr hlk dX11_isBlock_82
set_option maxRecDepth 20000 in
theorem k_X11_isBlock_81 {p : Program} {l : Launch} {e : Env} {s : State} {m : MethodId} {args : Array Value} {below : List Frame} {meth : Method} {c : Code} {E : zE} {d : Nat} {Q : zQ} (hd1 : 1 ≤ d) (B : zB p s m args c E mX11_isBlock.1.cls mX11_isBlock.2.1 mX11_isBlock.2.2.1) (hr : meth.sig.returnType = mX11_isBlock.2.2.2) (hlk : meth.locks = false) : zLk (zG p l e (zrm d) s m args below meth c E mX11_isBlock.2.2.1 0 0 (MQ below (zQc E Q) args s 0 0 (zaA E))) 81 (b_X11_isBlock_81 d (zG p l e (zrm d) s m args below meth c E mX11_isBlock.2.2.1 0 0 (MQ below (zQc E Q) args s 0 0 (zaA E))) Q) := by
  unfold b_X11_isBlock_81
  exact lk_c B dX11_isBlock_81 (k_X11_isBlock_82 hd1 B hr hlk)
set_option maxRecDepth 20000 in
theorem k_X11_isBlock_77 {p : Program} {l : Launch} {e : Env} {s : State} {m : MethodId} {args : Array Value} {below : List Frame} {meth : Method} {c : Code} {E : zE} {d : Nat} {Q : zQ} (hd1 : 1 ≤ d) (B : zB p s m args c E mX11_isBlock.1.cls mX11_isBlock.2.1 mX11_isBlock.2.2.1) (hr : meth.sig.returnType = mX11_isBlock.2.2.2) (hlk : meth.locks = false) : zLk (zG p l e (zrm d) s m args below meth c E mX11_isBlock.2.2.1 0 0 (MQ below (zQc E Q) args s 0 0 (zaA E))) 77 (b_X11_isBlock_77 d (zG p l e (zrm d) s m args below meth c E mX11_isBlock.2.2.1 0 0 (MQ below (zQc E Q) args s 0 0 (zaA E))) Q) := by
  unfold b_X11_isBlock_77
  exact lk_c B dX11_isBlock_77 (lk_goto B dX11_isBlock_78 (by decide) (k_X11_isBlock_82 hd1 B hr hlk))
set_option maxRecDepth 20000 in
theorem k_X11_isBlock_68 {p : Program} {l : Launch} {e : Env} {s : State} {m : MethodId} {args : Array Value} {below : List Frame} {meth : Method} {c : Code} {E : zE} {d : Nat} {Q : zQ} (hd1 : 1 ≤ d) (B : zB p s m args c E mX11_isBlock.1.cls mX11_isBlock.2.1 mX11_isBlock.2.2.1) (hr : meth.sig.returnType = mX11_isBlock.2.2.2) (hlk : meth.locks = false) : zLk (zG p l e (zrm d) s m args below meth c E mX11_isBlock.2.2.1 0 0 (MQ below (zQc E Q) args s 0 0 (zaA E))) 68 (b_X11_isBlock_68 d (zG p l e (zrm d) s m args below meth c E mX11_isBlock.2.2.1 0 0 (MQ below (zQc E Q) args s 0 0 (zaA E))) Q) := by
  unfold b_X11_isBlock_68
  exact lk_aln B dX11_isBlock_68 rfl (lk_gf (T := TX11) B cl_X11 (by decide) in_X11 zw_812 dX11_isBlock_69 (lk_b B dX11_isBlock_72 rfl (lk_igt B dX11_isBlock_74 (by decide) (k_X11_isBlock_81 hd1 B hr hlk) (k_X11_isBlock_77 hd1 B hr hlk))))
set_option maxRecDepth 20000 in
theorem k_X11_isBlock_105 {p : Program} {l : Launch} {e : Env} {s : State} {m : MethodId} {args : Array Value} {below : List Frame} {meth : Method} {c : Code} {E : zE} {d : Nat} {Q : zQ} (hd1 : 1 ≤ d) (B : zB p s m args c E mX11_isBlock.1.cls mX11_isBlock.2.1 mX11_isBlock.2.2.1) (hr : meth.sig.returnType = mX11_isBlock.2.2.2) (hlk : meth.locks = false) : zLk (zG p l e (zrm d) s m args below meth c E mX11_isBlock.2.2.1 0 0 (MQ below (zQc E Q) args s 0 0 (zaA E))) 105 (b_X11_isBlock_105 d (zG p l e (zrm d) s m args below meth c E mX11_isBlock.2.2.1 0 0 (MQ below (zQc E Q) args s 0 0 (zaA E))) Q) := by
  unfold b_X11_isBlock_105
  exact lk_c B dX11_isBlock_105 (lk_zret B hr hlk dX11_isBlock_106)
set_option maxRecDepth 20000 in
theorem k_X11_isBlock_107 {p : Program} {l : Launch} {e : Env} {s : State} {m : MethodId} {args : Array Value} {below : List Frame} {meth : Method} {c : Code} {E : zE} {d : Nat} {Q : zQ} (hd1 : 1 ≤ d) (B : zB p s m args c E mX11_isBlock.1.cls mX11_isBlock.2.1 mX11_isBlock.2.2.1) (hr : meth.sig.returnType = mX11_isBlock.2.2.2) (hlk : meth.locks = false) : zLk (zG p l e (zrm d) s m args below meth c E mX11_isBlock.2.2.1 0 0 (MQ below (zQc E Q) args s 0 0 (zaA E))) 107 (b_X11_isBlock_107 d (zG p l e (zrm d) s m args below meth c E mX11_isBlock.2.2.1 0 0 (MQ below (zQc E Q) args s 0 0 (zaA E))) Q) := by
  unfold b_X11_isBlock_107
  exact lk_c B dX11_isBlock_107 (lk_isn B dX11_isBlock_108 rfl (by decide) (fun _ _ _ h => h))
set_option maxRecDepth 20000 in
theorem k_X11_isBlock_93 {p : Program} {l : Launch} {e : Env} {s : State} {m : MethodId} {args : Array Value} {below : List Frame} {meth : Method} {c : Code} {E : zE} {d : Nat} {Q : zQ} (hd1 : 1 ≤ d) (B : zB p s m args c E mX11_isBlock.1.cls mX11_isBlock.2.1 mX11_isBlock.2.2.1) (hr : meth.sig.returnType = mX11_isBlock.2.2.2) (hlk : meth.locks = false) : zLk (zG p l e (zrm d) s m args below meth c E mX11_isBlock.2.2.1 0 0 (MQ below (zQc E Q) args s 0 0 (zaA E))) 93 (b_X11_isBlock_93 d (zG p l e (zrm d) s m args below meth c E mX11_isBlock.2.2.1 0 0 (MQ below (zQc E Q) args s 0 0 (zaA E))) Q) := by
  unfold b_X11_isBlock_93
  exact lk_aln B dX11_isBlock_93 rfl (lk_gf (T := TX11) B cl_X11 (by decide) in_X11 zw_812 dX11_isBlock_94 (lk_c B dX11_isBlock_97 (lk_c B dX11_isBlock_98 (lk_iln B dX11_isBlock_99 rfl (lk_mul B dX11_isBlock_100 (lk_add B dX11_isBlock_101 (lk_ieq B dX11_isBlock_102 (by decide) (k_X11_isBlock_107 hd1 B hr hlk) (k_X11_isBlock_105 hd1 B hr hlk))))))))
set_option maxRecDepth 20000 in
theorem k_X11_isBlock_88 {p : Program} {l : Launch} {e : Env} {s : State} {m : MethodId} {args : Array Value} {below : List Frame} {meth : Method} {c : Code} {E : zE} {d : Nat} {Q : zQ} (hd1 : 1 ≤ d) (B : zB p s m args c E mX11_isBlock.1.cls mX11_isBlock.2.1 mX11_isBlock.2.2.1) (hr : meth.sig.returnType = mX11_isBlock.2.2.2) (hlk : meth.locks = false) : zLk (zG p l e (zrm d) s m args below meth c E mX11_isBlock.2.2.1 0 0 (MQ below (zQc E Q) args s 0 0 (zaA E))) 88 (b_X11_isBlock_88 d (zG p l e (zrm d) s m args below meth c E mX11_isBlock.2.2.1 0 0 (MQ below (zQc E Q) args s 0 0 (zaA E))) Q) := by
  unfold b_X11_isBlock_88
  exact lk_iln B dX11_isBlock_88 rfl (lk_c B dX11_isBlock_89 (lk_igt B dX11_isBlock_90 (by decide) (k_X11_isBlock_105 hd1 B hr hlk) (k_X11_isBlock_93 hd1 B hr hlk)))
set_option maxRecDepth 20000 in
theorem k_X11_isBlock_83 {p : Program} {l : Launch} {e : Env} {s : State} {m : MethodId} {args : Array Value} {below : List Frame} {meth : Method} {c : Code} {E : zE} {d : Nat} {Q : zQ} (hd1 : 1 ≤ d) (B : zB p s m args c E mX11_isBlock.1.cls mX11_isBlock.2.1 mX11_isBlock.2.2.1) (hr : meth.sig.returnType = mX11_isBlock.2.2.2) (hlk : meth.locks = false) : zLk (zG p l e (zrm d) s m args below meth c E mX11_isBlock.2.2.1 0 0 (MQ below (zQc E Q) args s 0 0 (zaA E))) 83 (b_X11_isBlock_83 d (zG p l e (zrm d) s m args below meth c E mX11_isBlock.2.2.1 0 0 (MQ below (zQc E Q) args s 0 0 (zaA E))) Q) := by
  unfold b_X11_isBlock_83
  exact lk_iln B dX11_isBlock_83 rfl (lk_c B dX11_isBlock_84 (lk_ilt B dX11_isBlock_85 (by decide) (k_X11_isBlock_105 hd1 B hr hlk) (k_X11_isBlock_88 hd1 B hr hlk)))
set_option maxRecDepth 20000 in
theorem k_X11_isBlock_179 {p : Program} {l : Launch} {e : Env} {s : State} {m : MethodId} {args : Array Value} {below : List Frame} {meth : Method} {c : Code} {E : zE} {d : Nat} {Q : zQ} (hd1 : 1 ≤ d) (B : zB p s m args c E mX11_isBlock.1.cls mX11_isBlock.2.1 mX11_isBlock.2.2.1) (hr : meth.sig.returnType = mX11_isBlock.2.2.2) (hlk : meth.locks = false) : zLk (zG p l e (zrm d) s m args below meth c E mX11_isBlock.2.2.1 0 0 (MQ below (zQc E Q) args s 0 0 (zaA E))) 179 (b_X11_isBlock_179 d (zG p l e (zrm d) s m args below meth c E mX11_isBlock.2.2.1 0 0 (MQ below (zQc E Q) args s 0 0 (zaA E))) Q) := by
  unfold b_X11_isBlock_179
  exact lk_c B dX11_isBlock_179 (lk_zret B hr hlk dX11_isBlock_180)
set_option maxRecDepth 20000 in
theorem k_X11_isBlock_181 {p : Program} {l : Launch} {e : Env} {s : State} {m : MethodId} {args : Array Value} {below : List Frame} {meth : Method} {c : Code} {E : zE} {d : Nat} {Q : zQ} (hd1 : 1 ≤ d) (B : zB p s m args c E mX11_isBlock.1.cls mX11_isBlock.2.1 mX11_isBlock.2.2.1) (hr : meth.sig.returnType = mX11_isBlock.2.2.2) (hlk : meth.locks = false) : zLk (zG p l e (zrm d) s m args below meth c E mX11_isBlock.2.2.1 0 0 (MQ below (zQc E Q) args s 0 0 (zaA E))) 181 (b_X11_isBlock_181 d (zG p l e (zrm d) s m args below meth c E mX11_isBlock.2.2.1 0 0 (MQ below (zQc E Q) args s 0 0 (zaA E))) Q) := by
  unfold b_X11_isBlock_181
  exact lk_c B dX11_isBlock_181 (lk_isn B dX11_isBlock_182 rfl (by decide) (fun _ _ _ h => h))
set_option maxRecDepth 20000 in
theorem k_X11_isBlock_167 {p : Program} {l : Launch} {e : Env} {s : State} {m : MethodId} {args : Array Value} {below : List Frame} {meth : Method} {c : Code} {E : zE} {d : Nat} {Q : zQ} (hd1 : 1 ≤ d) (B : zB p s m args c E mX11_isBlock.1.cls mX11_isBlock.2.1 mX11_isBlock.2.2.1) (hr : meth.sig.returnType = mX11_isBlock.2.2.2) (hlk : meth.locks = false) : zLk (zG p l e (zrm d) s m args below meth c E mX11_isBlock.2.2.1 0 0 (MQ below (zQc E Q) args s 0 0 (zaA E))) 167 (b_X11_isBlock_167 d (zG p l e (zrm d) s m args below meth c E mX11_isBlock.2.2.1 0 0 (MQ below (zQc E Q) args s 0 0 (zaA E))) Q) := by
  unfold b_X11_isBlock_167
  exact lk_aln B dX11_isBlock_167 rfl (lk_gf (T := TX11) B cl_X11 (by decide) in_X11 zw_812 dX11_isBlock_168 (lk_c B dX11_isBlock_171 (lk_c B dX11_isBlock_172 (lk_iln B dX11_isBlock_173 rfl (lk_mul B dX11_isBlock_174 (lk_add B dX11_isBlock_175 (lk_ieq B dX11_isBlock_176 (by decide) (k_X11_isBlock_181 hd1 B hr hlk) (k_X11_isBlock_179 hd1 B hr hlk))))))))
set_option maxRecDepth 20000 in
theorem k_X11_isBlock_162 {p : Program} {l : Launch} {e : Env} {s : State} {m : MethodId} {args : Array Value} {below : List Frame} {meth : Method} {c : Code} {E : zE} {d : Nat} {Q : zQ} (hd1 : 1 ≤ d) (B : zB p s m args c E mX11_isBlock.1.cls mX11_isBlock.2.1 mX11_isBlock.2.2.1) (hr : meth.sig.returnType = mX11_isBlock.2.2.2) (hlk : meth.locks = false) : zLk (zG p l e (zrm d) s m args below meth c E mX11_isBlock.2.2.1 0 0 (MQ below (zQc E Q) args s 0 0 (zaA E))) 162 (b_X11_isBlock_162 d (zG p l e (zrm d) s m args below meth c E mX11_isBlock.2.2.1 0 0 (MQ below (zQc E Q) args s 0 0 (zaA E))) Q) := by
  unfold b_X11_isBlock_162
  exact lk_iln B dX11_isBlock_162 rfl (lk_c B dX11_isBlock_163 (lk_igt B dX11_isBlock_164 (by decide) (k_X11_isBlock_179 hd1 B hr hlk) (k_X11_isBlock_167 hd1 B hr hlk)))
set_option maxRecDepth 20000 in
theorem k_X11_isBlock_158 {p : Program} {l : Launch} {e : Env} {s : State} {m : MethodId} {args : Array Value} {below : List Frame} {meth : Method} {c : Code} {E : zE} {d : Nat} {Q : zQ} (hd1 : 1 ≤ d) (B : zB p s m args c E mX11_isBlock.1.cls mX11_isBlock.2.1 mX11_isBlock.2.2.1) (hr : meth.sig.returnType = mX11_isBlock.2.2.2) (hlk : meth.locks = false) : zLk (zG p l e (zrm d) s m args below meth c E mX11_isBlock.2.2.1 0 0 (MQ below (zQc E Q) args s 0 0 (zaA E))) 158 (b_X11_isBlock_158 d (zG p l e (zrm d) s m args below meth c E mX11_isBlock.2.2.1 0 0 (MQ below (zQc E Q) args s 0 0 (zaA E))) Q) := by
  unfold b_X11_isBlock_158
  exact lk_iln B dX11_isBlock_158 rfl (lk_zlt B dX11_isBlock_159 (by decide) (k_X11_isBlock_179 hd1 B hr hlk) (k_X11_isBlock_162 hd1 B hr hlk))
set_option maxRecDepth 20000 in
theorem k_X11_isBlock_277 {p : Program} {l : Launch} {e : Env} {s : State} {m : MethodId} {args : Array Value} {below : List Frame} {meth : Method} {c : Code} {E : zE} {d : Nat} {Q : zQ} (hd1 : 1 ≤ d) (B : zB p s m args c E mX11_isBlock.1.cls mX11_isBlock.2.1 mX11_isBlock.2.2.1) (hr : meth.sig.returnType = mX11_isBlock.2.2.2) (hlk : meth.locks = false) : zLk (zG p l e (zrm d) s m args below meth c E mX11_isBlock.2.2.1 0 0 (MQ below (zQc E Q) args s 0 0 (zaA E))) 277 (b_X11_isBlock_277 d (zG p l e (zrm d) s m args below meth c E mX11_isBlock.2.2.1 0 0 (MQ below (zQc E Q) args s 0 0 (zaA E))) Q) := by
  unfold b_X11_isBlock_277
  exact lk_c B dX11_isBlock_277 (lk_zret B hr hlk dX11_isBlock_278)
set_option maxRecDepth 20000 in
theorem k_X11_isBlock_279 {p : Program} {l : Launch} {e : Env} {s : State} {m : MethodId} {args : Array Value} {below : List Frame} {meth : Method} {c : Code} {E : zE} {d : Nat} {Q : zQ} (hd1 : 1 ≤ d) (B : zB p s m args c E mX11_isBlock.1.cls mX11_isBlock.2.1 mX11_isBlock.2.2.1) (hr : meth.sig.returnType = mX11_isBlock.2.2.2) (hlk : meth.locks = false) : zLk (zG p l e (zrm d) s m args below meth c E mX11_isBlock.2.2.1 0 0 (MQ below (zQc E Q) args s 0 0 (zaA E))) 279 (b_X11_isBlock_279 d (zG p l e (zrm d) s m args below meth c E mX11_isBlock.2.2.1 0 0 (MQ below (zQc E Q) args s 0 0 (zaA E))) Q) := by
  unfold b_X11_isBlock_279
  exact lk_c B dX11_isBlock_279 (lk_isn B dX11_isBlock_280 rfl (by decide) (fun _ _ _ h => h))
set_option maxRecDepth 20000 in
theorem k_X11_isBlock_262 {p : Program} {l : Launch} {e : Env} {s : State} {m : MethodId} {args : Array Value} {below : List Frame} {meth : Method} {c : Code} {E : zE} {d : Nat} {Q : zQ} (hd1 : 1 ≤ d) (B : zB p s m args c E mX11_isBlock.1.cls mX11_isBlock.2.1 mX11_isBlock.2.2.1) (hr : meth.sig.returnType = mX11_isBlock.2.2.2) (hlk : meth.locks = false) : zLk (zG p l e (zrm d) s m args below meth c E mX11_isBlock.2.2.1 0 0 (MQ below (zQc E Q) args s 0 0 (zaA E))) 262 (b_X11_isBlock_262 d (zG p l e (zrm d) s m args below meth c E mX11_isBlock.2.2.1 0 0 (MQ below (zQc E Q) args s 0 0 (zaA E))) Q) := by
  unfold b_X11_isBlock_262
  exact lk_aln B dX11_isBlock_262 rfl (lk_gf (T := TX11) B cl_X11 (by decide) in_X11 zw_812 dX11_isBlock_263 (lk_c B dX11_isBlock_266 (lk_c B dX11_isBlock_267 (lk_iln B dX11_isBlock_268 rfl (lk_calls (M := mX11_bits) B (zhR hd1 (by decide)) ⟨Nat.zero_le _, Nat.zero_le _⟩ (zw4 zw_955 zw_953 zw_954 zw_58) (by decide +kernel) dX11_isBlock_269 (lk_mul B dX11_isBlock_272 (lk_add B dX11_isBlock_273 (lk_ieq B dX11_isBlock_274 (by decide) (k_X11_isBlock_279 hd1 B hr hlk) (k_X11_isBlock_277 hd1 B hr hlk)))))))))
set_option maxRecDepth 20000 in
theorem k_X11_isBlock_256 {p : Program} {l : Launch} {e : Env} {s : State} {m : MethodId} {args : Array Value} {below : List Frame} {meth : Method} {c : Code} {E : zE} {d : Nat} {Q : zQ} (hd1 : 1 ≤ d) (B : zB p s m args c E mX11_isBlock.1.cls mX11_isBlock.2.1 mX11_isBlock.2.2.1) (hr : meth.sig.returnType = mX11_isBlock.2.2.2) (hlk : meth.locks = false) : zLk (zG p l e (zrm d) s m args below meth c E mX11_isBlock.2.2.1 0 0 (MQ below (zQc E Q) args s 0 0 (zaA E))) 256 (b_X11_isBlock_256 d (zG p l e (zrm d) s m args below meth c E mX11_isBlock.2.2.1 0 0 (MQ below (zQc E Q) args s 0 0 (zaA E))) Q) := by
  unfold b_X11_isBlock_256
  exact lk_iln B dX11_isBlock_256 rfl (lk_b B dX11_isBlock_257 rfl (lk_igt B dX11_isBlock_259 (by decide) (k_X11_isBlock_277 hd1 B hr hlk) (k_X11_isBlock_262 hd1 B hr hlk)))
set_option maxRecDepth 20000 in
theorem k_X11_isBlock_251 {p : Program} {l : Launch} {e : Env} {s : State} {m : MethodId} {args : Array Value} {below : List Frame} {meth : Method} {c : Code} {E : zE} {d : Nat} {Q : zQ} (hd1 : 1 ≤ d) (B : zB p s m args c E mX11_isBlock.1.cls mX11_isBlock.2.1 mX11_isBlock.2.2.1) (hr : meth.sig.returnType = mX11_isBlock.2.2.2) (hlk : meth.locks = false) : zLk (zG p l e (zrm d) s m args below meth c E mX11_isBlock.2.2.1 0 0 (MQ below (zQc E Q) args s 0 0 (zaA E))) 251 (b_X11_isBlock_251 d (zG p l e (zrm d) s m args below meth c E mX11_isBlock.2.2.1 0 0 (MQ below (zQc E Q) args s 0 0 (zaA E))) Q) := by
  unfold b_X11_isBlock_251
  exact lk_iln B dX11_isBlock_251 rfl (lk_c B dX11_isBlock_252 (lk_ilt B dX11_isBlock_253 (by decide) (k_X11_isBlock_277 hd1 B hr hlk) (k_X11_isBlock_256 hd1 B hr hlk)))
set_option maxRecDepth 20000 in
theorem k_X11_isBlock_28 {p : Program} {l : Launch} {e : Env} {s : State} {m : MethodId} {args : Array Value} {below : List Frame} {meth : Method} {c : Code} {E : zE} {d : Nat} {Q : zQ} (hd1 : 1 ≤ d) (B : zB p s m args c E mX11_isBlock.1.cls mX11_isBlock.2.1 mX11_isBlock.2.2.1) (hr : meth.sig.returnType = mX11_isBlock.2.2.2) (hlk : meth.locks = false) : zLk (zG p l e (zrm d) s m args below meth c E mX11_isBlock.2.2.1 0 0 (MQ below (zQc E Q) args s 0 0 (zaA E))) 28 (b_X11_isBlock_28 d (zG p l e (zrm d) s m args below meth c E mX11_isBlock.2.2.1 0 0 (MQ below (zQc E Q) args s 0 0 (zaA E))) Q) := by
  unfold b_X11_isBlock_28
  exact lk_isn B dX11_isBlock_28 rfl (by decide) (lk_c B dX11_isBlock_29 (lk_isn B dX11_isBlock_30 rfl (by decide) (lk_aln B dX11_isBlock_31 rfl (lk_gf (T := TX11) B cl_X11 (by decide) in_X11 zw_811 dX11_isBlock_32 (lk_c B dX11_isBlock_35 (lk_iald B dX11_isBlock_36 (lk_tsw B dX11_isBlock_37 (by refine zfm ⟨31, 68, (show (0 : Int) ≤ 0 from by decide), (show (0 : Int) ≤ 3 from by decide), rfl, by decide, (k_X11_isBlock_68 hd1 B hr hlk)⟩ ?_; refine zfm ⟨46, 83, (show (0 : Int) ≤ 1 from by decide), (show (1 : Int) ≤ 3 from by decide), rfl, by decide, (k_X11_isBlock_83 hd1 B hr hlk)⟩ ?_; refine zfm ⟨121, 158, (show (0 : Int) ≤ 2 from by decide), (show (2 : Int) ≤ 3 from by decide), rfl, by decide, (k_X11_isBlock_158 hd1 B hr hlk)⟩ ?_; refine zfm ⟨214, 251, (show (0 : Int) ≤ 3 from by decide), (show (3 : Int) ≤ 3 from by decide), rfl, by decide, (k_X11_isBlock_251 hd1 B hr hlk)⟩ ?_; exact zfn) (fun x h1 h2 => by simp only [List.mem_cons, List.not_mem_nil, or_false, exists_eq_or_imp, exists_eq_left]; omega) (by decide) (k_X11_isBlock_317 hd1 B hr hlk))))))))
set_option maxRecDepth 20000 in
theorem k_X11_isBlock_156 {p : Program} {l : Launch} {e : Env} {s : State} {m : MethodId} {args : Array Value} {below : List Frame} {meth : Method} {c : Code} {E : zE} {d : Nat} {Q : zQ} (hd1 : 1 ≤ d) (B : zB p s m args c E mX11_isBlock.1.cls mX11_isBlock.2.1 mX11_isBlock.2.2.1) (hr : meth.sig.returnType = mX11_isBlock.2.2.2) (hlk : meth.locks = false) : zLk (zG p l e (zrm d) s m args below meth c E mX11_isBlock.2.2.1 0 0 (MQ below (zQc E Q) args s 0 0 (zaA E))) 156 (b_X11_isBlock_156 d (zG p l e (zrm d) s m args below meth c E mX11_isBlock.2.2.1 0 0 (MQ below (zQc E Q) args s 0 0 (zaA E))) Q) := by
  unfold b_X11_isBlock_156
  exact lk_iln B dX11_isBlock_156 rfl (lk_zret B hr hlk dX11_isBlock_157)
set_option maxRecDepth 20000 in
theorem k_X11_isBlock_149 {p : Program} {l : Launch} {e : Env} {s : State} {m : MethodId} {args : Array Value} {below : List Frame} {meth : Method} {c : Code} {E : zE} {d : Nat} {Q : zQ} (hd1 : 1 ≤ d) (B : zB p s m args c E mX11_isBlock.1.cls mX11_isBlock.2.1 mX11_isBlock.2.2.1) (hr : meth.sig.returnType = mX11_isBlock.2.2.2) (hlk : meth.locks = false) : zLk (zG p l e (zrm d) s m args below meth c E mX11_isBlock.2.2.1 0 0 (MQ below (zQc E Q) args s 0 0 (zaA E))) 149 (b_X11_isBlock_149 d (zG p l e (zrm d) s m args below meth c E mX11_isBlock.2.2.1 0 0 (MQ below (zQc E Q) args s 0 0 (zaA E))) Q) := by
  unfold b_X11_isBlock_149
  exact lk_isn B dX11_isBlock_149 rfl (by decide) (lk_inc B dX11_isBlock_150 (by decide) (lk_goto B dX11_isBlock_153 (by decide) (fun _ _ _ h => h)))
set_option maxRecDepth 20000 in
theorem k_X11_isBlock_148 {p : Program} {l : Launch} {e : Env} {s : State} {m : MethodId} {args : Array Value} {below : List Frame} {meth : Method} {c : Code} {E : zE} {d : Nat} {Q : zQ} (hd1 : 1 ≤ d) (B : zB p s m args c E mX11_isBlock.1.cls mX11_isBlock.2.1 mX11_isBlock.2.2.1) (hr : meth.sig.returnType = mX11_isBlock.2.2.2) (hlk : meth.locks = false) : zLk (zG p l e (zrm d) s m args below meth c E mX11_isBlock.2.2.1 0 0 (MQ below (zQc E Q) args s 0 0 (zaA E))) 148 (b_X11_isBlock_148 d (zG p l e (zrm d) s m args below meth c E mX11_isBlock.2.2.1 0 0 (MQ below (zQc E Q) args s 0 0 (zaA E))) Q) := by
  unfold b_X11_isBlock_148
  exact lk_c B dX11_isBlock_148 (k_X11_isBlock_149 hd1 B hr hlk)
set_option maxRecDepth 20000 in
theorem k_X11_isBlock_144 {p : Program} {l : Launch} {e : Env} {s : State} {m : MethodId} {args : Array Value} {below : List Frame} {meth : Method} {c : Code} {E : zE} {d : Nat} {Q : zQ} (hd1 : 1 ≤ d) (B : zB p s m args c E mX11_isBlock.1.cls mX11_isBlock.2.1 mX11_isBlock.2.2.1) (hr : meth.sig.returnType = mX11_isBlock.2.2.2) (hlk : meth.locks = false) : zLk (zG p l e (zrm d) s m args below meth c E mX11_isBlock.2.2.1 0 0 (MQ below (zQc E Q) args s 0 0 (zaA E))) 144 (b_X11_isBlock_144 d (zG p l e (zrm d) s m args below meth c E mX11_isBlock.2.2.1 0 0 (MQ below (zQc E Q) args s 0 0 (zaA E))) Q) := by
  unfold b_X11_isBlock_144
  exact lk_c B dX11_isBlock_144 (lk_goto B dX11_isBlock_145 (by decide) (k_X11_isBlock_149 hd1 B hr hlk))
set_option maxRecDepth 20000 in
theorem k_X11_isBlock_130 {p : Program} {l : Launch} {e : Env} {s : State} {m : MethodId} {args : Array Value} {below : List Frame} {meth : Method} {c : Code} {E : zE} {d : Nat} {Q : zQ} (hd1 : 1 ≤ d) (B : zB p s m args c E mX11_isBlock.1.cls mX11_isBlock.2.1 mX11_isBlock.2.2.1) (hr : meth.sig.returnType = mX11_isBlock.2.2.2) (hlk : meth.locks = false) : zLk (zG p l e (zrm d) s m args below meth c E mX11_isBlock.2.2.1 0 0 (MQ below (zQc E Q) args s 0 0 (zaA E))) 130 (b_X11_isBlock_130 d (zG p l e (zrm d) s m args below meth c E mX11_isBlock.2.2.1 0 0 (MQ below (zQc E Q) args s 0 0 (zaA E))) Q) := by
  unfold b_X11_isBlock_130
  exact lk_aln B dX11_isBlock_130 rfl (lk_c B dX11_isBlock_131 (lk_c B dX11_isBlock_132 (lk_iln B dX11_isBlock_133 rfl (lk_mul B dX11_isBlock_134 (lk_add B dX11_isBlock_135 (lk_callv (M := mX11_two) (T := TX11) (N := 41) B (zhR hd1 (by decide)) ⟨Nat.zero_le _, Nat.zero_le _⟩ cl_X11 (zw5 zw_952 zw_949 zw_951 zw_18 zw_58) (by decide +kernel) dX11_isBlock_136 (lk_ldc B zw_933 rfl dX11_isBlock_139 (lk_igt B dX11_isBlock_141 (by decide) (k_X11_isBlock_148 hd1 B hr hlk) (k_X11_isBlock_144 hd1 B hr hlk)))))))))
set_option maxRecDepth 20000 in
theorem k_X11_isBlock_118 {p : Program} {l : Launch} {e : Env} {s : State} {m : MethodId} {args : Array Value} {below : List Frame} {meth : Method} {c : Code} {E : zE} {d : Nat} {Q : zQ} (hd1 : 1 ≤ d) (B : zB p s m args c E mX11_isBlock.1.cls mX11_isBlock.2.1 mX11_isBlock.2.2.1) (hr : meth.sig.returnType = mX11_isBlock.2.2.2) (hlk : meth.locks = false) : zLk (zG p l e (zrm d) s m args below meth c E mX11_isBlock.2.2.1 0 0 (MQ below (zQc E Q) args s 0 0 (zaA E))) 118 (b_X11_isBlock_118 d (zG p l e (zrm d) s m args below meth c E mX11_isBlock.2.2.1 0 0 (MQ below (zQc E Q) args s 0 0 (zaA E))) Q) := by
  unfold b_X11_isBlock_118
  exact lk_aln B dX11_isBlock_118 rfl (lk_c B dX11_isBlock_119 (lk_c B dX11_isBlock_120 (lk_iln B dX11_isBlock_121 rfl (lk_mul B dX11_isBlock_122 (lk_add B dX11_isBlock_123 (lk_callv (M := mX11_two) (T := TX11) (N := 41) B (zhR hd1 (by decide)) ⟨Nat.zero_le _, Nat.zero_le _⟩ cl_X11 (zw5 zw_952 zw_949 zw_951 zw_18 zw_58) (by decide +kernel) dX11_isBlock_124 (lk_zle B dX11_isBlock_127 (by decide) (k_X11_isBlock_148 hd1 B hr hlk) (k_X11_isBlock_130 hd1 B hr hlk))))))))
set_option maxRecDepth 20000 in
theorem k_X11_isBlock_114 {p : Program} {l : Launch} {e : Env} {s : State} {m : MethodId} {args : Array Value} {below : List Frame} {meth : Method} {c : Code} {E : zE} {d : Nat} {Q : zQ} (hd1 : 1 ≤ d) (B : zB p s m args c E mX11_isBlock.1.cls mX11_isBlock.2.1 mX11_isBlock.2.2.1) (hr : meth.sig.returnType = mX11_isBlock.2.2.2) (hlk : meth.locks = false) : zLk (zG p l e (zrm d) s m args below meth c E mX11_isBlock.2.2.1 0 0 (MQ below (zQc E Q) args s 0 0 (zaA E))) 114 (b_X11_isBlock_114 d (zG p l e (zrm d) s m args below meth c E mX11_isBlock.2.2.1 0 0 (MQ below (zQc E Q) args s 0 0 (zaA E))) Q) := by
  unfold b_X11_isBlock_114
  exact lk_iln B dX11_isBlock_114 rfl (lk_zeq B dX11_isBlock_115 (by decide) (k_X11_isBlock_148 hd1 B hr hlk) (k_X11_isBlock_118 hd1 B hr hlk))
set_option maxRecDepth 20000 in
theorem k_X11_isBlock_109 {p : Program} {l : Launch} {e : Env} {s : State} {m : MethodId} {args : Array Value} {below : List Frame} {meth : Method} {c : Code} {E : zE} {d : Nat} {Q : zQ} (hd1 : 1 ≤ d) (B : zB p s m args c E mX11_isBlock.1.cls mX11_isBlock.2.1 mX11_isBlock.2.2.1) (hr : meth.sig.returnType = mX11_isBlock.2.2.2) (hlk : meth.locks = false) : zLk (zG p l e (zrm d) s m args below meth c E mX11_isBlock.2.2.1 0 0 (MQ below (zQc E Q) args s 0 0 (zaA E))) 109 (b_X11_isBlock_109 d (zG p l e (zrm d) s m args below meth c E mX11_isBlock.2.2.1 0 0 (MQ below (zQc E Q) args s 0 0 (zaA E))) Q) := by
  unfold b_X11_isBlock_109
  exact lk_iln B dX11_isBlock_109 rfl (lk_iln B dX11_isBlock_110 rfl (lk_ige B dX11_isBlock_111 (by decide) (k_X11_isBlock_156 hd1 B hr hlk) (k_X11_isBlock_114 hd1 B hr hlk)))
set_option maxRecDepth 20000 in
theorem k_X11_isBlock_249 {p : Program} {l : Launch} {e : Env} {s : State} {m : MethodId} {args : Array Value} {below : List Frame} {meth : Method} {c : Code} {E : zE} {d : Nat} {Q : zQ} (hd1 : 1 ≤ d) (B : zB p s m args c E mX11_isBlock.1.cls mX11_isBlock.2.1 mX11_isBlock.2.2.1) (hr : meth.sig.returnType = mX11_isBlock.2.2.2) (hlk : meth.locks = false) : zLk (zG p l e (zrm d) s m args below meth c E mX11_isBlock.2.2.1 0 0 (MQ below (zQc E Q) args s 0 0 (zaA E))) 249 (b_X11_isBlock_249 d (zG p l e (zrm d) s m args below meth c E mX11_isBlock.2.2.1 0 0 (MQ below (zQc E Q) args s 0 0 (zaA E))) Q) := by
  unfold b_X11_isBlock_249
  exact lk_iln B dX11_isBlock_249 rfl (lk_zret B hr hlk dX11_isBlock_250)
set_option maxRecDepth 20000 in
theorem k_X11_isBlock_242 {p : Program} {l : Launch} {e : Env} {s : State} {m : MethodId} {args : Array Value} {below : List Frame} {meth : Method} {c : Code} {E : zE} {d : Nat} {Q : zQ} (hd1 : 1 ≤ d) (B : zB p s m args c E mX11_isBlock.1.cls mX11_isBlock.2.1 mX11_isBlock.2.2.1) (hr : meth.sig.returnType = mX11_isBlock.2.2.2) (hlk : meth.locks = false) : zLk (zG p l e (zrm d) s m args below meth c E mX11_isBlock.2.2.1 0 0 (MQ below (zQc E Q) args s 0 0 (zaA E))) 242 (b_X11_isBlock_242 d (zG p l e (zrm d) s m args below meth c E mX11_isBlock.2.2.1 0 0 (MQ below (zQc E Q) args s 0 0 (zaA E))) Q) := by
  unfold b_X11_isBlock_242
  exact lk_isn B dX11_isBlock_242 rfl (by decide) (lk_inc B dX11_isBlock_243 (by decide) (lk_goto B dX11_isBlock_246 (by decide) (fun _ _ _ h => h)))
set_option maxRecDepth 20000 in
theorem k_X11_isBlock_241 {p : Program} {l : Launch} {e : Env} {s : State} {m : MethodId} {args : Array Value} {below : List Frame} {meth : Method} {c : Code} {E : zE} {d : Nat} {Q : zQ} (hd1 : 1 ≤ d) (B : zB p s m args c E mX11_isBlock.1.cls mX11_isBlock.2.1 mX11_isBlock.2.2.1) (hr : meth.sig.returnType = mX11_isBlock.2.2.2) (hlk : meth.locks = false) : zLk (zG p l e (zrm d) s m args below meth c E mX11_isBlock.2.2.1 0 0 (MQ below (zQc E Q) args s 0 0 (zaA E))) 241 (b_X11_isBlock_241 d (zG p l e (zrm d) s m args below meth c E mX11_isBlock.2.2.1 0 0 (MQ below (zQc E Q) args s 0 0 (zaA E))) Q) := by
  unfold b_X11_isBlock_241
  exact lk_c B dX11_isBlock_241 (k_X11_isBlock_242 hd1 B hr hlk)
set_option maxRecDepth 20000 in
theorem k_X11_isBlock_210 {p : Program} {l : Launch} {e : Env} {s : State} {m : MethodId} {args : Array Value} {below : List Frame} {meth : Method} {c : Code} {E : zE} {d : Nat} {Q : zQ} (hd1 : 1 ≤ d) (B : zB p s m args c E mX11_isBlock.1.cls mX11_isBlock.2.1 mX11_isBlock.2.2.1) (hr : meth.sig.returnType = mX11_isBlock.2.2.2) (hlk : meth.locks = false) : zLk (zG p l e (zrm d) s m args below meth c E mX11_isBlock.2.2.1 0 0 (MQ below (zQc E Q) args s 0 0 (zaA E))) 210 (b_X11_isBlock_210 d (zG p l e (zrm d) s m args below meth c E mX11_isBlock.2.2.1 0 0 (MQ below (zQc E Q) args s 0 0 (zaA E))) Q) := by
  unfold b_X11_isBlock_210
  exact lk_aln B dX11_isBlock_210 rfl (lk_gf (T := TX11) B cl_X11 (by decide) in_X11 zw_811 dX11_isBlock_211 (lk_c B dX11_isBlock_214 (lk_iln B dX11_isBlock_215 rfl (lk_mul B dX11_isBlock_216 (lk_c B dX11_isBlock_217 (lk_sub B dX11_isBlock_218 (lk_iald B dX11_isBlock_219 (fun _ _ _ h => h))))))))
set_option maxRecDepth 20000 in
theorem k_X11_isBlock_206 {p : Program} {l : Launch} {e : Env} {s : State} {m : MethodId} {args : Array Value} {below : List Frame} {meth : Method} {c : Code} {E : zE} {d : Nat} {Q : zQ} (hd1 : 1 ≤ d) (B : zB p s m args c E mX11_isBlock.1.cls mX11_isBlock.2.1 mX11_isBlock.2.2.1) (hr : meth.sig.returnType = mX11_isBlock.2.2.2) (hlk : meth.locks = false) : zLk (zG p l e (zrm d) s m args below meth c E mX11_isBlock.2.2.1 0 0 (MQ below (zQc E Q) args s 0 0 (zaA E))) 206 (b_X11_isBlock_206 d (zG p l e (zrm d) s m args below meth c E mX11_isBlock.2.2.1 0 0 (MQ below (zQc E Q) args s 0 0 (zaA E))) Q) := by
  unfold b_X11_isBlock_206
  exact lk_c B dX11_isBlock_206 (lk_goto B dX11_isBlock_207 (by decide) (fun _ _ _ h => h))
set_option maxRecDepth 20000 in
theorem k_X11_isBlock_192 {p : Program} {l : Launch} {e : Env} {s : State} {m : MethodId} {args : Array Value} {below : List Frame} {meth : Method} {c : Code} {E : zE} {d : Nat} {Q : zQ} (hd1 : 1 ≤ d) (B : zB p s m args c E mX11_isBlock.1.cls mX11_isBlock.2.1 mX11_isBlock.2.2.1) (hr : meth.sig.returnType = mX11_isBlock.2.2.2) (hlk : meth.locks = false) : zLk (zG p l e (zrm d) s m args below meth c E mX11_isBlock.2.2.1 0 0 (MQ below (zQc E Q) args s 0 0 (zaA E))) 192 (b_X11_isBlock_192 d (zG p l e (zrm d) s m args below meth c E mX11_isBlock.2.2.1 0 0 (MQ below (zQc E Q) args s 0 0 (zaA E))) Q) := by
  unfold b_X11_isBlock_192
  exact lk_aln B dX11_isBlock_192 rfl (lk_gf (T := TX11) B cl_X11 (by decide) in_X11 zw_811 dX11_isBlock_193 (lk_c B dX11_isBlock_196 (lk_c B dX11_isBlock_197 (lk_iln B dX11_isBlock_198 rfl (lk_mul B dX11_isBlock_199 (lk_add B dX11_isBlock_200 (lk_iald B dX11_isBlock_201 (lk_iln B dX11_isBlock_202 rfl (lk_zne B dX11_isBlock_203 (by decide) (k_X11_isBlock_210 hd1 B hr hlk) (k_X11_isBlock_206 hd1 B hr hlk))))))))))
set_option maxRecDepth 20000 in
theorem k_X11_isBlock_188 {p : Program} {l : Launch} {e : Env} {s : State} {m : MethodId} {args : Array Value} {below : List Frame} {meth : Method} {c : Code} {E : zE} {d : Nat} {Q : zQ} (hd1 : 1 ≤ d) (B : zB p s m args c E mX11_isBlock.1.cls mX11_isBlock.2.1 mX11_isBlock.2.2.1) (hr : meth.sig.returnType = mX11_isBlock.2.2.2) (hlk : meth.locks = false) : zLk (zG p l e (zrm d) s m args below meth c E mX11_isBlock.2.2.1 0 0 (MQ below (zQc E Q) args s 0 0 (zaA E))) 188 (b_X11_isBlock_188 d (zG p l e (zrm d) s m args below meth c E mX11_isBlock.2.2.1 0 0 (MQ below (zQc E Q) args s 0 0 (zaA E))) Q) := by
  unfold b_X11_isBlock_188
  exact lk_iln B dX11_isBlock_188 rfl (lk_zeq B dX11_isBlock_189 (by decide) (k_X11_isBlock_241 hd1 B hr hlk) (k_X11_isBlock_192 hd1 B hr hlk))
set_option maxRecDepth 20000 in
theorem k_X11_isBlock_183 {p : Program} {l : Launch} {e : Env} {s : State} {m : MethodId} {args : Array Value} {below : List Frame} {meth : Method} {c : Code} {E : zE} {d : Nat} {Q : zQ} (hd1 : 1 ≤ d) (B : zB p s m args c E mX11_isBlock.1.cls mX11_isBlock.2.1 mX11_isBlock.2.2.1) (hr : meth.sig.returnType = mX11_isBlock.2.2.2) (hlk : meth.locks = false) : zLk (zG p l e (zrm d) s m args below meth c E mX11_isBlock.2.2.1 0 0 (MQ below (zQc E Q) args s 0 0 (zaA E))) 183 (b_X11_isBlock_183 d (zG p l e (zrm d) s m args below meth c E mX11_isBlock.2.2.1 0 0 (MQ below (zQc E Q) args s 0 0 (zaA E))) Q) := by
  unfold b_X11_isBlock_183
  exact lk_iln B dX11_isBlock_183 rfl (lk_iln B dX11_isBlock_184 rfl (lk_ige B dX11_isBlock_185 (by decide) (k_X11_isBlock_249 hd1 B hr hlk) (k_X11_isBlock_188 hd1 B hr hlk)))
set_option maxRecDepth 20000 in
theorem k_X11_isBlock_237 {p : Program} {l : Launch} {e : Env} {s : State} {m : MethodId} {args : Array Value} {below : List Frame} {meth : Method} {c : Code} {E : zE} {d : Nat} {Q : zQ} (hd1 : 1 ≤ d) (B : zB p s m args c E mX11_isBlock.1.cls mX11_isBlock.2.1 mX11_isBlock.2.2.1) (hr : meth.sig.returnType = mX11_isBlock.2.2.2) (hlk : meth.locks = false) : zLk (zG p l e (zrm d) s m args below meth c E mX11_isBlock.2.2.1 0 0 (MQ below (zQc E Q) args s 0 0 (zaA E))) 237 (b_X11_isBlock_237 d (zG p l e (zrm d) s m args below meth c E mX11_isBlock.2.2.1 0 0 (MQ below (zQc E Q) args s 0 0 (zaA E))) Q) := by
  unfold b_X11_isBlock_237
  exact lk_c B dX11_isBlock_237 (lk_goto B dX11_isBlock_238 (by decide) (k_X11_isBlock_242 hd1 B hr hlk))
set_option maxRecDepth 20000 in
theorem k_X11_isBlock_223 {p : Program} {l : Launch} {e : Env} {s : State} {m : MethodId} {args : Array Value} {below : List Frame} {meth : Method} {c : Code} {E : zE} {d : Nat} {Q : zQ} (hd1 : 1 ≤ d) (B : zB p s m args c E mX11_isBlock.1.cls mX11_isBlock.2.1 mX11_isBlock.2.2.1) (hr : meth.sig.returnType = mX11_isBlock.2.2.2) (hlk : meth.locks = false) : zLk (zG p l e (zrm d) s m args below meth c E mX11_isBlock.2.2.1 0 0 (MQ below (zQc E Q) args s 0 0 (zaA E))) 223 (b_X11_isBlock_223 d (zG p l e (zrm d) s m args below meth c E mX11_isBlock.2.2.1 0 0 (MQ below (zQc E Q) args s 0 0 (zaA E))) Q) := by
  unfold b_X11_isBlock_223
  exact lk_aln B dX11_isBlock_223 rfl (lk_c B dX11_isBlock_224 (lk_c B dX11_isBlock_225 (lk_iln B dX11_isBlock_226 rfl (lk_mul B dX11_isBlock_227 (lk_add B dX11_isBlock_228 (lk_callv (M := mX11_two) (T := TX11) (N := 41) B (zhR hd1 (by decide)) ⟨Nat.zero_le _, Nat.zero_le _⟩ cl_X11 (zw5 zw_952 zw_949 zw_951 zw_18 zw_58) (by decide +kernel) dX11_isBlock_229 (lk_ldc B zw_933 rfl dX11_isBlock_232 (lk_igt B dX11_isBlock_234 (by decide) (k_X11_isBlock_241 hd1 B hr hlk) (k_X11_isBlock_237 hd1 B hr hlk)))))))))
set_option maxRecDepth 20000 in
theorem k_X11_isBlock_220 {p : Program} {l : Launch} {e : Env} {s : State} {m : MethodId} {args : Array Value} {below : List Frame} {meth : Method} {c : Code} {E : zE} {d : Nat} {Q : zQ} (hd1 : 1 ≤ d) (B : zB p s m args c E mX11_isBlock.1.cls mX11_isBlock.2.1 mX11_isBlock.2.2.1) (hr : meth.sig.returnType = mX11_isBlock.2.2.2) (hlk : meth.locks = false) : zLk (zG p l e (zrm d) s m args below meth c E mX11_isBlock.2.2.1 0 0 (MQ below (zQc E Q) args s 0 0 (zaA E))) 220 (b_X11_isBlock_220 d (zG p l e (zrm d) s m args below meth c E mX11_isBlock.2.2.1 0 0 (MQ below (zQc E Q) args s 0 0 (zaA E))) Q) := by
  unfold b_X11_isBlock_220
  exact lk_ile B dX11_isBlock_220 (by decide) (k_X11_isBlock_241 hd1 B hr hlk) (k_X11_isBlock_223 hd1 B hr hlk)
set_option maxRecDepth 20000 in
theorem k_X11_isBlock_315 {p : Program} {l : Launch} {e : Env} {s : State} {m : MethodId} {args : Array Value} {below : List Frame} {meth : Method} {c : Code} {E : zE} {d : Nat} {Q : zQ} (hd1 : 1 ≤ d) (B : zB p s m args c E mX11_isBlock.1.cls mX11_isBlock.2.1 mX11_isBlock.2.2.1) (hr : meth.sig.returnType = mX11_isBlock.2.2.2) (hlk : meth.locks = false) : zLk (zG p l e (zrm d) s m args below meth c E mX11_isBlock.2.2.1 0 0 (MQ below (zQc E Q) args s 0 0 (zaA E))) 315 (b_X11_isBlock_315 d (zG p l e (zrm d) s m args below meth c E mX11_isBlock.2.2.1 0 0 (MQ below (zQc E Q) args s 0 0 (zaA E))) Q) := by
  unfold b_X11_isBlock_315
  exact lk_iln B dX11_isBlock_315 rfl (lk_zret B hr hlk dX11_isBlock_316)
set_option maxRecDepth 20000 in
theorem k_X11_isBlock_308 {p : Program} {l : Launch} {e : Env} {s : State} {m : MethodId} {args : Array Value} {below : List Frame} {meth : Method} {c : Code} {E : zE} {d : Nat} {Q : zQ} (hd1 : 1 ≤ d) (B : zB p s m args c E mX11_isBlock.1.cls mX11_isBlock.2.1 mX11_isBlock.2.2.1) (hr : meth.sig.returnType = mX11_isBlock.2.2.2) (hlk : meth.locks = false) : zLk (zG p l e (zrm d) s m args below meth c E mX11_isBlock.2.2.1 0 0 (MQ below (zQc E Q) args s 0 0 (zaA E))) 308 (b_X11_isBlock_308 d (zG p l e (zrm d) s m args below meth c E mX11_isBlock.2.2.1 0 0 (MQ below (zQc E Q) args s 0 0 (zaA E))) Q) := by
  unfold b_X11_isBlock_308
  exact lk_isn B dX11_isBlock_308 rfl (by decide) (lk_inc B dX11_isBlock_309 (by decide) (lk_goto B dX11_isBlock_312 (by decide) (fun _ _ _ h => h)))
set_option maxRecDepth 20000 in
theorem k_X11_isBlock_307 {p : Program} {l : Launch} {e : Env} {s : State} {m : MethodId} {args : Array Value} {below : List Frame} {meth : Method} {c : Code} {E : zE} {d : Nat} {Q : zQ} (hd1 : 1 ≤ d) (B : zB p s m args c E mX11_isBlock.1.cls mX11_isBlock.2.1 mX11_isBlock.2.2.1) (hr : meth.sig.returnType = mX11_isBlock.2.2.2) (hlk : meth.locks = false) : zLk (zG p l e (zrm d) s m args below meth c E mX11_isBlock.2.2.1 0 0 (MQ below (zQc E Q) args s 0 0 (zaA E))) 307 (b_X11_isBlock_307 d (zG p l e (zrm d) s m args below meth c E mX11_isBlock.2.2.1 0 0 (MQ below (zQc E Q) args s 0 0 (zaA E))) Q) := by
  unfold b_X11_isBlock_307
  exact lk_c B dX11_isBlock_307 (k_X11_isBlock_308 hd1 B hr hlk)
set_option maxRecDepth 20000 in
theorem k_X11_isBlock_303 {p : Program} {l : Launch} {e : Env} {s : State} {m : MethodId} {args : Array Value} {below : List Frame} {meth : Method} {c : Code} {E : zE} {d : Nat} {Q : zQ} (hd1 : 1 ≤ d) (B : zB p s m args c E mX11_isBlock.1.cls mX11_isBlock.2.1 mX11_isBlock.2.2.1) (hr : meth.sig.returnType = mX11_isBlock.2.2.2) (hlk : meth.locks = false) : zLk (zG p l e (zrm d) s m args below meth c E mX11_isBlock.2.2.1 0 0 (MQ below (zQc E Q) args s 0 0 (zaA E))) 303 (b_X11_isBlock_303 d (zG p l e (zrm d) s m args below meth c E mX11_isBlock.2.2.1 0 0 (MQ below (zQc E Q) args s 0 0 (zaA E))) Q) := by
  unfold b_X11_isBlock_303
  exact lk_c B dX11_isBlock_303 (lk_goto B dX11_isBlock_304 (by decide) (k_X11_isBlock_308 hd1 B hr hlk))
set_option maxRecDepth 20000 in
theorem k_X11_isBlock_293 {p : Program} {l : Launch} {e : Env} {s : State} {m : MethodId} {args : Array Value} {below : List Frame} {meth : Method} {c : Code} {E : zE} {d : Nat} {Q : zQ} (hd1 : 1 ≤ d) (B : zB p s m args c E mX11_isBlock.1.cls mX11_isBlock.2.1 mX11_isBlock.2.2.1) (hr : meth.sig.returnType = mX11_isBlock.2.2.2) (hlk : meth.locks = false) : zLk (zG p l e (zrm d) s m args below meth c E mX11_isBlock.2.2.1 0 0 (MQ below (zQc E Q) args s 0 0 (zaA E))) 293 (b_X11_isBlock_293 d (zG p l e (zrm d) s m args below meth c E mX11_isBlock.2.2.1 0 0 (MQ below (zQc E Q) args s 0 0 (zaA E))) Q) := by
  unfold b_X11_isBlock_293
  exact lk_aln B dX11_isBlock_293 rfl (lk_iln B dX11_isBlock_294 rfl (lk_callv (M := mX11_two) (T := TX11) (N := 41) B (zhR hd1 (by decide)) ⟨Nat.zero_le _, Nat.zero_le _⟩ cl_X11 (zw5 zw_952 zw_949 zw_951 zw_18 zw_58) (by decide +kernel) dX11_isBlock_295 (lk_ldc B zw_933 rfl dX11_isBlock_298 (lk_igt B dX11_isBlock_300 (by decide) (k_X11_isBlock_307 hd1 B hr hlk) (k_X11_isBlock_303 hd1 B hr hlk)))))
set_option maxRecDepth 20000 in
theorem k_X11_isBlock_289 {p : Program} {l : Launch} {e : Env} {s : State} {m : MethodId} {args : Array Value} {below : List Frame} {meth : Method} {c : Code} {E : zE} {d : Nat} {Q : zQ} (hd1 : 1 ≤ d) (B : zB p s m args c E mX11_isBlock.1.cls mX11_isBlock.2.1 mX11_isBlock.2.2.1) (hr : meth.sig.returnType = mX11_isBlock.2.2.2) (hlk : meth.locks = false) : zLk (zG p l e (zrm d) s m args below meth c E mX11_isBlock.2.2.1 0 0 (MQ below (zQc E Q) args s 0 0 (zaA E))) 289 (b_X11_isBlock_289 d (zG p l e (zrm d) s m args below meth c E mX11_isBlock.2.2.1 0 0 (MQ below (zQc E Q) args s 0 0 (zaA E))) Q) := by
  unfold b_X11_isBlock_289
  exact lk_iln B dX11_isBlock_289 rfl (lk_zeq B dX11_isBlock_290 (by decide) (k_X11_isBlock_307 hd1 B hr hlk) (k_X11_isBlock_293 hd1 B hr hlk))
set_option maxRecDepth 20000 in
theorem k_X11_isBlock_281 {p : Program} {l : Launch} {e : Env} {s : State} {m : MethodId} {args : Array Value} {below : List Frame} {meth : Method} {c : Code} {E : zE} {d : Nat} {Q : zQ} (hd1 : 1 ≤ d) (B : zB p s m args c E mX11_isBlock.1.cls mX11_isBlock.2.1 mX11_isBlock.2.2.1) (hr : meth.sig.returnType = mX11_isBlock.2.2.2) (hlk : meth.locks = false) : zLk (zG p l e (zrm d) s m args below meth c E mX11_isBlock.2.2.1 0 0 (MQ below (zQc E Q) args s 0 0 (zaA E))) 281 (b_X11_isBlock_281 d (zG p l e (zrm d) s m args below meth c E mX11_isBlock.2.2.1 0 0 (MQ below (zQc E Q) args s 0 0 (zaA E))) Q) := by
  unfold b_X11_isBlock_281
  exact lk_iln B dX11_isBlock_281 rfl (lk_aln B dX11_isBlock_282 rfl (lk_gf (T := TX11) B cl_X11 (by decide) in_X11 zw_812 dX11_isBlock_283 (lk_ige B dX11_isBlock_286 (by decide) (k_X11_isBlock_315 hd1 B hr hlk) (k_X11_isBlock_289 hd1 B hr hlk))))
def S_X11_isBlock (d : Nat) (G : Nat → zK) (Q : zQ) : Prop := zLk G 0 (b_X11_isBlock_0 d G Q) ∧ zLk G 28 (b_X11_isBlock_28 d G Q) ∧ zLk G 109 (b_X11_isBlock_109 d G Q) ∧ zLk G 183 (b_X11_isBlock_183 d G Q) ∧ zLk G 220 (b_X11_isBlock_220 d G Q) ∧ zLk G 281 (b_X11_isBlock_281 d G Q)
theorem s_X11_isBlock_0 {d : Nat} {G : Nat → zK} {Q : zQ} (h : S_X11_isBlock d G Q) {ls st : List zV} {μ : zM} (k : b_X11_isBlock_0 d G Q ls st μ) : G 0 ls st μ := h.1 ls st μ k
theorem s_X11_isBlock_28 {d : Nat} {G : Nat → zK} {Q : zQ} (h : S_X11_isBlock d G Q) {ls st : List zV} {μ : zM} (k : b_X11_isBlock_28 d G Q ls st μ) : G 28 ls st μ := h.2.1 ls st μ k
theorem s_X11_isBlock_109 {d : Nat} {G : Nat → zK} {Q : zQ} (h : S_X11_isBlock d G Q) {ls st : List zV} {μ : zM} (k : b_X11_isBlock_109 d G Q ls st μ) : G 109 ls st μ := h.2.2.1 ls st μ k
theorem s_X11_isBlock_183 {d : Nat} {G : Nat → zK} {Q : zQ} (h : S_X11_isBlock d G Q) {ls st : List zV} {μ : zM} (k : b_X11_isBlock_183 d G Q ls st μ) : G 183 ls st μ := h.2.2.2.1 ls st μ k
theorem s_X11_isBlock_220 {d : Nat} {G : Nat → zK} {Q : zQ} (h : S_X11_isBlock d G Q) {ls st : List zV} {μ : zM} (k : b_X11_isBlock_220 d G Q ls st μ) : G 220 ls st μ := h.2.2.2.2.1 ls st μ k
theorem s_X11_isBlock_281 {d : Nat} {G : Nat → zK} {Q : zQ} (h : S_X11_isBlock d G Q) {ls st : List zV} {μ : zM} (k : b_X11_isBlock_281 d G Q ls st μ) : G 281 ls st μ := h.2.2.2.2.2 ls st μ k
theorem of_X11_isBlock {d : Nat} {a0 : zV} {μ : zM} {Q : zQ} (hd1 : 1 ≤ d) (h : ∀ G : Nat → zK, S_X11_isBlock d G Q → G 0 [a0, .inr none, .inr none, .inr none] [] μ) : zCt d mX11_isBlock [a0] μ Q := zCt.mk (by decide) (Nat.le_of_ble_eq_true rfl) (fun p l e s m args below meth c E B hr hlk => h _ ⟨k_X11_isBlock_0 hd1 B hr hlk, k_X11_isBlock_28 hd1 B hr hlk, k_X11_isBlock_109 hd1 B hr hlk, k_X11_isBlock_183 hd1 B hr hlk, k_X11_isBlock_220 hd1 B hr hlk, k_X11_isBlock_281 hd1 B hr hlk⟩)
theorem dX11_where_0 : decode cX11_where 0 = .ok (.bipush 64, 2) := by decide +kernel
theorem dX11_where_2 : decode cX11_where 2 = .ok (.iload_n 1, 1) := by decide +kernel
theorem dX11_where_3 : decode cX11_where 3 = .ok (.imul, 1) := by decide +kernel
theorem dX11_where_4 : decode cX11_where 4 = .ok (.istore_n 3, 1) := by decide +kernel
theorem dX11_where_5 : decode cX11_where 5 = .ok (.iload_n 3, 1) := by decide +kernel
theorem dX11_where_6 : decode cX11_where 6 = .ok (.bipush 64, 2) := by decide +kernel
theorem dX11_where_8 : decode cX11_where 8 = .ok (.iload_n 1, 1) := by decide +kernel
theorem dX11_where_9 : decode cX11_where 9 = .ok (.imul, 1) := by decide +kernel
theorem dX11_where_10 : decode cX11_where 10 = .ok (.aload_n 0, 1) := by decide +kernel
theorem dX11_where_11 : decode cX11_where 11 = .ok (.getfield 7, 3) := by decide +kernel
theorem dX11_where_14 : decode cX11_where 14 = .ok (.iload_n 1, 1) := by decide +kernel
theorem dX11_where_15 : decode cX11_where 15 = .ok (.iaload, 1) := by decide +kernel
theorem dX11_where_16 : decode cX11_where 16 = .ok (.iadd, 1) := by decide +kernel
theorem dX11_where_17 : decode cX11_where 17 = .ok (.if_icmp .ge 21, 3) := by decide +kernel
theorem dX11_where_20 : decode cX11_where 20 = .ok (.aload_n 0, 1) := by decide +kernel
theorem dX11_where_21 : decode cX11_where 21 = .ok (.getfield 13, 3) := by decide +kernel
theorem dX11_where_24 : decode cX11_where 24 = .ok (.iload_n 3, 1) := by decide +kernel
theorem dX11_where_25 : decode cX11_where 25 = .ok (.iaload, 1) := by decide +kernel
theorem dX11_where_26 : decode cX11_where 26 = .ok (.iload_n 2, 1) := by decide +kernel
theorem dX11_where_27 : decode cX11_where 27 = .ok (.if_icmp .ne 5, 3) := by decide +kernel
theorem dX11_where_30 : decode cX11_where 30 = .ok (.iload_n 3, 1) := by decide +kernel
theorem dX11_where_31 : decode cX11_where 31 = .ok (.ireturn, 1) := by decide +kernel
theorem dX11_where_32 : decode cX11_where 32 = .ok (.iinc 3 1, 3) := by decide +kernel
theorem dX11_where_35 : decode cX11_where 35 = .ok (.goto (-30), 3) := by decide +kernel
theorem dX11_where_38 : decode cX11_where 38 = .ok (.iconst (-1), 1) := by decide +kernel
theorem dX11_where_39 : decode cX11_where 39 = .ok (.ireturn, 1) := by decide +kernel
def b_X11_where_0 (d : Nat) (G : Nat → zK) (Q : zQ) : zK := o_c 64 <| o_il 1 <| o_mul <| o_is 3 <| G 5
def b_X11_where_38 (d : Nat) (G : Nat → zK) (Q : zQ) : zK := o_c (-1) <| t_iret Q
def b_X11_where_32 (d : Nat) (G : Nat → zK) (Q : zQ) : zK := o_inc 3 1 <| G 5
def b_X11_where_30 (d : Nat) (G : Nat → zK) (Q : zQ) : zK := o_il 3 <| t_iret Q
def b_X11_where_20 (d : Nat) (G : Nat → zK) (Q : zQ) : zK := o_al 0 <| o_gf 9 1 <| o_il 3 <| o_iald <| o_il 2 <| t_ieq (b_X11_where_30 d G Q) (b_X11_where_32 d G Q)
def b_X11_where_5 (d : Nat) (G : Nat → zK) (Q : zQ) : zK := o_il 3 <| o_c 64 <| o_il 1 <| o_mul <| o_al 0 <| o_gf 9 0 <| o_il 1 <| o_iald <| o_add <| t_ilt (b_X11_where_20 d G Q) (b_X11_where_38 d G Q)
set_option maxRecDepth 20000 in
theorem k_X11_where_0 {p : Program} {l : Launch} {e : Env} {s : State} {m : MethodId} {args : Array Value} {below : List Frame} {meth : Method} {c : Code} {E : zE} {d : Nat} {Q : zQ} (B : zB p s m args c E mX11_where.1.cls mX11_where.2.1 mX11_where.2.2.1) (hr : meth.sig.returnType = mX11_where.2.2.2) (hlk : meth.locks = false) : zLk (zG p l e (zrm d) s m args below meth c E mX11_where.2.2.1 0 0 (MQ below (zQc E Q) args s 0 0 (zaA E))) 0 (b_X11_where_0 d (zG p l e (zrm d) s m args below meth c E mX11_where.2.2.1 0 0 (MQ below (zQc E Q) args s 0 0 (zaA E))) Q) := by
  unfold b_X11_where_0
  exact lk_b B dX11_where_0 rfl (lk_iln B dX11_where_2 rfl (lk_mul B dX11_where_3 (lk_isn B dX11_where_4 rfl (by decide) (fun _ _ _ h => h))))
set_option maxRecDepth 20000 in
theorem k_X11_where_38 {p : Program} {l : Launch} {e : Env} {s : State} {m : MethodId} {args : Array Value} {below : List Frame} {meth : Method} {c : Code} {E : zE} {d : Nat} {Q : zQ} (B : zB p s m args c E mX11_where.1.cls mX11_where.2.1 mX11_where.2.2.1) (hr : meth.sig.returnType = mX11_where.2.2.2) (hlk : meth.locks = false) : zLk (zG p l e (zrm d) s m args below meth c E mX11_where.2.2.1 0 0 (MQ below (zQc E Q) args s 0 0 (zaA E))) 38 (b_X11_where_38 d (zG p l e (zrm d) s m args below meth c E mX11_where.2.2.1 0 0 (MQ below (zQc E Q) args s 0 0 (zaA E))) Q) := by
  unfold b_X11_where_38
  exact lk_c B dX11_where_38 (lk_iret B hr hlk dX11_where_39)
set_option maxRecDepth 20000 in
theorem k_X11_where_32 {p : Program} {l : Launch} {e : Env} {s : State} {m : MethodId} {args : Array Value} {below : List Frame} {meth : Method} {c : Code} {E : zE} {d : Nat} {Q : zQ} (B : zB p s m args c E mX11_where.1.cls mX11_where.2.1 mX11_where.2.2.1) (hr : meth.sig.returnType = mX11_where.2.2.2) (hlk : meth.locks = false) : zLk (zG p l e (zrm d) s m args below meth c E mX11_where.2.2.1 0 0 (MQ below (zQc E Q) args s 0 0 (zaA E))) 32 (b_X11_where_32 d (zG p l e (zrm d) s m args below meth c E mX11_where.2.2.1 0 0 (MQ below (zQc E Q) args s 0 0 (zaA E))) Q) := by
  unfold b_X11_where_32
  exact lk_inc B dX11_where_32 (by decide) (lk_goto B dX11_where_35 (by decide) (fun _ _ _ h => h))
set_option maxRecDepth 20000 in
theorem k_X11_where_30 {p : Program} {l : Launch} {e : Env} {s : State} {m : MethodId} {args : Array Value} {below : List Frame} {meth : Method} {c : Code} {E : zE} {d : Nat} {Q : zQ} (B : zB p s m args c E mX11_where.1.cls mX11_where.2.1 mX11_where.2.2.1) (hr : meth.sig.returnType = mX11_where.2.2.2) (hlk : meth.locks = false) : zLk (zG p l e (zrm d) s m args below meth c E mX11_where.2.2.1 0 0 (MQ below (zQc E Q) args s 0 0 (zaA E))) 30 (b_X11_where_30 d (zG p l e (zrm d) s m args below meth c E mX11_where.2.2.1 0 0 (MQ below (zQc E Q) args s 0 0 (zaA E))) Q) := by
  unfold b_X11_where_30
  exact lk_iln B dX11_where_30 rfl (lk_iret B hr hlk dX11_where_31)
set_option maxRecDepth 20000 in
theorem k_X11_where_20 {p : Program} {l : Launch} {e : Env} {s : State} {m : MethodId} {args : Array Value} {below : List Frame} {meth : Method} {c : Code} {E : zE} {d : Nat} {Q : zQ} (B : zB p s m args c E mX11_where.1.cls mX11_where.2.1 mX11_where.2.2.1) (hr : meth.sig.returnType = mX11_where.2.2.2) (hlk : meth.locks = false) : zLk (zG p l e (zrm d) s m args below meth c E mX11_where.2.2.1 0 0 (MQ below (zQc E Q) args s 0 0 (zaA E))) 20 (b_X11_where_20 d (zG p l e (zrm d) s m args below meth c E mX11_where.2.2.1 0 0 (MQ below (zQc E Q) args s 0 0 (zaA E))) Q) := by
  unfold b_X11_where_20
  exact lk_aln B dX11_where_20 rfl (lk_gf (T := TX11) B cl_X11 (by decide) in_X11 zw_789 dX11_where_21 (lk_iln B dX11_where_24 rfl (lk_iald B dX11_where_25 (lk_iln B dX11_where_26 rfl (lk_ine B dX11_where_27 (by decide) (k_X11_where_32 B hr hlk) (k_X11_where_30 B hr hlk))))))
set_option maxRecDepth 20000 in
theorem k_X11_where_5 {p : Program} {l : Launch} {e : Env} {s : State} {m : MethodId} {args : Array Value} {below : List Frame} {meth : Method} {c : Code} {E : zE} {d : Nat} {Q : zQ} (B : zB p s m args c E mX11_where.1.cls mX11_where.2.1 mX11_where.2.2.1) (hr : meth.sig.returnType = mX11_where.2.2.2) (hlk : meth.locks = false) : zLk (zG p l e (zrm d) s m args below meth c E mX11_where.2.2.1 0 0 (MQ below (zQc E Q) args s 0 0 (zaA E))) 5 (b_X11_where_5 d (zG p l e (zrm d) s m args below meth c E mX11_where.2.2.1 0 0 (MQ below (zQc E Q) args s 0 0 (zaA E))) Q) := by
  unfold b_X11_where_5
  exact lk_iln B dX11_where_5 rfl (lk_b B dX11_where_6 rfl (lk_iln B dX11_where_8 rfl (lk_mul B dX11_where_9 (lk_aln B dX11_where_10 rfl (lk_gf (T := TX11) B cl_X11 (by decide) in_X11 zw_788 dX11_where_11 (lk_iln B dX11_where_14 rfl (lk_iald B dX11_where_15 (lk_add B dX11_where_16 (lk_ige B dX11_where_17 (by decide) (k_X11_where_38 B hr hlk) (k_X11_where_20 B hr hlk))))))))))
def S_X11_where (d : Nat) (G : Nat → zK) (Q : zQ) : Prop := zLk G 0 (b_X11_where_0 d G Q) ∧ zLk G 5 (b_X11_where_5 d G Q)
theorem s_X11_where_0 {d : Nat} {G : Nat → zK} {Q : zQ} (h : S_X11_where d G Q) {ls st : List zV} {μ : zM} (k : b_X11_where_0 d G Q ls st μ) : G 0 ls st μ := h.1 ls st μ k
theorem s_X11_where_5 {d : Nat} {G : Nat → zK} {Q : zQ} (h : S_X11_where d G Q) {ls st : List zV} {μ : zM} (k : b_X11_where_5 d G Q ls st μ) : G 5 ls st μ := h.2 ls st μ k
theorem of_X11_where {d : Nat} {a0 a1 a2 : zV} {μ : zM} {Q : zQ} (h : ∀ G : Nat → zK, S_X11_where d G Q → G 0 [a0, a1, a2, .inr none] [] μ) : zCt d mX11_where [a0, a1, a2] μ Q := zCt.mk (by decide) (Nat.le_of_ble_eq_true rfl) (fun p l e s m args below meth c E B hr hlk => h _ ⟨k_X11_where_0 B hr hlk, k_X11_where_5 B hr hlk⟩)
theorem dX11_sameAsRow_0 : decode cX11_sameAsRow 0 = .ok (.aload_n 0, 1) := by decide +kernel
theorem dX11_sameAsRow_1 : decode cX11_sameAsRow 1 = .ok (.getfield 16, 3) := by decide +kernel
theorem dX11_sameAsRow_4 : decode cX11_sameAsRow 4 = .ok (.iload_n 1, 1) := by decide +kernel
theorem dX11_sameAsRow_5 : decode cX11_sameAsRow 5 = .ok (.iaload, 1) := by decide +kernel
theorem dX11_sameAsRow_6 : decode cX11_sameAsRow 6 = .ok (.aload_n 0, 1) := by decide +kernel
theorem dX11_sameAsRow_7 : decode cX11_sameAsRow 7 = .ok (.getfield 118, 3) := by decide +kernel
theorem dX11_sameAsRow_10 : decode cX11_sameAsRow 10 = .ok (.if_icmp .ne 7, 3) := by decide +kernel
theorem dX11_sameAsRow_13 : decode cX11_sameAsRow 13 = .ok (.iconst 1, 1) := by decide +kernel
theorem dX11_sameAsRow_14 : decode cX11_sameAsRow 14 = .ok (.goto 4, 3) := by decide +kernel
theorem dX11_sameAsRow_17 : decode cX11_sameAsRow 17 = .ok (.iconst 0, 1) := by decide +kernel
theorem dX11_sameAsRow_18 : decode cX11_sameAsRow 18 = .ok (.istore_n 2, 1) := by decide +kernel
theorem dX11_sameAsRow_19 : decode cX11_sameAsRow 19 = .ok (.iconst 0, 1) := by decide +kernel
theorem dX11_sameAsRow_20 : decode cX11_sameAsRow 20 = .ok (.istore_n 3, 1) := by decide +kernel
theorem dX11_sameAsRow_21 : decode cX11_sameAsRow 21 = .ok (.iload_n 3, 1) := by decide +kernel
theorem dX11_sameAsRow_22 : decode cX11_sameAsRow 22 = .ok (.aload_n 0, 1) := by decide +kernel
theorem dX11_sameAsRow_23 : decode cX11_sameAsRow 23 = .ok (.getfield 118, 3) := by decide +kernel
theorem dX11_sameAsRow_26 : decode cX11_sameAsRow 26 = .ok (.if_icmp .ge 39, 3) := by decide +kernel
theorem dX11_sameAsRow_29 : decode cX11_sameAsRow 29 = .ok (.iload_n 2, 1) := by decide +kernel
theorem dX11_sameAsRow_30 : decode cX11_sameAsRow 30 = .ok (.ifCond .eq 35, 3) := by decide +kernel
theorem dX11_sameAsRow_33 : decode cX11_sameAsRow 33 = .ok (.aload_n 0, 1) := by decide +kernel
theorem dX11_sameAsRow_34 : decode cX11_sameAsRow 34 = .ok (.getfield 19, 3) := by decide +kernel
theorem dX11_sameAsRow_37 : decode cX11_sameAsRow 37 = .ok (.bipush 18, 2) := by decide +kernel
theorem dX11_sameAsRow_39 : decode cX11_sameAsRow 39 = .ok (.iload_n 1, 1) := by decide +kernel
theorem dX11_sameAsRow_40 : decode cX11_sameAsRow 40 = .ok (.imul, 1) := by decide +kernel
theorem dX11_sameAsRow_41 : decode cX11_sameAsRow 41 = .ok (.iload_n 3, 1) := by decide +kernel
theorem dX11_sameAsRow_42 : decode cX11_sameAsRow 42 = .ok (.iadd, 1) := by decide +kernel
theorem dX11_sameAsRow_43 : decode cX11_sameAsRow 43 = .ok (.iaload, 1) := by decide +kernel
theorem dX11_sameAsRow_44 : decode cX11_sameAsRow 44 = .ok (.aload_n 0, 1) := by decide +kernel
theorem dX11_sameAsRow_45 : decode cX11_sameAsRow 45 = .ok (.getfield 71, 3) := by decide +kernel
theorem dX11_sameAsRow_48 : decode cX11_sameAsRow 48 = .ok (.iload_n 3, 1) := by decide +kernel
theorem dX11_sameAsRow_49 : decode cX11_sameAsRow 49 = .ok (.iaload, 1) := by decide +kernel
theorem dX11_sameAsRow_50 : decode cX11_sameAsRow 50 = .ok (.if_icmp .ne 7, 3) := by decide +kernel
theorem dX11_sameAsRow_53 : decode cX11_sameAsRow 53 = .ok (.iconst 1, 1) := by decide +kernel
theorem dX11_sameAsRow_54 : decode cX11_sameAsRow 54 = .ok (.goto 4, 3) := by decide +kernel
theorem dX11_sameAsRow_57 : decode cX11_sameAsRow 57 = .ok (.iconst 0, 1) := by decide +kernel
theorem dX11_sameAsRow_58 : decode cX11_sameAsRow 58 = .ok (.istore_n 2, 1) := by decide +kernel
theorem dX11_sameAsRow_59 : decode cX11_sameAsRow 59 = .ok (.iinc 3 1, 3) := by decide +kernel
theorem dX11_sameAsRow_62 : decode cX11_sameAsRow 62 = .ok (.goto (-41), 3) := by decide +kernel
theorem dX11_sameAsRow_65 : decode cX11_sameAsRow 65 = .ok (.iload_n 2, 1) := by decide +kernel
theorem dX11_sameAsRow_66 : decode cX11_sameAsRow 66 = .ok (.ireturn, 1) := by decide +kernel
def b_X11_sameAsRow_18 (d : Nat) (G : Nat → zK) (Q : zQ) : zK := o_is 2 <| o_c 0 <| o_is 3 <| G 21
def b_X11_sameAsRow_17 (d : Nat) (G : Nat → zK) (Q : zQ) : zK := o_c 0 <| b_X11_sameAsRow_18 d G Q
def b_X11_sameAsRow_13 (d : Nat) (G : Nat → zK) (Q : zQ) : zK := o_c 1 <| b_X11_sameAsRow_18 d G Q
def b_X11_sameAsRow_0 (d : Nat) (G : Nat → zK) (Q : zQ) : zK := o_al 0 <| o_gf 9 2 <| o_il 1 <| o_iald <| o_al 0 <| o_gf 9 24 <| t_ieq (b_X11_sameAsRow_13 d G Q) (b_X11_sameAsRow_17 d G Q)
def b_X11_sameAsRow_65 (d : Nat) (G : Nat → zK) (Q : zQ) : zK := o_il 2 <| t_zret Q
def b_X11_sameAsRow_58 (d : Nat) (G : Nat → zK) (Q : zQ) : zK := o_is 2 <| o_inc 3 1 <| G 21
def b_X11_sameAsRow_57 (d : Nat) (G : Nat → zK) (Q : zQ) : zK := o_c 0 <| b_X11_sameAsRow_58 d G Q
def b_X11_sameAsRow_53 (d : Nat) (G : Nat → zK) (Q : zQ) : zK := o_c 1 <| b_X11_sameAsRow_58 d G Q
def b_X11_sameAsRow_33 (d : Nat) (G : Nat → zK) (Q : zQ) : zK := o_al 0 <| o_gf 9 3 <| o_c 18 <| o_il 1 <| o_mul <| o_il 3 <| o_add <| o_iald <| o_al 0 <| o_gf 9 23 <| o_il 3 <| o_iald <| t_ieq (b_X11_sameAsRow_53 d G Q) (b_X11_sameAsRow_57 d G Q)
def b_X11_sameAsRow_29 (d : Nat) (G : Nat → zK) (Q : zQ) : zK := o_il 2 <| t_zeq (b_X11_sameAsRow_65 d G Q) (b_X11_sameAsRow_33 d G Q)
def b_X11_sameAsRow_21 (d : Nat) (G : Nat → zK) (Q : zQ) : zK := o_il 3 <| o_al 0 <| o_gf 9 24 <| t_ilt (b_X11_sameAsRow_29 d G Q) (b_X11_sameAsRow_65 d G Q)
set_option maxRecDepth 20000 in
theorem k_X11_sameAsRow_18 {p : Program} {l : Launch} {e : Env} {s : State} {m : MethodId} {args : Array Value} {below : List Frame} {meth : Method} {c : Code} {E : zE} {d : Nat} {Q : zQ} (B : zB p s m args c E mX11_sameAsRow.1.cls mX11_sameAsRow.2.1 mX11_sameAsRow.2.2.1) (hr : meth.sig.returnType = mX11_sameAsRow.2.2.2) (hlk : meth.locks = false) : zLk (zG p l e (zrm d) s m args below meth c E mX11_sameAsRow.2.2.1 0 0 (MQ below (zQc E Q) args s 0 0 (zaA E))) 18 (b_X11_sameAsRow_18 d (zG p l e (zrm d) s m args below meth c E mX11_sameAsRow.2.2.1 0 0 (MQ below (zQc E Q) args s 0 0 (zaA E))) Q) := by
  unfold b_X11_sameAsRow_18
  exact lk_isn B dX11_sameAsRow_18 rfl (by decide) (lk_c B dX11_sameAsRow_19 (lk_isn B dX11_sameAsRow_20 rfl (by decide) (fun _ _ _ h => h)))
set_option maxRecDepth 20000 in
theorem k_X11_sameAsRow_17 {p : Program} {l : Launch} {e : Env} {s : State} {m : MethodId} {args : Array Value} {below : List Frame} {meth : Method} {c : Code} {E : zE} {d : Nat} {Q : zQ} (B : zB p s m args c E mX11_sameAsRow.1.cls mX11_sameAsRow.2.1 mX11_sameAsRow.2.2.1) (hr : meth.sig.returnType = mX11_sameAsRow.2.2.2) (hlk : meth.locks = false) : zLk (zG p l e (zrm d) s m args below meth c E mX11_sameAsRow.2.2.1 0 0 (MQ below (zQc E Q) args s 0 0 (zaA E))) 17 (b_X11_sameAsRow_17 d (zG p l e (zrm d) s m args below meth c E mX11_sameAsRow.2.2.1 0 0 (MQ below (zQc E Q) args s 0 0 (zaA E))) Q) := by
  unfold b_X11_sameAsRow_17
  exact lk_c B dX11_sameAsRow_17 (k_X11_sameAsRow_18 B hr hlk)
set_option maxRecDepth 20000 in
theorem k_X11_sameAsRow_13 {p : Program} {l : Launch} {e : Env} {s : State} {m : MethodId} {args : Array Value} {below : List Frame} {meth : Method} {c : Code} {E : zE} {d : Nat} {Q : zQ} (B : zB p s m args c E mX11_sameAsRow.1.cls mX11_sameAsRow.2.1 mX11_sameAsRow.2.2.1) (hr : meth.sig.returnType = mX11_sameAsRow.2.2.2) (hlk : meth.locks = false) : zLk (zG p l e (zrm d) s m args below meth c E mX11_sameAsRow.2.2.1 0 0 (MQ below (zQc E Q) args s 0 0 (zaA E))) 13 (b_X11_sameAsRow_13 d (zG p l e (zrm d) s m args below meth c E mX11_sameAsRow.2.2.1 0 0 (MQ below (zQc E Q) args s 0 0 (zaA E))) Q) := by
  unfold b_X11_sameAsRow_13
  exact lk_c B dX11_sameAsRow_13 (lk_goto B dX11_sameAsRow_14 (by decide) (k_X11_sameAsRow_18 B hr hlk))
set_option maxRecDepth 20000 in
theorem k_X11_sameAsRow_0 {p : Program} {l : Launch} {e : Env} {s : State} {m : MethodId} {args : Array Value} {below : List Frame} {meth : Method} {c : Code} {E : zE} {d : Nat} {Q : zQ} (B : zB p s m args c E mX11_sameAsRow.1.cls mX11_sameAsRow.2.1 mX11_sameAsRow.2.2.1) (hr : meth.sig.returnType = mX11_sameAsRow.2.2.2) (hlk : meth.locks = false) : zLk (zG p l e (zrm d) s m args below meth c E mX11_sameAsRow.2.2.1 0 0 (MQ below (zQc E Q) args s 0 0 (zaA E))) 0 (b_X11_sameAsRow_0 d (zG p l e (zrm d) s m args below meth c E mX11_sameAsRow.2.2.1 0 0 (MQ below (zQc E Q) args s 0 0 (zaA E))) Q) := by
  unfold b_X11_sameAsRow_0
  exact lk_aln B dX11_sameAsRow_0 rfl (lk_gf (T := TX11) B cl_X11 (by decide) in_X11 zw_790 dX11_sameAsRow_1 (lk_iln B dX11_sameAsRow_4 rfl (lk_iald B dX11_sameAsRow_5 (lk_aln B dX11_sameAsRow_6 rfl (lk_gf (T := TX11) B cl_X11 (by decide) in_X11 zw_812 dX11_sameAsRow_7 (lk_ine B dX11_sameAsRow_10 (by decide) (k_X11_sameAsRow_17 B hr hlk) (k_X11_sameAsRow_13 B hr hlk)))))))
set_option maxRecDepth 20000 in
theorem k_X11_sameAsRow_65 {p : Program} {l : Launch} {e : Env} {s : State} {m : MethodId} {args : Array Value} {below : List Frame} {meth : Method} {c : Code} {E : zE} {d : Nat} {Q : zQ} (B : zB p s m args c E mX11_sameAsRow.1.cls mX11_sameAsRow.2.1 mX11_sameAsRow.2.2.1) (hr : meth.sig.returnType = mX11_sameAsRow.2.2.2) (hlk : meth.locks = false) : zLk (zG p l e (zrm d) s m args below meth c E mX11_sameAsRow.2.2.1 0 0 (MQ below (zQc E Q) args s 0 0 (zaA E))) 65 (b_X11_sameAsRow_65 d (zG p l e (zrm d) s m args below meth c E mX11_sameAsRow.2.2.1 0 0 (MQ below (zQc E Q) args s 0 0 (zaA E))) Q) := by
  unfold b_X11_sameAsRow_65
  exact lk_iln B dX11_sameAsRow_65 rfl (lk_zret B hr hlk dX11_sameAsRow_66)
set_option maxRecDepth 20000 in
theorem k_X11_sameAsRow_58 {p : Program} {l : Launch} {e : Env} {s : State} {m : MethodId} {args : Array Value} {below : List Frame} {meth : Method} {c : Code} {E : zE} {d : Nat} {Q : zQ} (B : zB p s m args c E mX11_sameAsRow.1.cls mX11_sameAsRow.2.1 mX11_sameAsRow.2.2.1) (hr : meth.sig.returnType = mX11_sameAsRow.2.2.2) (hlk : meth.locks = false) : zLk (zG p l e (zrm d) s m args below meth c E mX11_sameAsRow.2.2.1 0 0 (MQ below (zQc E Q) args s 0 0 (zaA E))) 58 (b_X11_sameAsRow_58 d (zG p l e (zrm d) s m args below meth c E mX11_sameAsRow.2.2.1 0 0 (MQ below (zQc E Q) args s 0 0 (zaA E))) Q) := by
  unfold b_X11_sameAsRow_58
  exact lk_isn B dX11_sameAsRow_58 rfl (by decide) (lk_inc B dX11_sameAsRow_59 (by decide) (lk_goto B dX11_sameAsRow_62 (by decide) (fun _ _ _ h => h)))
set_option maxRecDepth 20000 in
theorem k_X11_sameAsRow_57 {p : Program} {l : Launch} {e : Env} {s : State} {m : MethodId} {args : Array Value} {below : List Frame} {meth : Method} {c : Code} {E : zE} {d : Nat} {Q : zQ} (B : zB p s m args c E mX11_sameAsRow.1.cls mX11_sameAsRow.2.1 mX11_sameAsRow.2.2.1) (hr : meth.sig.returnType = mX11_sameAsRow.2.2.2) (hlk : meth.locks = false) : zLk (zG p l e (zrm d) s m args below meth c E mX11_sameAsRow.2.2.1 0 0 (MQ below (zQc E Q) args s 0 0 (zaA E))) 57 (b_X11_sameAsRow_57 d (zG p l e (zrm d) s m args below meth c E mX11_sameAsRow.2.2.1 0 0 (MQ below (zQc E Q) args s 0 0 (zaA E))) Q) := by
  unfold b_X11_sameAsRow_57
  exact lk_c B dX11_sameAsRow_57 (k_X11_sameAsRow_58 B hr hlk)
set_option maxRecDepth 20000 in
theorem k_X11_sameAsRow_53 {p : Program} {l : Launch} {e : Env} {s : State} {m : MethodId} {args : Array Value} {below : List Frame} {meth : Method} {c : Code} {E : zE} {d : Nat} {Q : zQ} (B : zB p s m args c E mX11_sameAsRow.1.cls mX11_sameAsRow.2.1 mX11_sameAsRow.2.2.1) (hr : meth.sig.returnType = mX11_sameAsRow.2.2.2) (hlk : meth.locks = false) : zLk (zG p l e (zrm d) s m args below meth c E mX11_sameAsRow.2.2.1 0 0 (MQ below (zQc E Q) args s 0 0 (zaA E))) 53 (b_X11_sameAsRow_53 d (zG p l e (zrm d) s m args below meth c E mX11_sameAsRow.2.2.1 0 0 (MQ below (zQc E Q) args s 0 0 (zaA E))) Q) := by
  unfold b_X11_sameAsRow_53
  exact lk_c B dX11_sameAsRow_53 (lk_goto B dX11_sameAsRow_54 (by decide) (k_X11_sameAsRow_58 B hr hlk))
set_option maxRecDepth 20000 in
theorem k_X11_sameAsRow_33 {p : Program} {l : Launch} {e : Env} {s : State} {m : MethodId} {args : Array Value} {below : List Frame} {meth : Method} {c : Code} {E : zE} {d : Nat} {Q : zQ} (B : zB p s m args c E mX11_sameAsRow.1.cls mX11_sameAsRow.2.1 mX11_sameAsRow.2.2.1) (hr : meth.sig.returnType = mX11_sameAsRow.2.2.2) (hlk : meth.locks = false) : zLk (zG p l e (zrm d) s m args below meth c E mX11_sameAsRow.2.2.1 0 0 (MQ below (zQc E Q) args s 0 0 (zaA E))) 33 (b_X11_sameAsRow_33 d (zG p l e (zrm d) s m args below meth c E mX11_sameAsRow.2.2.1 0 0 (MQ below (zQc E Q) args s 0 0 (zaA E))) Q) := by
  unfold b_X11_sameAsRow_33
  exact lk_aln B dX11_sameAsRow_33 rfl (lk_gf (T := TX11) B cl_X11 (by decide) in_X11 zw_791 dX11_sameAsRow_34 (lk_b B dX11_sameAsRow_37 rfl (lk_iln B dX11_sameAsRow_39 rfl (lk_mul B dX11_sameAsRow_40 (lk_iln B dX11_sameAsRow_41 rfl (lk_add B dX11_sameAsRow_42 (lk_iald B dX11_sameAsRow_43 (lk_aln B dX11_sameAsRow_44 rfl (lk_gf (T := TX11) B cl_X11 (by decide) in_X11 zw_811 dX11_sameAsRow_45 (lk_iln B dX11_sameAsRow_48 rfl (lk_iald B dX11_sameAsRow_49 (lk_ine B dX11_sameAsRow_50 (by decide) (k_X11_sameAsRow_57 B hr hlk) (k_X11_sameAsRow_53 B hr hlk)))))))))))))
set_option maxRecDepth 20000 in
theorem k_X11_sameAsRow_29 {p : Program} {l : Launch} {e : Env} {s : State} {m : MethodId} {args : Array Value} {below : List Frame} {meth : Method} {c : Code} {E : zE} {d : Nat} {Q : zQ} (B : zB p s m args c E mX11_sameAsRow.1.cls mX11_sameAsRow.2.1 mX11_sameAsRow.2.2.1) (hr : meth.sig.returnType = mX11_sameAsRow.2.2.2) (hlk : meth.locks = false) : zLk (zG p l e (zrm d) s m args below meth c E mX11_sameAsRow.2.2.1 0 0 (MQ below (zQc E Q) args s 0 0 (zaA E))) 29 (b_X11_sameAsRow_29 d (zG p l e (zrm d) s m args below meth c E mX11_sameAsRow.2.2.1 0 0 (MQ below (zQc E Q) args s 0 0 (zaA E))) Q) := by
  unfold b_X11_sameAsRow_29
  exact lk_iln B dX11_sameAsRow_29 rfl (lk_zeq B dX11_sameAsRow_30 (by decide) (k_X11_sameAsRow_65 B hr hlk) (k_X11_sameAsRow_33 B hr hlk))
set_option maxRecDepth 20000 in
theorem k_X11_sameAsRow_21 {p : Program} {l : Launch} {e : Env} {s : State} {m : MethodId} {args : Array Value} {below : List Frame} {meth : Method} {c : Code} {E : zE} {d : Nat} {Q : zQ} (B : zB p s m args c E mX11_sameAsRow.1.cls mX11_sameAsRow.2.1 mX11_sameAsRow.2.2.1) (hr : meth.sig.returnType = mX11_sameAsRow.2.2.2) (hlk : meth.locks = false) : zLk (zG p l e (zrm d) s m args below meth c E mX11_sameAsRow.2.2.1 0 0 (MQ below (zQc E Q) args s 0 0 (zaA E))) 21 (b_X11_sameAsRow_21 d (zG p l e (zrm d) s m args below meth c E mX11_sameAsRow.2.2.1 0 0 (MQ below (zQc E Q) args s 0 0 (zaA E))) Q) := by
  unfold b_X11_sameAsRow_21
  exact lk_iln B dX11_sameAsRow_21 rfl (lk_aln B dX11_sameAsRow_22 rfl (lk_gf (T := TX11) B cl_X11 (by decide) in_X11 zw_812 dX11_sameAsRow_23 (lk_ige B dX11_sameAsRow_26 (by decide) (k_X11_sameAsRow_65 B hr hlk) (k_X11_sameAsRow_29 B hr hlk))))
def S_X11_sameAsRow (d : Nat) (G : Nat → zK) (Q : zQ) : Prop := zLk G 0 (b_X11_sameAsRow_0 d G Q) ∧ zLk G 21 (b_X11_sameAsRow_21 d G Q)
theorem s_X11_sameAsRow_0 {d : Nat} {G : Nat → zK} {Q : zQ} (h : S_X11_sameAsRow d G Q) {ls st : List zV} {μ : zM} (k : b_X11_sameAsRow_0 d G Q ls st μ) : G 0 ls st μ := h.1 ls st μ k
theorem s_X11_sameAsRow_21 {d : Nat} {G : Nat → zK} {Q : zQ} (h : S_X11_sameAsRow d G Q) {ls st : List zV} {μ : zM} (k : b_X11_sameAsRow_21 d G Q ls st μ) : G 21 ls st μ := h.2 ls st μ k
theorem of_X11_sameAsRow {d : Nat} {a0 a1 : zV} {μ : zM} {Q : zQ} (h : ∀ G : Nat → zK, S_X11_sameAsRow d G Q → G 0 [a0, a1, .inr none, .inr none] [] μ) : zCt d mX11_sameAsRow [a0, a1] μ Q := zCt.mk (by decide) (Nat.le_of_ble_eq_true rfl) (fun p l e s m args below meth c E B hr hlk => h _ ⟨k_X11_sameAsRow_0 B hr hlk, k_X11_sameAsRow_21 B hr hlk⟩)
theorem dX11_enter_0 : decode cX11_enter 0 = .ok (.bipush 64, 2) := by decide +kernel
theorem dX11_enter_2 : decode cX11_enter 2 = .ok (.iload_n 1, 1) := by decide +kernel
theorem dX11_enter_3 : decode cX11_enter 3 = .ok (.imul, 1) := by decide +kernel
theorem dX11_enter_4 : decode cX11_enter 4 = .ok (.aload_n 0, 1) := by decide +kernel
theorem dX11_enter_5 : decode cX11_enter 5 = .ok (.getfield 7, 3) := by decide +kernel
theorem dX11_enter_8 : decode cX11_enter 8 = .ok (.iload_n 1, 1) := by decide +kernel
theorem dX11_enter_9 : decode cX11_enter 9 = .ok (.iaload, 1) := by decide +kernel
theorem dX11_enter_10 : decode cX11_enter 10 = .ok (.iadd, 1) := by decide +kernel
theorem dX11_enter_11 : decode cX11_enter 11 = .ok (.istore_n 3, 1) := by decide +kernel
theorem dX11_enter_12 : decode cX11_enter 12 = .ok (.aload_n 0, 1) := by decide +kernel
theorem dX11_enter_13 : decode cX11_enter 13 = .ok (.getfield 13, 3) := by decide +kernel
theorem dX11_enter_16 : decode cX11_enter 16 = .ok (.iload_n 3, 1) := by decide +kernel
theorem dX11_enter_17 : decode cX11_enter 17 = .ok (.iload_n 2, 1) := by decide +kernel
theorem dX11_enter_18 : decode cX11_enter 18 = .ok (.iastore, 1) := by decide +kernel
theorem dX11_enter_19 : decode cX11_enter 19 = .ok (.aload_n 0, 1) := by decide +kernel
theorem dX11_enter_20 : decode cX11_enter 20 = .ok (.getfield 16, 3) := by decide +kernel
theorem dX11_enter_23 : decode cX11_enter 23 = .ok (.iload_n 3, 1) := by decide +kernel
theorem dX11_enter_24 : decode cX11_enter 24 = .ok (.aload_n 0, 1) := by decide +kernel
theorem dX11_enter_25 : decode cX11_enter 25 = .ok (.getfield 118, 3) := by decide +kernel
theorem dX11_enter_28 : decode cX11_enter 28 = .ok (.iastore, 1) := by decide +kernel
theorem dX11_enter_29 : decode cX11_enter 29 = .ok (.iconst 0, 1) := by decide +kernel
theorem dX11_enter_30 : decode cX11_enter 30 = .ok (.istore 4, 2) := by decide +kernel
theorem dX11_enter_32 : decode cX11_enter 32 = .ok (.iload 4, 2) := by decide +kernel
theorem dX11_enter_34 : decode cX11_enter 34 = .ok (.aload_n 0, 1) := by decide +kernel
theorem dX11_enter_35 : decode cX11_enter 35 = .ok (.getfield 118, 3) := by decide +kernel
theorem dX11_enter_38 : decode cX11_enter 38 = .ok (.if_icmp .ge 28, 3) := by decide +kernel
theorem dX11_enter_41 : decode cX11_enter 41 = .ok (.aload_n 0, 1) := by decide +kernel
theorem dX11_enter_42 : decode cX11_enter 42 = .ok (.getfield 19, 3) := by decide +kernel
theorem dX11_enter_45 : decode cX11_enter 45 = .ok (.bipush 18, 2) := by decide +kernel
theorem dX11_enter_47 : decode cX11_enter 47 = .ok (.iload_n 3, 1) := by decide +kernel
theorem dX11_enter_48 : decode cX11_enter 48 = .ok (.imul, 1) := by decide +kernel
theorem dX11_enter_49 : decode cX11_enter 49 = .ok (.iload 4, 2) := by decide +kernel
theorem dX11_enter_51 : decode cX11_enter 51 = .ok (.iadd, 1) := by decide +kernel
theorem dX11_enter_52 : decode cX11_enter 52 = .ok (.aload_n 0, 1) := by decide +kernel
theorem dX11_enter_53 : decode cX11_enter 53 = .ok (.getfield 71, 3) := by decide +kernel
theorem dX11_enter_56 : decode cX11_enter 56 = .ok (.iload 4, 2) := by decide +kernel
theorem dX11_enter_58 : decode cX11_enter 58 = .ok (.iaload, 1) := by decide +kernel
theorem dX11_enter_59 : decode cX11_enter 59 = .ok (.iastore, 1) := by decide +kernel
theorem dX11_enter_60 : decode cX11_enter 60 = .ok (.iinc 4 1, 3) := by decide +kernel
theorem dX11_enter_63 : decode cX11_enter 63 = .ok (.goto (-31), 3) := by decide +kernel
theorem dX11_enter_66 : decode cX11_enter 66 = .ok (.aload_n 0, 1) := by decide +kernel
theorem dX11_enter_67 : decode cX11_enter 67 = .ok (.getfield 7, 3) := by decide +kernel
theorem dX11_enter_70 : decode cX11_enter 70 = .ok (.iload_n 1, 1) := by decide +kernel
theorem dX11_enter_71 : decode cX11_enter 71 = .ok (.dup2, 1) := by decide +kernel
theorem dX11_enter_72 : decode cX11_enter 72 = .ok (.iaload, 1) := by decide +kernel
theorem dX11_enter_73 : decode cX11_enter 73 = .ok (.iconst 1, 1) := by decide +kernel
theorem dX11_enter_74 : decode cX11_enter 74 = .ok (.iadd, 1) := by decide +kernel
theorem dX11_enter_75 : decode cX11_enter 75 = .ok (.iastore, 1) := by decide +kernel
theorem dX11_enter_76 : decode cX11_enter 76 = .ok (.return_, 1) := by decide +kernel
def b_X11_enter_0 (d : Nat) (G : Nat → zK) (Q : zQ) : zK := o_c 64 <| o_il 1 <| o_mul <| o_al 0 <| o_gf 9 0 <| o_il 1 <| o_iald <| o_add <| o_is 3 <| o_al 0 <| o_gf 9 1 <| o_il 3 <| o_il 2 <| o_iast <| o_al 0 <| o_gf 9 2 <| o_il 3 <| o_al 0 <| o_gf 9 24 <| o_iast <| o_c 0 <| o_is 4 <| G 32
def b_X11_enter_66 (d : Nat) (G : Nat → zK) (Q : zQ) : zK := o_al 0 <| o_gf 9 0 <| o_il 1 <| o_dup2 <| o_iald <| o_c 1 <| o_add <| o_iast <| t_vret Q
def b_X11_enter_41 (d : Nat) (G : Nat → zK) (Q : zQ) : zK := o_al 0 <| o_gf 9 3 <| o_c 18 <| o_il 3 <| o_mul <| o_il 4 <| o_add <| o_al 0 <| o_gf 9 23 <| o_il 4 <| o_iald <| o_iast <| o_inc 4 1 <| G 32
def b_X11_enter_32 (d : Nat) (G : Nat → zK) (Q : zQ) : zK := o_il 4 <| o_al 0 <| o_gf 9 24 <| t_ilt (b_X11_enter_41 d G Q) (b_X11_enter_66 d G Q)
set_option maxRecDepth 20000 in
theorem k_X11_enter_0 {p : Program} {l : Launch} {e : Env} {s : State} {m : MethodId} {args : Array Value} {below : List Frame} {meth : Method} {c : Code} {E : zE} {d : Nat} {Q : zQ} (B : zB p s m args c E mX11_enter.1.cls mX11_enter.2.1 mX11_enter.2.2.1) (hr : meth.sig.returnType = mX11_enter.2.2.2) (hlk : meth.locks = false) : zLk (zG p l e (zrm d) s m args below meth c E mX11_enter.2.2.1 0 0 (MQ below (zQc E Q) args s 0 0 (zaA E))) 0 (b_X11_enter_0 d (zG p l e (zrm d) s m args below meth c E mX11_enter.2.2.1 0 0 (MQ below (zQc E Q) args s 0 0 (zaA E))) Q) := by
  unfold b_X11_enter_0
  exact lk_b B dX11_enter_0 rfl (lk_iln B dX11_enter_2 rfl (lk_mul B dX11_enter_3 (lk_aln B dX11_enter_4 rfl (lk_gf (T := TX11) B cl_X11 (by decide) in_X11 zw_788 dX11_enter_5 (lk_iln B dX11_enter_8 rfl (lk_iald B dX11_enter_9 (lk_add B dX11_enter_10 (lk_isn B dX11_enter_11 rfl (by decide) (lk_aln B dX11_enter_12 rfl (lk_gf (T := TX11) B cl_X11 (by decide) in_X11 zw_789 dX11_enter_13 (lk_iln B dX11_enter_16 rfl (lk_iln B dX11_enter_17 rfl (lk_iast B dX11_enter_18 (lk_aln B dX11_enter_19 rfl (lk_gf (T := TX11) B cl_X11 (by decide) in_X11 zw_790 dX11_enter_20 (lk_iln B dX11_enter_23 rfl (lk_aln B dX11_enter_24 rfl (lk_gf (T := TX11) B cl_X11 (by decide) in_X11 zw_812 dX11_enter_25 (lk_iast B dX11_enter_28 (lk_c B dX11_enter_29 (lk_is B dX11_enter_30 (by decide) (fun _ _ _ h => h))))))))))))))))))))))
set_option maxRecDepth 20000 in
theorem k_X11_enter_66 {p : Program} {l : Launch} {e : Env} {s : State} {m : MethodId} {args : Array Value} {below : List Frame} {meth : Method} {c : Code} {E : zE} {d : Nat} {Q : zQ} (B : zB p s m args c E mX11_enter.1.cls mX11_enter.2.1 mX11_enter.2.2.1) (hr : meth.sig.returnType = mX11_enter.2.2.2) (hlk : meth.locks = false) : zLk (zG p l e (zrm d) s m args below meth c E mX11_enter.2.2.1 0 0 (MQ below (zQc E Q) args s 0 0 (zaA E))) 66 (b_X11_enter_66 d (zG p l e (zrm d) s m args below meth c E mX11_enter.2.2.1 0 0 (MQ below (zQc E Q) args s 0 0 (zaA E))) Q) := by
  unfold b_X11_enter_66
  exact lk_aln B dX11_enter_66 rfl (lk_gf (T := TX11) B cl_X11 (by decide) in_X11 zw_788 dX11_enter_67 (lk_iln B dX11_enter_70 rfl (lk_dup2 B dX11_enter_71 (lk_iald B dX11_enter_72 (lk_c B dX11_enter_73 (lk_add B dX11_enter_74 (lk_iast B dX11_enter_75 (lk_vret B hr hlk dX11_enter_76))))))))
set_option maxRecDepth 20000 in
theorem k_X11_enter_41 {p : Program} {l : Launch} {e : Env} {s : State} {m : MethodId} {args : Array Value} {below : List Frame} {meth : Method} {c : Code} {E : zE} {d : Nat} {Q : zQ} (B : zB p s m args c E mX11_enter.1.cls mX11_enter.2.1 mX11_enter.2.2.1) (hr : meth.sig.returnType = mX11_enter.2.2.2) (hlk : meth.locks = false) : zLk (zG p l e (zrm d) s m args below meth c E mX11_enter.2.2.1 0 0 (MQ below (zQc E Q) args s 0 0 (zaA E))) 41 (b_X11_enter_41 d (zG p l e (zrm d) s m args below meth c E mX11_enter.2.2.1 0 0 (MQ below (zQc E Q) args s 0 0 (zaA E))) Q) := by
  unfold b_X11_enter_41
  exact lk_aln B dX11_enter_41 rfl (lk_gf (T := TX11) B cl_X11 (by decide) in_X11 zw_791 dX11_enter_42 (lk_b B dX11_enter_45 rfl (lk_iln B dX11_enter_47 rfl (lk_mul B dX11_enter_48 (lk_il B dX11_enter_49 (lk_add B dX11_enter_51 (lk_aln B dX11_enter_52 rfl (lk_gf (T := TX11) B cl_X11 (by decide) in_X11 zw_811 dX11_enter_53 (lk_il B dX11_enter_56 (lk_iald B dX11_enter_58 (lk_iast B dX11_enter_59 (lk_inc B dX11_enter_60 (by decide) (lk_goto B dX11_enter_63 (by decide) (fun _ _ _ h => h))))))))))))))
set_option maxRecDepth 20000 in
theorem k_X11_enter_32 {p : Program} {l : Launch} {e : Env} {s : State} {m : MethodId} {args : Array Value} {below : List Frame} {meth : Method} {c : Code} {E : zE} {d : Nat} {Q : zQ} (B : zB p s m args c E mX11_enter.1.cls mX11_enter.2.1 mX11_enter.2.2.1) (hr : meth.sig.returnType = mX11_enter.2.2.2) (hlk : meth.locks = false) : zLk (zG p l e (zrm d) s m args below meth c E mX11_enter.2.2.1 0 0 (MQ below (zQc E Q) args s 0 0 (zaA E))) 32 (b_X11_enter_32 d (zG p l e (zrm d) s m args below meth c E mX11_enter.2.2.1 0 0 (MQ below (zQc E Q) args s 0 0 (zaA E))) Q) := by
  unfold b_X11_enter_32
  exact lk_il B dX11_enter_32 (lk_aln B dX11_enter_34 rfl (lk_gf (T := TX11) B cl_X11 (by decide) in_X11 zw_812 dX11_enter_35 (lk_ige B dX11_enter_38 (by decide) (k_X11_enter_66 B hr hlk) (k_X11_enter_41 B hr hlk))))
def S_X11_enter (d : Nat) (G : Nat → zK) (Q : zQ) : Prop := zLk G 0 (b_X11_enter_0 d G Q) ∧ zLk G 32 (b_X11_enter_32 d G Q)
theorem s_X11_enter_0 {d : Nat} {G : Nat → zK} {Q : zQ} (h : S_X11_enter d G Q) {ls st : List zV} {μ : zM} (k : b_X11_enter_0 d G Q ls st μ) : G 0 ls st μ := h.1 ls st μ k
theorem s_X11_enter_32 {d : Nat} {G : Nat → zK} {Q : zQ} (h : S_X11_enter d G Q) {ls st : List zV} {μ : zM} (k : b_X11_enter_32 d G Q ls st μ) : G 32 ls st μ := h.2 ls st μ k
theorem of_X11_enter {d : Nat} {a0 a1 a2 : zV} {μ : zM} {Q : zQ} (h : ∀ G : Nat → zK, S_X11_enter d G Q → G 0 [a0, a1, a2, .inr none, .inr none] [] μ) : zCt d mX11_enter [a0, a1, a2] μ Q := zCt.mk (by decide) (Nat.le_of_ble_eq_true rfl) (fun p l e s m args below meth c E B hr hlk => h _ ⟨k_X11_enter_0 B hr hlk, k_X11_enter_32 B hr hlk⟩)
theorem dX11_put_0 : decode cX11_put 0 = .ok (.aload_n 0, 1) := by decide +kernel
theorem dX11_put_1 : decode cX11_put 1 = .ok (.iconst 0, 1) := by decide +kernel
theorem dX11_put_2 : decode cX11_put 2 = .ok (.putfield 118, 3) := by decide +kernel
theorem dX11_put_5 : decode cX11_put 5 = .ok (.iconst 0, 1) := by decide +kernel
theorem dX11_put_6 : decode cX11_put 6 = .ok (.istore_n 2, 1) := by decide +kernel
theorem dX11_put_7 : decode cX11_put 7 = .ok (.iload_n 2, 1) := by decide +kernel
theorem dX11_put_8 : decode cX11_put 8 = .ok (.aload_n 0, 1) := by decide +kernel
theorem dX11_put_9 : decode cX11_put 9 = .ok (.getfield 104, 3) := by decide +kernel
theorem dX11_put_12 : decode cX11_put 12 = .ok (.if_icmp .ge 19, 3) := by decide +kernel
theorem dX11_put_15 : decode cX11_put 15 = .ok (.aload_n 0, 1) := by decide +kernel
theorem dX11_put_16 : decode cX11_put 16 = .ok (.aload_n 0, 1) := by decide +kernel
theorem dX11_put_17 : decode cX11_put 17 = .ok (.getfield 62, 3) := by decide +kernel
theorem dX11_put_20 : decode cX11_put 20 = .ok (.iload_n 2, 1) := by decide +kernel
theorem dX11_put_21 : decode cX11_put 21 = .ok (.iaload, 1) := by decide +kernel
theorem dX11_put_22 : decode cX11_put 22 = .ok (.invokevirtual 121, 3) := by decide +kernel
theorem dX11_put_25 : decode cX11_put 25 = .ok (.iinc 2 1, 3) := by decide +kernel
theorem dX11_put_28 : decode cX11_put 28 = .ok (.goto (-21), 3) := by decide +kernel
theorem dX11_put_31 : decode cX11_put 31 = .ok (.iload_n 1, 1) := by decide +kernel
theorem dX11_put_32 : decode cX11_put 32 = .ok (.invokestatic 132, 3) := by decide +kernel
theorem dX11_put_35 : decode cX11_put 35 = .ok (.ifCond .eq 10, 3) := by decide +kernel
theorem dX11_put_38 : decode cX11_put 38 = .ok (.aload_n 0, 1) := by decide +kernel
theorem dX11_put_39 : decode cX11_put 39 = .ok (.invokevirtual 136, 3) := by decide +kernel
theorem dX11_put_42 : decode cX11_put 42 = .ok (.ifCond .ne 5, 3) := by decide +kernel
theorem dX11_put_45 : decode cX11_put 45 = .ok (.iconst (-1), 1) := by decide +kernel
theorem dX11_put_46 : decode cX11_put 46 = .ok (.ireturn, 1) := by decide +kernel
theorem dX11_put_47 : decode cX11_put 47 = .ok (.aload_n 0, 1) := by decide +kernel
theorem dX11_put_48 : decode cX11_put 48 = .ok (.invokevirtual 140, 3) := by decide +kernel
theorem dX11_put_51 : decode cX11_put 51 = .ok (.istore_n 2, 1) := by decide +kernel
theorem dX11_put_52 : decode cX11_put 52 = .ok (.aload_n 0, 1) := by decide +kernel
theorem dX11_put_53 : decode cX11_put 53 = .ok (.iload_n 1, 1) := by decide +kernel
theorem dX11_put_54 : decode cX11_put 54 = .ok (.iload_n 2, 1) := by decide +kernel
theorem dX11_put_55 : decode cX11_put 55 = .ok (.invokevirtual 144, 3) := by decide +kernel
theorem dX11_put_58 : decode cX11_put 58 = .ok (.istore_n 3, 1) := by decide +kernel
theorem dX11_put_59 : decode cX11_put 59 = .ok (.iload_n 3, 1) := by decide +kernel
theorem dX11_put_60 : decode cX11_put 60 = .ok (.ifCond .lt 14, 3) := by decide +kernel
theorem dX11_put_63 : decode cX11_put 63 = .ok (.aload_n 0, 1) := by decide +kernel
theorem dX11_put_64 : decode cX11_put 64 = .ok (.iload_n 3, 1) := by decide +kernel
theorem dX11_put_65 : decode cX11_put 65 = .ok (.invokevirtual 147, 3) := by decide +kernel
theorem dX11_put_68 : decode cX11_put 68 = .ok (.ifCond .ne 6, 3) := by decide +kernel
theorem dX11_put_71 : decode cX11_put 71 = .ok (.bipush (-2), 2) := by decide +kernel
theorem dX11_put_73 : decode cX11_put 73 = .ok (.ireturn, 1) := by decide +kernel
theorem dX11_put_74 : decode cX11_put 74 = .ok (.iload_n 3, 1) := by decide +kernel
theorem dX11_put_75 : decode cX11_put 75 = .ok (.ifCond .ge 17, 3) := by decide +kernel
theorem dX11_put_78 : decode cX11_put 78 = .ok (.aload_n 0, 1) := by decide +kernel
theorem dX11_put_79 : decode cX11_put 79 = .ok (.getfield 7, 3) := by decide +kernel
theorem dX11_put_82 : decode cX11_put 82 = .ok (.iload_n 1, 1) := by decide +kernel
theorem dX11_put_83 : decode cX11_put 83 = .ok (.iaload, 1) := by decide +kernel
theorem dX11_put_84 : decode cX11_put 84 = .ok (.bipush 64, 2) := by decide +kernel
theorem dX11_put_86 : decode cX11_put 86 = .ok (.if_icmp .ne 6, 3) := by decide +kernel
theorem dX11_put_89 : decode cX11_put 89 = .ok (.bipush (-3), 2) := by decide +kernel
theorem dX11_put_91 : decode cX11_put 91 = .ok (.ireturn, 1) := by decide +kernel
theorem dX11_put_92 : decode cX11_put 92 = .ok (.iload_n 3, 1) := by decide +kernel
theorem dX11_put_93 : decode cX11_put 93 = .ok (.ifCond .ge 9, 3) := by decide +kernel
theorem dX11_put_96 : decode cX11_put 96 = .ok (.aload_n 0, 1) := by decide +kernel
theorem dX11_put_97 : decode cX11_put 97 = .ok (.iload_n 1, 1) := by decide +kernel
theorem dX11_put_98 : decode cX11_put 98 = .ok (.iload_n 2, 1) := by decide +kernel
theorem dX11_put_99 : decode cX11_put 99 = .ok (.invokevirtual 150, 3) := by decide +kernel
theorem dX11_put_102 : decode cX11_put 102 = .ok (.aload_n 0, 1) := by decide +kernel
theorem dX11_put_103 : decode cX11_put 103 = .ok (.iconst 0, 1) := by decide +kernel
theorem dX11_put_104 : decode cX11_put 104 = .ok (.putfield 104, 3) := by decide +kernel
theorem dX11_put_107 : decode cX11_put 107 = .ok (.aload_n 0, 1) := by decide +kernel
theorem dX11_put_108 : decode cX11_put 108 = .ok (.iload_n 1, 1) := by decide +kernel
theorem dX11_put_109 : decode cX11_put 109 = .ok (.invokevirtual 154, 3) := by decide +kernel
theorem dX11_put_112 : decode cX11_put 112 = .ok (.iload_n 2, 1) := by decide +kernel
theorem dX11_put_113 : decode cX11_put 113 = .ok (.ireturn, 1) := by decide +kernel
def b_X11_put_0 (d : Nat) (G : Nat → zK) (Q : zQ) : zK := o_al 0 <| o_c 0 <| o_pf 9 24 <| o_c 0 <| o_is 2 <| G 7
def b_X11_put_45 (d : Nat) (G : Nat → zK) (Q : zQ) : zK := o_c (-1) <| t_iret Q
def b_X11_put_89 (d : Nat) (G : Nat → zK) (Q : zQ) : zK := o_c (-3) <| t_iret Q
def b_X11_put_78 (d : Nat) (G : Nat → zK) (Q : zQ) : zK := o_al 0 <| o_gf 9 0 <| o_il 1 <| o_iald <| o_c 64 <| t_ieq (b_X11_put_89 d G Q) (G 92)
def b_X11_put_74 (d : Nat) (G : Nat → zK) (Q : zQ) : zK := o_il 3 <| t_zlt (b_X11_put_78 d G Q) (G 92)
def b_X11_put_71 (d : Nat) (G : Nat → zK) (Q : zQ) : zK := o_c (-2) <| t_iret Q
def b_X11_put_63 (d : Nat) (G : Nat → zK) (Q : zQ) : zK := o_al 0 <| o_il 3 <| o_callv (zCt (d - 1) mX11_sameAsRow) 9 2 <| t_zeq (b_X11_put_71 d G Q) (b_X11_put_74 d G Q)
def b_X11_put_47 (d : Nat) (G : Nat → zK) (Q : zQ) : zK := o_al 0 <| o_callv (zCt (d - 1) mX11_rowName) 9 1 <| o_is 2 <| o_al 0 <| o_il 1 <| o_il 2 <| o_callv (zCt (d - 1) mX11_where) 9 3 <| o_is 3 <| o_il 3 <| t_zlt (b_X11_put_74 d G Q) (b_X11_put_63 d G Q)
def b_X11_put_38 (d : Nat) (G : Nat → zK) (Q : zQ) : zK := o_al 0 <| o_callv (zCt (d - 1) mX11_isBlock) 9 1 <| t_zeq (b_X11_put_45 d G Q) (b_X11_put_47 d G Q)
def b_X11_put_31 (d : Nat) (G : Nat → zK) (Q : zQ) : zK := o_il 1 <| o_call (zCt (d - 1) mX11_isStore) 1 <| t_zeq (b_X11_put_45 d G Q) (b_X11_put_38 d G Q)
def b_X11_put_15 (d : Nat) (G : Nat → zK) (Q : zQ) : zK := o_al 0 <| o_al 0 <| o_gf 9 19 <| o_il 2 <| o_iald <| o_callv (zCt (d - 1) mX11_push) 9 2 <| o_inc 2 1 <| G 7
def b_X11_put_7 (d : Nat) (G : Nat → zK) (Q : zQ) : zK := o_il 2 <| o_al 0 <| o_gf 9 18 <| t_ilt (b_X11_put_15 d G Q) (b_X11_put_31 d G Q)
def b_X11_put_102 (d : Nat) (G : Nat → zK) (Q : zQ) : zK := o_al 0 <| o_c 0 <| o_pf 9 18 <| o_al 0 <| o_il 1 <| o_callv (zCt (d - 1) mX11_settle) 9 2 <| o_il 2 <| t_iret Q
def b_X11_put_96 (d : Nat) (G : Nat → zK) (Q : zQ) : zK := o_al 0 <| o_il 1 <| o_il 2 <| o_callv (zCt (d - 1) mX11_enter) 9 3 <| b_X11_put_102 d G Q
def b_X11_put_92 (d : Nat) (G : Nat → zK) (Q : zQ) : zK := o_il 3 <| t_zlt (b_X11_put_96 d G Q) (b_X11_put_102 d G Q)
set_option maxRecDepth 20000 in
theorem k_X11_put_0 {p : Program} {l : Launch} {e : Env} {s : State} {m : MethodId} {args : Array Value} {below : List Frame} {meth : Method} {c : Code} {E : zE} {d : Nat} {Q : zQ} (hd1 : 1 ≤ d) (B : zB p s m args c E mX11_put.1.cls mX11_put.2.1 mX11_put.2.2.1) (hr : meth.sig.returnType = mX11_put.2.2.2) (hlk : meth.locks = false) : zLk (zG p l e (zrm d) s m args below meth c E mX11_put.2.2.1 0 0 (MQ below (zQc E Q) args s 0 0 (zaA E))) 0 (b_X11_put_0 d (zG p l e (zrm d) s m args below meth c E mX11_put.2.2.1 0 0 (MQ below (zQc E Q) args s 0 0 (zaA E))) Q) := by
  unfold b_X11_put_0
  exact lk_aln B dX11_put_0 rfl (lk_c B dX11_put_1 (lk_pf (T := TX11) B cl_X11 (by decide) in_X11 tyX11_ok nmX11 zw_812 rfl (by decide +kernel) dX11_put_2 (lk_c B dX11_put_5 (lk_isn B dX11_put_6 rfl (by decide) (fun _ _ _ h => h)))))
set_option maxRecDepth 20000 in
theorem k_X11_put_45 {p : Program} {l : Launch} {e : Env} {s : State} {m : MethodId} {args : Array Value} {below : List Frame} {meth : Method} {c : Code} {E : zE} {d : Nat} {Q : zQ} (hd1 : 1 ≤ d) (B : zB p s m args c E mX11_put.1.cls mX11_put.2.1 mX11_put.2.2.1) (hr : meth.sig.returnType = mX11_put.2.2.2) (hlk : meth.locks = false) : zLk (zG p l e (zrm d) s m args below meth c E mX11_put.2.2.1 0 0 (MQ below (zQc E Q) args s 0 0 (zaA E))) 45 (b_X11_put_45 d (zG p l e (zrm d) s m args below meth c E mX11_put.2.2.1 0 0 (MQ below (zQc E Q) args s 0 0 (zaA E))) Q) := by
  unfold b_X11_put_45
  exact lk_c B dX11_put_45 (lk_iret B hr hlk dX11_put_46)
set_option maxRecDepth 20000 in
theorem k_X11_put_89 {p : Program} {l : Launch} {e : Env} {s : State} {m : MethodId} {args : Array Value} {below : List Frame} {meth : Method} {c : Code} {E : zE} {d : Nat} {Q : zQ} (hd1 : 1 ≤ d) (B : zB p s m args c E mX11_put.1.cls mX11_put.2.1 mX11_put.2.2.1) (hr : meth.sig.returnType = mX11_put.2.2.2) (hlk : meth.locks = false) : zLk (zG p l e (zrm d) s m args below meth c E mX11_put.2.2.1 0 0 (MQ below (zQc E Q) args s 0 0 (zaA E))) 89 (b_X11_put_89 d (zG p l e (zrm d) s m args below meth c E mX11_put.2.2.1 0 0 (MQ below (zQc E Q) args s 0 0 (zaA E))) Q) := by
  unfold b_X11_put_89
  exact lk_b B dX11_put_89 rfl (lk_iret B hr hlk dX11_put_91)
set_option maxRecDepth 20000 in
theorem k_X11_put_78 {p : Program} {l : Launch} {e : Env} {s : State} {m : MethodId} {args : Array Value} {below : List Frame} {meth : Method} {c : Code} {E : zE} {d : Nat} {Q : zQ} (hd1 : 1 ≤ d) (B : zB p s m args c E mX11_put.1.cls mX11_put.2.1 mX11_put.2.2.1) (hr : meth.sig.returnType = mX11_put.2.2.2) (hlk : meth.locks = false) : zLk (zG p l e (zrm d) s m args below meth c E mX11_put.2.2.1 0 0 (MQ below (zQc E Q) args s 0 0 (zaA E))) 78 (b_X11_put_78 d (zG p l e (zrm d) s m args below meth c E mX11_put.2.2.1 0 0 (MQ below (zQc E Q) args s 0 0 (zaA E))) Q) := by
  unfold b_X11_put_78
  exact lk_aln B dX11_put_78 rfl (lk_gf (T := TX11) B cl_X11 (by decide) in_X11 zw_788 dX11_put_79 (lk_iln B dX11_put_82 rfl (lk_iald B dX11_put_83 (lk_b B dX11_put_84 rfl (lk_ine B dX11_put_86 (by decide) (fun _ _ _ h => h) (k_X11_put_89 hd1 B hr hlk))))))
set_option maxRecDepth 20000 in
theorem k_X11_put_74 {p : Program} {l : Launch} {e : Env} {s : State} {m : MethodId} {args : Array Value} {below : List Frame} {meth : Method} {c : Code} {E : zE} {d : Nat} {Q : zQ} (hd1 : 1 ≤ d) (B : zB p s m args c E mX11_put.1.cls mX11_put.2.1 mX11_put.2.2.1) (hr : meth.sig.returnType = mX11_put.2.2.2) (hlk : meth.locks = false) : zLk (zG p l e (zrm d) s m args below meth c E mX11_put.2.2.1 0 0 (MQ below (zQc E Q) args s 0 0 (zaA E))) 74 (b_X11_put_74 d (zG p l e (zrm d) s m args below meth c E mX11_put.2.2.1 0 0 (MQ below (zQc E Q) args s 0 0 (zaA E))) Q) := by
  unfold b_X11_put_74
  exact lk_iln B dX11_put_74 rfl (lk_zge B dX11_put_75 (by decide) (fun _ _ _ h => h) (k_X11_put_78 hd1 B hr hlk))
set_option maxRecDepth 20000 in
theorem k_X11_put_71 {p : Program} {l : Launch} {e : Env} {s : State} {m : MethodId} {args : Array Value} {below : List Frame} {meth : Method} {c : Code} {E : zE} {d : Nat} {Q : zQ} (hd1 : 1 ≤ d) (B : zB p s m args c E mX11_put.1.cls mX11_put.2.1 mX11_put.2.2.1) (hr : meth.sig.returnType = mX11_put.2.2.2) (hlk : meth.locks = false) : zLk (zG p l e (zrm d) s m args below meth c E mX11_put.2.2.1 0 0 (MQ below (zQc E Q) args s 0 0 (zaA E))) 71 (b_X11_put_71 d (zG p l e (zrm d) s m args below meth c E mX11_put.2.2.1 0 0 (MQ below (zQc E Q) args s 0 0 (zaA E))) Q) := by
  unfold b_X11_put_71
  exact lk_b B dX11_put_71 rfl (lk_iret B hr hlk dX11_put_73)
set_option maxRecDepth 20000 in
theorem k_X11_put_63 {p : Program} {l : Launch} {e : Env} {s : State} {m : MethodId} {args : Array Value} {below : List Frame} {meth : Method} {c : Code} {E : zE} {d : Nat} {Q : zQ} (hd1 : 1 ≤ d) (B : zB p s m args c E mX11_put.1.cls mX11_put.2.1 mX11_put.2.2.1) (hr : meth.sig.returnType = mX11_put.2.2.2) (hlk : meth.locks = false) : zLk (zG p l e (zrm d) s m args below meth c E mX11_put.2.2.1 0 0 (MQ below (zQc E Q) args s 0 0 (zaA E))) 63 (b_X11_put_63 d (zG p l e (zrm d) s m args below meth c E mX11_put.2.2.1 0 0 (MQ below (zQc E Q) args s 0 0 (zaA E))) Q) := by
  unfold b_X11_put_63
  exact lk_aln B dX11_put_63 rfl (lk_iln B dX11_put_64 rfl (lk_callv (M := mX11_sameAsRow) (T := TX11) (N := 41) B (zhR hd1 (by decide)) ⟨Nat.zero_le _, Nat.zero_le _⟩ cl_X11 (zw5 zw_967 zw_964 zw_966 zw_21 zw_58) (by decide +kernel) dX11_put_65 (lk_zne B dX11_put_68 (by decide) (k_X11_put_74 hd1 B hr hlk) (k_X11_put_71 hd1 B hr hlk))))
set_option maxRecDepth 20000 in
theorem k_X11_put_47 {p : Program} {l : Launch} {e : Env} {s : State} {m : MethodId} {args : Array Value} {below : List Frame} {meth : Method} {c : Code} {E : zE} {d : Nat} {Q : zQ} (hd1 : 1 ≤ d) (B : zB p s m args c E mX11_put.1.cls mX11_put.2.1 mX11_put.2.2.1) (hr : meth.sig.returnType = mX11_put.2.2.2) (hlk : meth.locks = false) : zLk (zG p l e (zrm d) s m args below meth c E mX11_put.2.2.1 0 0 (MQ below (zQc E Q) args s 0 0 (zaA E))) 47 (b_X11_put_47 d (zG p l e (zrm d) s m args below meth c E mX11_put.2.2.1 0 0 (MQ below (zQc E Q) args s 0 0 (zaA E))) Q) := by
  unfold b_X11_put_47
  exact lk_aln B dX11_put_47 rfl (lk_callv (M := mX11_rowName) (T := TX11) (N := 41) B (zhR hd1 (by decide)) ⟨Nat.zero_le _, Nat.zero_le _⟩ cl_X11 (zw5 zw_959 zw_956 zw_958 zw_19 zw_58) (by decide +kernel) dX11_put_48 (lk_isn B dX11_put_51 rfl (by decide) (lk_aln B dX11_put_52 rfl (lk_iln B dX11_put_53 rfl (lk_iln B dX11_put_54 rfl (lk_callv (M := mX11_where) (T := TX11) (N := 41) B (zhR hd1 (by decide)) ⟨Nat.zero_le _, Nat.zero_le _⟩ cl_X11 (zw5 zw_963 zw_960 zw_962 zw_20 zw_58) (by decide +kernel) dX11_put_55 (lk_isn B dX11_put_58 rfl (by decide) (lk_iln B dX11_put_59 rfl (lk_zlt B dX11_put_60 (by decide) (k_X11_put_74 hd1 B hr hlk) (k_X11_put_63 hd1 B hr hlk))))))))))
set_option maxRecDepth 20000 in
theorem k_X11_put_38 {p : Program} {l : Launch} {e : Env} {s : State} {m : MethodId} {args : Array Value} {below : List Frame} {meth : Method} {c : Code} {E : zE} {d : Nat} {Q : zQ} (hd1 : 1 ≤ d) (B : zB p s m args c E mX11_put.1.cls mX11_put.2.1 mX11_put.2.2.1) (hr : meth.sig.returnType = mX11_put.2.2.2) (hlk : meth.locks = false) : zLk (zG p l e (zrm d) s m args below meth c E mX11_put.2.2.1 0 0 (MQ below (zQc E Q) args s 0 0 (zaA E))) 38 (b_X11_put_38 d (zG p l e (zrm d) s m args below meth c E mX11_put.2.2.1 0 0 (MQ below (zQc E Q) args s 0 0 (zaA E))) Q) := by
  unfold b_X11_put_38
  exact lk_aln B dX11_put_38 rfl (lk_callv (M := mX11_isBlock) (T := TX11) (N := 41) B (zhR hd1 (by decide)) ⟨Nat.zero_le _, Nat.zero_le _⟩ cl_X11 (zw5 zw_948 zw_945 zw_947 zw_17 zw_58) (by decide +kernel) dX11_put_39 (lk_zne B dX11_put_42 (by decide) (k_X11_put_47 hd1 B hr hlk) (k_X11_put_45 hd1 B hr hlk)))
set_option maxRecDepth 20000 in
theorem k_X11_put_31 {p : Program} {l : Launch} {e : Env} {s : State} {m : MethodId} {args : Array Value} {below : List Frame} {meth : Method} {c : Code} {E : zE} {d : Nat} {Q : zQ} (hd1 : 1 ≤ d) (B : zB p s m args c E mX11_put.1.cls mX11_put.2.1 mX11_put.2.2.1) (hr : meth.sig.returnType = mX11_put.2.2.2) (hlk : meth.locks = false) : zLk (zG p l e (zrm d) s m args below meth c E mX11_put.2.2.1 0 0 (MQ below (zQc E Q) args s 0 0 (zaA E))) 31 (b_X11_put_31 d (zG p l e (zrm d) s m args below meth c E mX11_put.2.2.1 0 0 (MQ below (zQc E Q) args s 0 0 (zaA E))) Q) := by
  unfold b_X11_put_31
  exact lk_iln B dX11_put_31 rfl (lk_calls (M := mX11_isStore) B (zhR hd1 (by decide)) ⟨Nat.zero_le _, Nat.zero_le _⟩ (zw4 zw_944 zw_942 zw_943 zw_58) (by decide +kernel) dX11_put_32 (lk_zeq B dX11_put_35 (by decide) (k_X11_put_45 hd1 B hr hlk) (k_X11_put_38 hd1 B hr hlk)))
set_option maxRecDepth 20000 in
theorem k_X11_put_15 {p : Program} {l : Launch} {e : Env} {s : State} {m : MethodId} {args : Array Value} {below : List Frame} {meth : Method} {c : Code} {E : zE} {d : Nat} {Q : zQ} (hd1 : 1 ≤ d) (B : zB p s m args c E mX11_put.1.cls mX11_put.2.1 mX11_put.2.2.1) (hr : meth.sig.returnType = mX11_put.2.2.2) (hlk : meth.locks = false) : zLk (zG p l e (zrm d) s m args below meth c E mX11_put.2.2.1 0 0 (MQ below (zQc E Q) args s 0 0 (zaA E))) 15 (b_X11_put_15 d (zG p l e (zrm d) s m args below meth c E mX11_put.2.2.1 0 0 (MQ below (zQc E Q) args s 0 0 (zaA E))) Q) := by
  unfold b_X11_put_15
  exact lk_aln B dX11_put_15 rfl (lk_aln B dX11_put_16 rfl (lk_gf (T := TX11) B cl_X11 (by decide) in_X11 zw_807 dX11_put_17 (lk_iln B dX11_put_20 rfl (lk_iald B dX11_put_21 (lk_callv (M := mX11_push) (T := TX11) (N := 41) B (zhR hd1 (by decide)) ⟨Nat.zero_le _, Nat.zero_le _⟩ cl_X11 (zw5 zw_941 zw_938 zw_940 zw_16 zw_58) (by decide +kernel) dX11_put_22 (lk_inc B dX11_put_25 (by decide) (lk_goto B dX11_put_28 (by decide) (fun _ _ _ h => h))))))))
set_option maxRecDepth 20000 in
theorem k_X11_put_7 {p : Program} {l : Launch} {e : Env} {s : State} {m : MethodId} {args : Array Value} {below : List Frame} {meth : Method} {c : Code} {E : zE} {d : Nat} {Q : zQ} (hd1 : 1 ≤ d) (B : zB p s m args c E mX11_put.1.cls mX11_put.2.1 mX11_put.2.2.1) (hr : meth.sig.returnType = mX11_put.2.2.2) (hlk : meth.locks = false) : zLk (zG p l e (zrm d) s m args below meth c E mX11_put.2.2.1 0 0 (MQ below (zQc E Q) args s 0 0 (zaA E))) 7 (b_X11_put_7 d (zG p l e (zrm d) s m args below meth c E mX11_put.2.2.1 0 0 (MQ below (zQc E Q) args s 0 0 (zaA E))) Q) := by
  unfold b_X11_put_7
  exact lk_iln B dX11_put_7 rfl (lk_aln B dX11_put_8 rfl (lk_gf (T := TX11) B cl_X11 (by decide) in_X11 zw_806 dX11_put_9 (lk_ige B dX11_put_12 (by decide) (k_X11_put_31 hd1 B hr hlk) (k_X11_put_15 hd1 B hr hlk))))
set_option maxRecDepth 20000 in
theorem k_X11_put_102 {p : Program} {l : Launch} {e : Env} {s : State} {m : MethodId} {args : Array Value} {below : List Frame} {meth : Method} {c : Code} {E : zE} {d : Nat} {Q : zQ} (hd1 : 1 ≤ d) (B : zB p s m args c E mX11_put.1.cls mX11_put.2.1 mX11_put.2.2.1) (hr : meth.sig.returnType = mX11_put.2.2.2) (hlk : meth.locks = false) : zLk (zG p l e (zrm d) s m args below meth c E mX11_put.2.2.1 0 0 (MQ below (zQc E Q) args s 0 0 (zaA E))) 102 (b_X11_put_102 d (zG p l e (zrm d) s m args below meth c E mX11_put.2.2.1 0 0 (MQ below (zQc E Q) args s 0 0 (zaA E))) Q) := by
  unfold b_X11_put_102
  exact lk_aln B dX11_put_102 rfl (lk_c B dX11_put_103 (lk_pf (T := TX11) B cl_X11 (by decide) in_X11 tyX11_ok nmX11 zw_806 rfl (by decide +kernel) dX11_put_104 (lk_aln B dX11_put_107 rfl (lk_iln B dX11_put_108 rfl (lk_callv (M := mX11_settle) (T := TX11) (N := 41) B (zhR hd1 (by decide)) ⟨Nat.zero_le _, Nat.zero_le _⟩ cl_X11 (zw5 zw_975 zw_972 zw_974 zw_23 zw_58) (by decide +kernel) dX11_put_109 (lk_iln B dX11_put_112 rfl (lk_iret B hr hlk dX11_put_113)))))))
set_option maxRecDepth 20000 in
theorem k_X11_put_96 {p : Program} {l : Launch} {e : Env} {s : State} {m : MethodId} {args : Array Value} {below : List Frame} {meth : Method} {c : Code} {E : zE} {d : Nat} {Q : zQ} (hd1 : 1 ≤ d) (B : zB p s m args c E mX11_put.1.cls mX11_put.2.1 mX11_put.2.2.1) (hr : meth.sig.returnType = mX11_put.2.2.2) (hlk : meth.locks = false) : zLk (zG p l e (zrm d) s m args below meth c E mX11_put.2.2.1 0 0 (MQ below (zQc E Q) args s 0 0 (zaA E))) 96 (b_X11_put_96 d (zG p l e (zrm d) s m args below meth c E mX11_put.2.2.1 0 0 (MQ below (zQc E Q) args s 0 0 (zaA E))) Q) := by
  unfold b_X11_put_96
  exact lk_aln B dX11_put_96 rfl (lk_iln B dX11_put_97 rfl (lk_iln B dX11_put_98 rfl (lk_callv (M := mX11_enter) (T := TX11) (N := 41) B (zhR hd1 (by decide)) ⟨Nat.zero_le _, Nat.zero_le _⟩ cl_X11 (zw5 zw_971 zw_968 zw_970 zw_22 zw_58) (by decide +kernel) dX11_put_99 (k_X11_put_102 hd1 B hr hlk))))
set_option maxRecDepth 20000 in
theorem k_X11_put_92 {p : Program} {l : Launch} {e : Env} {s : State} {m : MethodId} {args : Array Value} {below : List Frame} {meth : Method} {c : Code} {E : zE} {d : Nat} {Q : zQ} (hd1 : 1 ≤ d) (B : zB p s m args c E mX11_put.1.cls mX11_put.2.1 mX11_put.2.2.1) (hr : meth.sig.returnType = mX11_put.2.2.2) (hlk : meth.locks = false) : zLk (zG p l e (zrm d) s m args below meth c E mX11_put.2.2.1 0 0 (MQ below (zQc E Q) args s 0 0 (zaA E))) 92 (b_X11_put_92 d (zG p l e (zrm d) s m args below meth c E mX11_put.2.2.1 0 0 (MQ below (zQc E Q) args s 0 0 (zaA E))) Q) := by
  unfold b_X11_put_92
  exact lk_iln B dX11_put_92 rfl (lk_zge B dX11_put_93 (by decide) (k_X11_put_102 hd1 B hr hlk) (k_X11_put_96 hd1 B hr hlk))
def S_X11_put (d : Nat) (G : Nat → zK) (Q : zQ) : Prop := zLk G 0 (b_X11_put_0 d G Q) ∧ zLk G 7 (b_X11_put_7 d G Q) ∧ zLk G 92 (b_X11_put_92 d G Q)
theorem s_X11_put_0 {d : Nat} {G : Nat → zK} {Q : zQ} (h : S_X11_put d G Q) {ls st : List zV} {μ : zM} (k : b_X11_put_0 d G Q ls st μ) : G 0 ls st μ := h.1 ls st μ k
theorem s_X11_put_7 {d : Nat} {G : Nat → zK} {Q : zQ} (h : S_X11_put d G Q) {ls st : List zV} {μ : zM} (k : b_X11_put_7 d G Q ls st μ) : G 7 ls st μ := h.2.1 ls st μ k
theorem s_X11_put_92 {d : Nat} {G : Nat → zK} {Q : zQ} (h : S_X11_put d G Q) {ls st : List zV} {μ : zM} (k : b_X11_put_92 d G Q ls st μ) : G 92 ls st μ := h.2.2 ls st μ k
theorem of_X11_put {d : Nat} {a0 a1 : zV} {μ : zM} {Q : zQ} (hd1 : 1 ≤ d) (h : ∀ G : Nat → zK, S_X11_put d G Q → G 0 [a0, a1, .inr none, .inr none] [] μ) : zCt d mX11_put [a0, a1] μ Q := zCt.mk (by decide) (Nat.le_of_ble_eq_true rfl) (fun p l e s m args below meth c E B hr hlk => h _ ⟨k_X11_put_0 hd1 B hr hlk, k_X11_put_7 hd1 B hr hlk, k_X11_put_92 hd1 B hr hlk⟩)
theorem dX11_stage_0 : decode cX11_stage 0 = .ok (.aload_n 0, 1) := by decide +kernel
theorem dX11_stage_1 : decode cX11_stage 1 = .ok (.invokevirtual 140, 3) := by decide +kernel
theorem dX11_stage_4 : decode cX11_stage 4 = .ok (.istore_n 2, 1) := by decide +kernel
theorem dX11_stage_5 : decode cX11_stage 5 = .ok (.aload_n 0, 1) := by decide +kernel
theorem dX11_stage_6 : decode cX11_stage 6 = .ok (.iload_n 1, 1) := by decide +kernel
theorem dX11_stage_7 : decode cX11_stage 7 = .ok (.iload_n 2, 1) := by decide +kernel
theorem dX11_stage_8 : decode cX11_stage 8 = .ok (.invokevirtual 144, 3) := by decide +kernel
theorem dX11_stage_11 : decode cX11_stage 11 = .ok (.istore_n 3, 1) := by decide +kernel
theorem dX11_stage_12 : decode cX11_stage 12 = .ok (.iload_n 3, 1) := by decide +kernel
theorem dX11_stage_13 : decode cX11_stage 13 = .ok (.ifCond .lt 29, 3) := by decide +kernel
theorem dX11_stage_16 : decode cX11_stage 16 = .ok (.aload_n 0, 1) := by decide +kernel
theorem dX11_stage_17 : decode cX11_stage 17 = .ok (.aload_n 0, 1) := by decide +kernel
theorem dX11_stage_18 : decode cX11_stage 18 = .ok (.getfield 157, 3) := by decide +kernel
theorem dX11_stage_21 : decode cX11_stage 21 = .ok (.ifCond .ne 11, 3) := by decide +kernel
theorem dX11_stage_24 : decode cX11_stage 24 = .ok (.aload_n 0, 1) := by decide +kernel
theorem dX11_stage_25 : decode cX11_stage 25 = .ok (.iload_n 3, 1) := by decide +kernel
theorem dX11_stage_26 : decode cX11_stage 26 = .ok (.invokevirtual 147, 3) := by decide +kernel
theorem dX11_stage_29 : decode cX11_stage 29 = .ok (.ifCond .ne 7, 3) := by decide +kernel
theorem dX11_stage_32 : decode cX11_stage 32 = .ok (.iconst 1, 1) := by decide +kernel
theorem dX11_stage_33 : decode cX11_stage 33 = .ok (.goto 4, 3) := by decide +kernel
theorem dX11_stage_36 : decode cX11_stage 36 = .ok (.iconst 0, 1) := by decide +kernel
theorem dX11_stage_37 : decode cX11_stage 37 = .ok (.putfield 157, 3) := by decide +kernel
theorem dX11_stage_40 : decode cX11_stage 40 = .ok (.iload_n 2, 1) := by decide +kernel
theorem dX11_stage_41 : decode cX11_stage 41 = .ok (.ireturn, 1) := by decide +kernel
theorem dX11_stage_42 : decode cX11_stage 42 = .ok (.iconst 0, 1) := by decide +kernel
theorem dX11_stage_43 : decode cX11_stage 43 = .ok (.istore 4, 2) := by decide +kernel
theorem dX11_stage_45 : decode cX11_stage 45 = .ok (.iload 4, 2) := by decide +kernel
theorem dX11_stage_47 : decode cX11_stage 47 = .ok (.aload_n 0, 1) := by decide +kernel
theorem dX11_stage_48 : decode cX11_stage 48 = .ok (.getfield 161, 3) := by decide +kernel
theorem dX11_stage_51 : decode cX11_stage 51 = .ok (.if_icmp .ge 120, 3) := by decide +kernel
theorem dX11_stage_54 : decode cX11_stage 54 = .ok (.aload_n 0, 1) := by decide +kernel
theorem dX11_stage_55 : decode cX11_stage 55 = .ok (.getfield 74, 3) := by decide +kernel
theorem dX11_stage_58 : decode cX11_stage 58 = .ok (.iload 4, 2) := by decide +kernel
theorem dX11_stage_60 : decode cX11_stage 60 = .ok (.iaload, 1) := by decide +kernel
theorem dX11_stage_61 : decode cX11_stage 61 = .ok (.iload_n 2, 1) := by decide +kernel
theorem dX11_stage_62 : decode cX11_stage 62 = .ok (.if_icmp .eq 6, 3) := by decide +kernel
theorem dX11_stage_65 : decode cX11_stage 65 = .ok (.goto 100, 3) := by decide +kernel
theorem dX11_stage_68 : decode cX11_stage 68 = .ok (.aload_n 0, 1) := by decide +kernel
theorem dX11_stage_69 : decode cX11_stage 69 = .ok (.getfield 77, 3) := by decide +kernel
theorem dX11_stage_72 : decode cX11_stage 72 = .ok (.iload 4, 2) := by decide +kernel
theorem dX11_stage_74 : decode cX11_stage 74 = .ok (.iaload, 1) := by decide +kernel
theorem dX11_stage_75 : decode cX11_stage 75 = .ok (.aload_n 0, 1) := by decide +kernel
theorem dX11_stage_76 : decode cX11_stage 76 = .ok (.getfield 118, 3) := by decide +kernel
theorem dX11_stage_79 : decode cX11_stage 79 = .ok (.if_icmp .ne 7, 3) := by decide +kernel
theorem dX11_stage_82 : decode cX11_stage 82 = .ok (.iconst 1, 1) := by decide +kernel
theorem dX11_stage_83 : decode cX11_stage 83 = .ok (.goto 4, 3) := by decide +kernel
theorem dX11_stage_86 : decode cX11_stage 86 = .ok (.iconst 0, 1) := by decide +kernel
theorem dX11_stage_87 : decode cX11_stage 87 = .ok (.istore 5, 2) := by decide +kernel
theorem dX11_stage_89 : decode cX11_stage 89 = .ok (.iconst 0, 1) := by decide +kernel
theorem dX11_stage_90 : decode cX11_stage 90 = .ok (.istore 6, 2) := by decide +kernel
theorem dX11_stage_92 : decode cX11_stage 92 = .ok (.iload 6, 2) := by decide +kernel
theorem dX11_stage_94 : decode cX11_stage 94 = .ok (.aload_n 0, 1) := by decide +kernel
theorem dX11_stage_95 : decode cX11_stage 95 = .ok (.getfield 118, 3) := by decide +kernel
theorem dX11_stage_98 : decode cX11_stage 98 = .ok (.if_icmp .ge 44, 3) := by decide +kernel
theorem dX11_stage_101 : decode cX11_stage 101 = .ok (.iload 5, 2) := by decide +kernel
theorem dX11_stage_103 : decode cX11_stage 103 = .ok (.ifCond .eq 39, 3) := by decide +kernel
theorem dX11_stage_106 : decode cX11_stage 106 = .ok (.aload_n 0, 1) := by decide +kernel
theorem dX11_stage_107 : decode cX11_stage 107 = .ok (.getfield 80, 3) := by decide +kernel
theorem dX11_stage_110 : decode cX11_stage 110 = .ok (.bipush 18, 2) := by decide +kernel
theorem dX11_stage_112 : decode cX11_stage 112 = .ok (.iload 4, 2) := by decide +kernel
theorem dX11_stage_114 : decode cX11_stage 114 = .ok (.imul, 1) := by decide +kernel
theorem dX11_stage_115 : decode cX11_stage 115 = .ok (.iload 6, 2) := by decide +kernel
theorem dX11_stage_117 : decode cX11_stage 117 = .ok (.iadd, 1) := by decide +kernel
theorem dX11_stage_118 : decode cX11_stage 118 = .ok (.iaload, 1) := by decide +kernel
theorem dX11_stage_119 : decode cX11_stage 119 = .ok (.aload_n 0, 1) := by decide +kernel
theorem dX11_stage_120 : decode cX11_stage 120 = .ok (.getfield 71, 3) := by decide +kernel
theorem dX11_stage_123 : decode cX11_stage 123 = .ok (.iload 6, 2) := by decide +kernel
theorem dX11_stage_125 : decode cX11_stage 125 = .ok (.iaload, 1) := by decide +kernel
theorem dX11_stage_126 : decode cX11_stage 126 = .ok (.if_icmp .ne 7, 3) := by decide +kernel
theorem dX11_stage_129 : decode cX11_stage 129 = .ok (.iconst 1, 1) := by decide +kernel
theorem dX11_stage_130 : decode cX11_stage 130 = .ok (.goto 4, 3) := by decide +kernel
theorem dX11_stage_133 : decode cX11_stage 133 = .ok (.iconst 0, 1) := by decide +kernel
theorem dX11_stage_134 : decode cX11_stage 134 = .ok (.istore 5, 2) := by decide +kernel
theorem dX11_stage_136 : decode cX11_stage 136 = .ok (.iinc 6 1, 3) := by decide +kernel
theorem dX11_stage_139 : decode cX11_stage 139 = .ok (.goto (-47), 3) := by decide +kernel
theorem dX11_stage_142 : decode cX11_stage 142 = .ok (.aload_n 0, 1) := by decide +kernel
theorem dX11_stage_143 : decode cX11_stage 143 = .ok (.aload_n 0, 1) := by decide +kernel
theorem dX11_stage_144 : decode cX11_stage 144 = .ok (.getfield 157, 3) := by decide +kernel
theorem dX11_stage_147 : decode cX11_stage 147 = .ok (.ifCond .ne 8, 3) := by decide +kernel
theorem dX11_stage_150 : decode cX11_stage 150 = .ok (.iload 5, 2) := by decide +kernel
theorem dX11_stage_152 : decode cX11_stage 152 = .ok (.ifCond .ne 7, 3) := by decide +kernel
theorem dX11_stage_155 : decode cX11_stage 155 = .ok (.iconst 1, 1) := by decide +kernel
theorem dX11_stage_156 : decode cX11_stage 156 = .ok (.goto 4, 3) := by decide +kernel
theorem dX11_stage_159 : decode cX11_stage 159 = .ok (.iconst 0, 1) := by decide +kernel
theorem dX11_stage_160 : decode cX11_stage 160 = .ok (.putfield 157, 3) := by decide +kernel
theorem dX11_stage_163 : decode cX11_stage 163 = .ok (.iload_n 2, 1) := by decide +kernel
theorem dX11_stage_164 : decode cX11_stage 164 = .ok (.ireturn, 1) := by decide +kernel
theorem dX11_stage_165 : decode cX11_stage 165 = .ok (.iinc 4 1, 3) := by decide +kernel
theorem dX11_stage_168 : decode cX11_stage 168 = .ok (.goto (-123), 3) := by decide +kernel
theorem dX11_stage_171 : decode cX11_stage 171 = .ok (.aload_n 0, 1) := by decide +kernel
theorem dX11_stage_172 : decode cX11_stage 172 = .ok (.getfield 74, 3) := by decide +kernel
theorem dX11_stage_175 : decode cX11_stage 175 = .ok (.aload_n 0, 1) := by decide +kernel
theorem dX11_stage_176 : decode cX11_stage 176 = .ok (.getfield 161, 3) := by decide +kernel
theorem dX11_stage_179 : decode cX11_stage 179 = .ok (.iload_n 2, 1) := by decide +kernel
theorem dX11_stage_180 : decode cX11_stage 180 = .ok (.iastore, 1) := by decide +kernel
theorem dX11_stage_181 : decode cX11_stage 181 = .ok (.aload_n 0, 1) := by decide +kernel
theorem dX11_stage_182 : decode cX11_stage 182 = .ok (.getfield 77, 3) := by decide +kernel
theorem dX11_stage_185 : decode cX11_stage 185 = .ok (.aload_n 0, 1) := by decide +kernel
theorem dX11_stage_186 : decode cX11_stage 186 = .ok (.getfield 161, 3) := by decide +kernel
theorem dX11_stage_189 : decode cX11_stage 189 = .ok (.aload_n 0, 1) := by decide +kernel
theorem dX11_stage_190 : decode cX11_stage 190 = .ok (.getfield 118, 3) := by decide +kernel
theorem dX11_stage_193 : decode cX11_stage 193 = .ok (.iastore, 1) := by decide +kernel
theorem dX11_stage_194 : decode cX11_stage 194 = .ok (.iconst 0, 1) := by decide +kernel
theorem dX11_stage_195 : decode cX11_stage 195 = .ok (.istore 4, 2) := by decide +kernel
theorem dX11_stage_197 : decode cX11_stage 197 = .ok (.iload 4, 2) := by decide +kernel
theorem dX11_stage_199 : decode cX11_stage 199 = .ok (.aload_n 0, 1) := by decide +kernel
theorem dX11_stage_200 : decode cX11_stage 200 = .ok (.getfield 118, 3) := by decide +kernel
theorem dX11_stage_203 : decode cX11_stage 203 = .ok (.if_icmp .ge 31, 3) := by decide +kernel
theorem dX11_stage_206 : decode cX11_stage 206 = .ok (.aload_n 0, 1) := by decide +kernel
theorem dX11_stage_207 : decode cX11_stage 207 = .ok (.getfield 80, 3) := by decide +kernel
theorem dX11_stage_210 : decode cX11_stage 210 = .ok (.bipush 18, 2) := by decide +kernel
theorem dX11_stage_212 : decode cX11_stage 212 = .ok (.aload_n 0, 1) := by decide +kernel
theorem dX11_stage_213 : decode cX11_stage 213 = .ok (.getfield 161, 3) := by decide +kernel
theorem dX11_stage_216 : decode cX11_stage 216 = .ok (.imul, 1) := by decide +kernel
theorem dX11_stage_217 : decode cX11_stage 217 = .ok (.iload 4, 2) := by decide +kernel
theorem dX11_stage_219 : decode cX11_stage 219 = .ok (.iadd, 1) := by decide +kernel
theorem dX11_stage_220 : decode cX11_stage 220 = .ok (.aload_n 0, 1) := by decide +kernel
theorem dX11_stage_221 : decode cX11_stage 221 = .ok (.getfield 71, 3) := by decide +kernel
theorem dX11_stage_224 : decode cX11_stage 224 = .ok (.iload 4, 2) := by decide +kernel
theorem dX11_stage_226 : decode cX11_stage 226 = .ok (.iaload, 1) := by decide +kernel
theorem dX11_stage_227 : decode cX11_stage 227 = .ok (.iastore, 1) := by decide +kernel
theorem dX11_stage_228 : decode cX11_stage 228 = .ok (.iinc 4 1, 3) := by decide +kernel
theorem dX11_stage_231 : decode cX11_stage 231 = .ok (.goto (-34), 3) := by decide +kernel
theorem dX11_stage_234 : decode cX11_stage 234 = .ok (.aload_n 0, 1) := by decide +kernel
theorem dX11_stage_235 : decode cX11_stage 235 = .ok (.dup, 1) := by decide +kernel
theorem dX11_stage_236 : decode cX11_stage 236 = .ok (.getfield 161, 3) := by decide +kernel
theorem dX11_stage_239 : decode cX11_stage 239 = .ok (.iconst 1, 1) := by decide +kernel
theorem dX11_stage_240 : decode cX11_stage 240 = .ok (.iadd, 1) := by decide +kernel
theorem dX11_stage_241 : decode cX11_stage 241 = .ok (.putfield 161, 3) := by decide +kernel
theorem dX11_stage_244 : decode cX11_stage 244 = .ok (.iload_n 2, 1) := by decide +kernel
theorem dX11_stage_245 : decode cX11_stage 245 = .ok (.ireturn, 1) := by decide +kernel
def b_X11_stage_42 (d : Nat) (G : Nat → zK) (Q : zQ) : zK := o_c 0 <| o_is 4 <| G 45
def b_X11_stage_37 (d : Nat) (G : Nat → zK) (Q : zQ) : zK := o_pz 9 26 <| o_il 2 <| t_iret Q
def b_X11_stage_32 (d : Nat) (G : Nat → zK) (Q : zQ) : zK := o_c 1 <| b_X11_stage_37 d G Q
def b_X11_stage_36 (d : Nat) (G : Nat → zK) (Q : zQ) : zK := o_c 0 <| b_X11_stage_37 d G Q
def b_X11_stage_24 (d : Nat) (G : Nat → zK) (Q : zQ) : zK := o_al 0 <| o_il 3 <| o_callv (zCt (d - 1) mX11_sameAsRow) 9 2 <| t_zeq (b_X11_stage_32 d G Q) (b_X11_stage_36 d G Q)
def b_X11_stage_16 (d : Nat) (G : Nat → zK) (Q : zQ) : zK := o_al 0 <| o_al 0 <| o_gf 9 26 <| t_zeq (b_X11_stage_24 d G Q) (b_X11_stage_32 d G Q)
def b_X11_stage_0 (d : Nat) (G : Nat → zK) (Q : zQ) : zK := o_al 0 <| o_callv (zCt (d - 1) mX11_rowName) 9 1 <| o_is 2 <| o_al 0 <| o_il 1 <| o_il 2 <| o_callv (zCt (d - 1) mX11_where) 9 3 <| o_is 3 <| o_il 3 <| t_zlt (b_X11_stage_42 d G Q) (b_X11_stage_16 d G Q)
def b_X11_stage_171 (d : Nat) (G : Nat → zK) (Q : zQ) : zK := o_al 0 <| o_gf 9 27 <| o_al 0 <| o_gf 9 25 <| o_il 2 <| o_iast <| o_al 0 <| o_gf 9 28 <| o_al 0 <| o_gf 9 25 <| o_al 0 <| o_gf 9 24 <| o_iast <| o_c 0 <| o_is 4 <| G 197
def b_X11_stage_87 (d : Nat) (G : Nat → zK) (Q : zQ) : zK := o_is 5 <| o_c 0 <| o_is 6 <| G 92
def b_X11_stage_86 (d : Nat) (G : Nat → zK) (Q : zQ) : zK := o_c 0 <| b_X11_stage_87 d G Q
def b_X11_stage_82 (d : Nat) (G : Nat → zK) (Q : zQ) : zK := o_c 1 <| b_X11_stage_87 d G Q
def b_X11_stage_68 (d : Nat) (G : Nat → zK) (Q : zQ) : zK := o_al 0 <| o_gf 9 28 <| o_il 4 <| o_iald <| o_al 0 <| o_gf 9 24 <| t_ieq (b_X11_stage_82 d G Q) (b_X11_stage_86 d G Q)
def b_X11_stage_165 (d : Nat) (G : Nat → zK) (Q : zQ) : zK := o_inc 4 1 <| G 45
def b_X11_stage_65 (d : Nat) (G : Nat → zK) (Q : zQ) : zK := b_X11_stage_165 d G Q
def b_X11_stage_54 (d : Nat) (G : Nat → zK) (Q : zQ) : zK := o_al 0 <| o_gf 9 27 <| o_il 4 <| o_iald <| o_il 2 <| t_ieq (b_X11_stage_68 d G Q) (b_X11_stage_65 d G Q)
def b_X11_stage_45 (d : Nat) (G : Nat → zK) (Q : zQ) : zK := o_il 4 <| o_al 0 <| o_gf 9 25 <| t_ilt (b_X11_stage_54 d G Q) (b_X11_stage_171 d G Q)
def b_X11_stage_134 (d : Nat) (G : Nat → zK) (Q : zQ) : zK := o_is 5 <| o_inc 6 1 <| G 92
def b_X11_stage_133 (d : Nat) (G : Nat → zK) (Q : zQ) : zK := o_c 0 <| b_X11_stage_134 d G Q
def b_X11_stage_129 (d : Nat) (G : Nat → zK) (Q : zQ) : zK := o_c 1 <| b_X11_stage_134 d G Q
def b_X11_stage_106 (d : Nat) (G : Nat → zK) (Q : zQ) : zK := o_al 0 <| o_gf 9 29 <| o_c 18 <| o_il 4 <| o_mul <| o_il 6 <| o_add <| o_iald <| o_al 0 <| o_gf 9 23 <| o_il 6 <| o_iald <| t_ieq (b_X11_stage_129 d G Q) (b_X11_stage_133 d G Q)
def b_X11_stage_101 (d : Nat) (G : Nat → zK) (Q : zQ) : zK := o_il 5 <| t_zeq (G 142) (b_X11_stage_106 d G Q)
def b_X11_stage_92 (d : Nat) (G : Nat → zK) (Q : zQ) : zK := o_il 6 <| o_al 0 <| o_gf 9 24 <| t_ilt (b_X11_stage_101 d G Q) (G 142)
def b_X11_stage_160 (d : Nat) (G : Nat → zK) (Q : zQ) : zK := o_pz 9 26 <| o_il 2 <| t_iret Q
def b_X11_stage_155 (d : Nat) (G : Nat → zK) (Q : zQ) : zK := o_c 1 <| b_X11_stage_160 d G Q
def b_X11_stage_159 (d : Nat) (G : Nat → zK) (Q : zQ) : zK := o_c 0 <| b_X11_stage_160 d G Q
def b_X11_stage_150 (d : Nat) (G : Nat → zK) (Q : zQ) : zK := o_il 5 <| t_zeq (b_X11_stage_155 d G Q) (b_X11_stage_159 d G Q)
def b_X11_stage_142 (d : Nat) (G : Nat → zK) (Q : zQ) : zK := o_al 0 <| o_al 0 <| o_gf 9 26 <| t_zeq (b_X11_stage_150 d G Q) (b_X11_stage_155 d G Q)
def b_X11_stage_234 (d : Nat) (G : Nat → zK) (Q : zQ) : zK := o_al 0 <| o_dup <| o_gf 9 25 <| o_c 1 <| o_add <| o_pf 9 25 <| o_il 2 <| t_iret Q
def b_X11_stage_206 (d : Nat) (G : Nat → zK) (Q : zQ) : zK := o_al 0 <| o_gf 9 29 <| o_c 18 <| o_al 0 <| o_gf 9 25 <| o_mul <| o_il 4 <| o_add <| o_al 0 <| o_gf 9 23 <| o_il 4 <| o_iald <| o_iast <| o_inc 4 1 <| G 197
def b_X11_stage_197 (d : Nat) (G : Nat → zK) (Q : zQ) : zK := o_il 4 <| o_al 0 <| o_gf 9 24 <| t_ilt (b_X11_stage_206 d G Q) (b_X11_stage_234 d G Q)
set_option maxRecDepth 20000 in
theorem k_X11_stage_42 {p : Program} {l : Launch} {e : Env} {s : State} {m : MethodId} {args : Array Value} {below : List Frame} {meth : Method} {c : Code} {E : zE} {d : Nat} {Q : zQ} (hd1 : 1 ≤ d) (B : zB p s m args c E mX11_stage.1.cls mX11_stage.2.1 mX11_stage.2.2.1) (hr : meth.sig.returnType = mX11_stage.2.2.2) (hlk : meth.locks = false) : zLk (zG p l e (zrm d) s m args below meth c E mX11_stage.2.2.1 0 0 (MQ below (zQc E Q) args s 0 0 (zaA E))) 42 (b_X11_stage_42 d (zG p l e (zrm d) s m args below meth c E mX11_stage.2.2.1 0 0 (MQ below (zQc E Q) args s 0 0 (zaA E))) Q) := by
  unfold b_X11_stage_42
  exact lk_c B dX11_stage_42 (lk_is B dX11_stage_43 (by decide) (fun _ _ _ h => h))
set_option maxRecDepth 20000 in
theorem k_X11_stage_37 {p : Program} {l : Launch} {e : Env} {s : State} {m : MethodId} {args : Array Value} {below : List Frame} {meth : Method} {c : Code} {E : zE} {d : Nat} {Q : zQ} (hd1 : 1 ≤ d) (B : zB p s m args c E mX11_stage.1.cls mX11_stage.2.1 mX11_stage.2.2.1) (hr : meth.sig.returnType = mX11_stage.2.2.2) (hlk : meth.locks = false) : zLk (zG p l e (zrm d) s m args below meth c E mX11_stage.2.2.1 0 0 (MQ below (zQc E Q) args s 0 0 (zaA E))) 37 (b_X11_stage_37 d (zG p l e (zrm d) s m args below meth c E mX11_stage.2.2.1 0 0 (MQ below (zQc E Q) args s 0 0 (zaA E))) Q) := by
  unfold b_X11_stage_37
  exact lk_pz (T := TX11) B cl_X11 (by decide) in_X11 tyX11_ok nmX11 zw_814 rfl (by decide +kernel) dX11_stage_37 (lk_iln B dX11_stage_40 rfl (lk_iret B hr hlk dX11_stage_41))
set_option maxRecDepth 20000 in
theorem k_X11_stage_32 {p : Program} {l : Launch} {e : Env} {s : State} {m : MethodId} {args : Array Value} {below : List Frame} {meth : Method} {c : Code} {E : zE} {d : Nat} {Q : zQ} (hd1 : 1 ≤ d) (B : zB p s m args c E mX11_stage.1.cls mX11_stage.2.1 mX11_stage.2.2.1) (hr : meth.sig.returnType = mX11_stage.2.2.2) (hlk : meth.locks = false) : zLk (zG p l e (zrm d) s m args below meth c E mX11_stage.2.2.1 0 0 (MQ below (zQc E Q) args s 0 0 (zaA E))) 32 (b_X11_stage_32 d (zG p l e (zrm d) s m args below meth c E mX11_stage.2.2.1 0 0 (MQ below (zQc E Q) args s 0 0 (zaA E))) Q) := by
  unfold b_X11_stage_32
  exact lk_c B dX11_stage_32 (lk_goto B dX11_stage_33 (by decide) (k_X11_stage_37 hd1 B hr hlk))
set_option maxRecDepth 20000 in
theorem k_X11_stage_36 {p : Program} {l : Launch} {e : Env} {s : State} {m : MethodId} {args : Array Value} {below : List Frame} {meth : Method} {c : Code} {E : zE} {d : Nat} {Q : zQ} (hd1 : 1 ≤ d) (B : zB p s m args c E mX11_stage.1.cls mX11_stage.2.1 mX11_stage.2.2.1) (hr : meth.sig.returnType = mX11_stage.2.2.2) (hlk : meth.locks = false) : zLk (zG p l e (zrm d) s m args below meth c E mX11_stage.2.2.1 0 0 (MQ below (zQc E Q) args s 0 0 (zaA E))) 36 (b_X11_stage_36 d (zG p l e (zrm d) s m args below meth c E mX11_stage.2.2.1 0 0 (MQ below (zQc E Q) args s 0 0 (zaA E))) Q) := by
  unfold b_X11_stage_36
  exact lk_c B dX11_stage_36 (k_X11_stage_37 hd1 B hr hlk)
set_option maxRecDepth 20000 in
theorem k_X11_stage_24 {p : Program} {l : Launch} {e : Env} {s : State} {m : MethodId} {args : Array Value} {below : List Frame} {meth : Method} {c : Code} {E : zE} {d : Nat} {Q : zQ} (hd1 : 1 ≤ d) (B : zB p s m args c E mX11_stage.1.cls mX11_stage.2.1 mX11_stage.2.2.1) (hr : meth.sig.returnType = mX11_stage.2.2.2) (hlk : meth.locks = false) : zLk (zG p l e (zrm d) s m args below meth c E mX11_stage.2.2.1 0 0 (MQ below (zQc E Q) args s 0 0 (zaA E))) 24 (b_X11_stage_24 d (zG p l e (zrm d) s m args below meth c E mX11_stage.2.2.1 0 0 (MQ below (zQc E Q) args s 0 0 (zaA E))) Q) := by
  unfold b_X11_stage_24
  exact lk_aln B dX11_stage_24 rfl (lk_iln B dX11_stage_25 rfl (lk_callv (M := mX11_sameAsRow) (T := TX11) (N := 41) B (zhR hd1 (by decide)) ⟨Nat.zero_le _, Nat.zero_le _⟩ cl_X11 (zw5 zw_967 zw_964 zw_966 zw_21 zw_58) (by decide +kernel) dX11_stage_26 (lk_zne B dX11_stage_29 (by decide) (k_X11_stage_36 hd1 B hr hlk) (k_X11_stage_32 hd1 B hr hlk))))
set_option maxRecDepth 20000 in
theorem k_X11_stage_16 {p : Program} {l : Launch} {e : Env} {s : State} {m : MethodId} {args : Array Value} {below : List Frame} {meth : Method} {c : Code} {E : zE} {d : Nat} {Q : zQ} (hd1 : 1 ≤ d) (B : zB p s m args c E mX11_stage.1.cls mX11_stage.2.1 mX11_stage.2.2.1) (hr : meth.sig.returnType = mX11_stage.2.2.2) (hlk : meth.locks = false) : zLk (zG p l e (zrm d) s m args below meth c E mX11_stage.2.2.1 0 0 (MQ below (zQc E Q) args s 0 0 (zaA E))) 16 (b_X11_stage_16 d (zG p l e (zrm d) s m args below meth c E mX11_stage.2.2.1 0 0 (MQ below (zQc E Q) args s 0 0 (zaA E))) Q) := by
  unfold b_X11_stage_16
  exact lk_aln B dX11_stage_16 rfl (lk_aln B dX11_stage_17 rfl (lk_gf (T := TX11) B cl_X11 (by decide) in_X11 zw_814 dX11_stage_18 (lk_zne B dX11_stage_21 (by decide) (k_X11_stage_32 hd1 B hr hlk) (k_X11_stage_24 hd1 B hr hlk))))
set_option maxRecDepth 20000 in
theorem k_X11_stage_0 {p : Program} {l : Launch} {e : Env} {s : State} {m : MethodId} {args : Array Value} {below : List Frame} {meth : Method} {c : Code} {E : zE} {d : Nat} {Q : zQ} (hd1 : 1 ≤ d) (B : zB p s m args c E mX11_stage.1.cls mX11_stage.2.1 mX11_stage.2.2.1) (hr : meth.sig.returnType = mX11_stage.2.2.2) (hlk : meth.locks = false) : zLk (zG p l e (zrm d) s m args below meth c E mX11_stage.2.2.1 0 0 (MQ below (zQc E Q) args s 0 0 (zaA E))) 0 (b_X11_stage_0 d (zG p l e (zrm d) s m args below meth c E mX11_stage.2.2.1 0 0 (MQ below (zQc E Q) args s 0 0 (zaA E))) Q) := by
  unfold b_X11_stage_0
  exact lk_aln B dX11_stage_0 rfl (lk_callv (M := mX11_rowName) (T := TX11) (N := 41) B (zhR hd1 (by decide)) ⟨Nat.zero_le _, Nat.zero_le _⟩ cl_X11 (zw5 zw_959 zw_956 zw_958 zw_19 zw_58) (by decide +kernel) dX11_stage_1 (lk_isn B dX11_stage_4 rfl (by decide) (lk_aln B dX11_stage_5 rfl (lk_iln B dX11_stage_6 rfl (lk_iln B dX11_stage_7 rfl (lk_callv (M := mX11_where) (T := TX11) (N := 41) B (zhR hd1 (by decide)) ⟨Nat.zero_le _, Nat.zero_le _⟩ cl_X11 (zw5 zw_963 zw_960 zw_962 zw_20 zw_58) (by decide +kernel) dX11_stage_8 (lk_isn B dX11_stage_11 rfl (by decide) (lk_iln B dX11_stage_12 rfl (lk_zlt B dX11_stage_13 (by decide) (k_X11_stage_42 hd1 B hr hlk) (k_X11_stage_16 hd1 B hr hlk))))))))))
set_option maxRecDepth 20000 in
theorem k_X11_stage_171 {p : Program} {l : Launch} {e : Env} {s : State} {m : MethodId} {args : Array Value} {below : List Frame} {meth : Method} {c : Code} {E : zE} {d : Nat} {Q : zQ} (hd1 : 1 ≤ d) (B : zB p s m args c E mX11_stage.1.cls mX11_stage.2.1 mX11_stage.2.2.1) (hr : meth.sig.returnType = mX11_stage.2.2.2) (hlk : meth.locks = false) : zLk (zG p l e (zrm d) s m args below meth c E mX11_stage.2.2.1 0 0 (MQ below (zQc E Q) args s 0 0 (zaA E))) 171 (b_X11_stage_171 d (zG p l e (zrm d) s m args below meth c E mX11_stage.2.2.1 0 0 (MQ below (zQc E Q) args s 0 0 (zaA E))) Q) := by
  unfold b_X11_stage_171
  exact lk_aln B dX11_stage_171 rfl (lk_gf (T := TX11) B cl_X11 (by decide) in_X11 zw_815 dX11_stage_172 (lk_aln B dX11_stage_175 rfl (lk_gf (T := TX11) B cl_X11 (by decide) in_X11 zw_813 dX11_stage_176 (lk_iln B dX11_stage_179 rfl (lk_iast B dX11_stage_180 (lk_aln B dX11_stage_181 rfl (lk_gf (T := TX11) B cl_X11 (by decide) in_X11 zw_816 dX11_stage_182 (lk_aln B dX11_stage_185 rfl (lk_gf (T := TX11) B cl_X11 (by decide) in_X11 zw_813 dX11_stage_186 (lk_aln B dX11_stage_189 rfl (lk_gf (T := TX11) B cl_X11 (by decide) in_X11 zw_812 dX11_stage_190 (lk_iast B dX11_stage_193 (lk_c B dX11_stage_194 (lk_is B dX11_stage_195 (by decide) (fun _ _ _ h => h)))))))))))))))
set_option maxRecDepth 20000 in
theorem k_X11_stage_87 {p : Program} {l : Launch} {e : Env} {s : State} {m : MethodId} {args : Array Value} {below : List Frame} {meth : Method} {c : Code} {E : zE} {d : Nat} {Q : zQ} (hd1 : 1 ≤ d) (B : zB p s m args c E mX11_stage.1.cls mX11_stage.2.1 mX11_stage.2.2.1) (hr : meth.sig.returnType = mX11_stage.2.2.2) (hlk : meth.locks = false) : zLk (zG p l e (zrm d) s m args below meth c E mX11_stage.2.2.1 0 0 (MQ below (zQc E Q) args s 0 0 (zaA E))) 87 (b_X11_stage_87 d (zG p l e (zrm d) s m args below meth c E mX11_stage.2.2.1 0 0 (MQ below (zQc E Q) args s 0 0 (zaA E))) Q) := by
  unfold b_X11_stage_87
  exact lk_is B dX11_stage_87 (by decide) (lk_c B dX11_stage_89 (lk_is B dX11_stage_90 (by decide) (fun _ _ _ h => h)))
set_option maxRecDepth 20000 in
theorem k_X11_stage_86 {p : Program} {l : Launch} {e : Env} {s : State} {m : MethodId} {args : Array Value} {below : List Frame} {meth : Method} {c : Code} {E : zE} {d : Nat} {Q : zQ} (hd1 : 1 ≤ d) (B : zB p s m args c E mX11_stage.1.cls mX11_stage.2.1 mX11_stage.2.2.1) (hr : meth.sig.returnType = mX11_stage.2.2.2) (hlk : meth.locks = false) : zLk (zG p l e (zrm d) s m args below meth c E mX11_stage.2.2.1 0 0 (MQ below (zQc E Q) args s 0 0 (zaA E))) 86 (b_X11_stage_86 d (zG p l e (zrm d) s m args below meth c E mX11_stage.2.2.1 0 0 (MQ below (zQc E Q) args s 0 0 (zaA E))) Q) := by
  unfold b_X11_stage_86
  exact lk_c B dX11_stage_86 (k_X11_stage_87 hd1 B hr hlk)
set_option maxRecDepth 20000 in
theorem k_X11_stage_82 {p : Program} {l : Launch} {e : Env} {s : State} {m : MethodId} {args : Array Value} {below : List Frame} {meth : Method} {c : Code} {E : zE} {d : Nat} {Q : zQ} (hd1 : 1 ≤ d) (B : zB p s m args c E mX11_stage.1.cls mX11_stage.2.1 mX11_stage.2.2.1) (hr : meth.sig.returnType = mX11_stage.2.2.2) (hlk : meth.locks = false) : zLk (zG p l e (zrm d) s m args below meth c E mX11_stage.2.2.1 0 0 (MQ below (zQc E Q) args s 0 0 (zaA E))) 82 (b_X11_stage_82 d (zG p l e (zrm d) s m args below meth c E mX11_stage.2.2.1 0 0 (MQ below (zQc E Q) args s 0 0 (zaA E))) Q) := by
  unfold b_X11_stage_82
  exact lk_c B dX11_stage_82 (lk_goto B dX11_stage_83 (by decide) (k_X11_stage_87 hd1 B hr hlk))
set_option maxRecDepth 20000 in
theorem k_X11_stage_68 {p : Program} {l : Launch} {e : Env} {s : State} {m : MethodId} {args : Array Value} {below : List Frame} {meth : Method} {c : Code} {E : zE} {d : Nat} {Q : zQ} (hd1 : 1 ≤ d) (B : zB p s m args c E mX11_stage.1.cls mX11_stage.2.1 mX11_stage.2.2.1) (hr : meth.sig.returnType = mX11_stage.2.2.2) (hlk : meth.locks = false) : zLk (zG p l e (zrm d) s m args below meth c E mX11_stage.2.2.1 0 0 (MQ below (zQc E Q) args s 0 0 (zaA E))) 68 (b_X11_stage_68 d (zG p l e (zrm d) s m args below meth c E mX11_stage.2.2.1 0 0 (MQ below (zQc E Q) args s 0 0 (zaA E))) Q) := by
  unfold b_X11_stage_68
  exact lk_aln B dX11_stage_68 rfl (lk_gf (T := TX11) B cl_X11 (by decide) in_X11 zw_816 dX11_stage_69 (lk_il B dX11_stage_72 (lk_iald B dX11_stage_74 (lk_aln B dX11_stage_75 rfl (lk_gf (T := TX11) B cl_X11 (by decide) in_X11 zw_812 dX11_stage_76 (lk_ine B dX11_stage_79 (by decide) (k_X11_stage_86 hd1 B hr hlk) (k_X11_stage_82 hd1 B hr hlk)))))))
set_option maxRecDepth 20000 in
theorem k_X11_stage_165 {p : Program} {l : Launch} {e : Env} {s : State} {m : MethodId} {args : Array Value} {below : List Frame} {meth : Method} {c : Code} {E : zE} {d : Nat} {Q : zQ} (hd1 : 1 ≤ d) (B : zB p s m args c E mX11_stage.1.cls mX11_stage.2.1 mX11_stage.2.2.1) (hr : meth.sig.returnType = mX11_stage.2.2.2) (hlk : meth.locks = false) : zLk (zG p l e (zrm d) s m args below meth c E mX11_stage.2.2.1 0 0 (MQ below (zQc E Q) args s 0 0 (zaA E))) 165 (b_X11_stage_165 d (zG p l e (zrm d) s m args below meth c E mX11_stage.2.2.1 0 0 (MQ below (zQc E Q) args s 0 0 (zaA E))) Q) := by
  unfold b_X11_stage_165
  exact lk_inc B dX11_stage_165 (by decide) (lk_goto B dX11_stage_168 (by decide) (fun _ _ _ h => h))
set_option maxRecDepth 20000 in
theorem k_X11_stage_65 {p : Program} {l : Launch} {e : Env} {s : State} {m : MethodId} {args : Array Value} {below : List Frame} {meth : Method} {c : Code} {E : zE} {d : Nat} {Q : zQ} (hd1 : 1 ≤ d) (B : zB p s m args c E mX11_stage.1.cls mX11_stage.2.1 mX11_stage.2.2.1) (hr : meth.sig.returnType = mX11_stage.2.2.2) (hlk : meth.locks = false) : zLk (zG p l e (zrm d) s m args below meth c E mX11_stage.2.2.1 0 0 (MQ below (zQc E Q) args s 0 0 (zaA E))) 65 (b_X11_stage_65 d (zG p l e (zrm d) s m args below meth c E mX11_stage.2.2.1 0 0 (MQ below (zQc E Q) args s 0 0 (zaA E))) Q) := by
  unfold b_X11_stage_65
  exact lk_goto B dX11_stage_65 (by decide) (k_X11_stage_165 hd1 B hr hlk)
set_option maxRecDepth 20000 in
theorem k_X11_stage_54 {p : Program} {l : Launch} {e : Env} {s : State} {m : MethodId} {args : Array Value} {below : List Frame} {meth : Method} {c : Code} {E : zE} {d : Nat} {Q : zQ} (hd1 : 1 ≤ d) (B : zB p s m args c E mX11_stage.1.cls mX11_stage.2.1 mX11_stage.2.2.1) (hr : meth.sig.returnType = mX11_stage.2.2.2) (hlk : meth.locks = false) : zLk (zG p l e (zrm d) s m args below meth c E mX11_stage.2.2.1 0 0 (MQ below (zQc E Q) args s 0 0 (zaA E))) 54 (b_X11_stage_54 d (zG p l e (zrm d) s m args below meth c E mX11_stage.2.2.1 0 0 (MQ below (zQc E Q) args s 0 0 (zaA E))) Q) := by
  unfold b_X11_stage_54
  exact lk_aln B dX11_stage_54 rfl (lk_gf (T := TX11) B cl_X11 (by decide) in_X11 zw_815 dX11_stage_55 (lk_il B dX11_stage_58 (lk_iald B dX11_stage_60 (lk_iln B dX11_stage_61 rfl (lk_ieq B dX11_stage_62 (by decide) (k_X11_stage_68 hd1 B hr hlk) (k_X11_stage_65 hd1 B hr hlk))))))
set_option maxRecDepth 20000 in
theorem k_X11_stage_45 {p : Program} {l : Launch} {e : Env} {s : State} {m : MethodId} {args : Array Value} {below : List Frame} {meth : Method} {c : Code} {E : zE} {d : Nat} {Q : zQ} (hd1 : 1 ≤ d) (B : zB p s m args c E mX11_stage.1.cls mX11_stage.2.1 mX11_stage.2.2.1) (hr : meth.sig.returnType = mX11_stage.2.2.2) (hlk : meth.locks = false) : zLk (zG p l e (zrm d) s m args below meth c E mX11_stage.2.2.1 0 0 (MQ below (zQc E Q) args s 0 0 (zaA E))) 45 (b_X11_stage_45 d (zG p l e (zrm d) s m args below meth c E mX11_stage.2.2.1 0 0 (MQ below (zQc E Q) args s 0 0 (zaA E))) Q) := by
  unfold b_X11_stage_45
  exact lk_il B dX11_stage_45 (lk_aln B dX11_stage_47 rfl (lk_gf (T := TX11) B cl_X11 (by decide) in_X11 zw_813 dX11_stage_48 (lk_ige B dX11_stage_51 (by decide) (k_X11_stage_171 hd1 B hr hlk) (k_X11_stage_54 hd1 B hr hlk))))
set_option maxRecDepth 20000 in
theorem k_X11_stage_134 {p : Program} {l : Launch} {e : Env} {s : State} {m : MethodId} {args : Array Value} {below : List Frame} {meth : Method} {c : Code} {E : zE} {d : Nat} {Q : zQ} (hd1 : 1 ≤ d) (B : zB p s m args c E mX11_stage.1.cls mX11_stage.2.1 mX11_stage.2.2.1) (hr : meth.sig.returnType = mX11_stage.2.2.2) (hlk : meth.locks = false) : zLk (zG p l e (zrm d) s m args below meth c E mX11_stage.2.2.1 0 0 (MQ below (zQc E Q) args s 0 0 (zaA E))) 134 (b_X11_stage_134 d (zG p l e (zrm d) s m args below meth c E mX11_stage.2.2.1 0 0 (MQ below (zQc E Q) args s 0 0 (zaA E))) Q) := by
  unfold b_X11_stage_134
  exact lk_is B dX11_stage_134 (by decide) (lk_inc B dX11_stage_136 (by decide) (lk_goto B dX11_stage_139 (by decide) (fun _ _ _ h => h)))
set_option maxRecDepth 20000 in
theorem k_X11_stage_133 {p : Program} {l : Launch} {e : Env} {s : State} {m : MethodId} {args : Array Value} {below : List Frame} {meth : Method} {c : Code} {E : zE} {d : Nat} {Q : zQ} (hd1 : 1 ≤ d) (B : zB p s m args c E mX11_stage.1.cls mX11_stage.2.1 mX11_stage.2.2.1) (hr : meth.sig.returnType = mX11_stage.2.2.2) (hlk : meth.locks = false) : zLk (zG p l e (zrm d) s m args below meth c E mX11_stage.2.2.1 0 0 (MQ below (zQc E Q) args s 0 0 (zaA E))) 133 (b_X11_stage_133 d (zG p l e (zrm d) s m args below meth c E mX11_stage.2.2.1 0 0 (MQ below (zQc E Q) args s 0 0 (zaA E))) Q) := by
  unfold b_X11_stage_133
  exact lk_c B dX11_stage_133 (k_X11_stage_134 hd1 B hr hlk)
set_option maxRecDepth 20000 in
theorem k_X11_stage_129 {p : Program} {l : Launch} {e : Env} {s : State} {m : MethodId} {args : Array Value} {below : List Frame} {meth : Method} {c : Code} {E : zE} {d : Nat} {Q : zQ} (hd1 : 1 ≤ d) (B : zB p s m args c E mX11_stage.1.cls mX11_stage.2.1 mX11_stage.2.2.1) (hr : meth.sig.returnType = mX11_stage.2.2.2) (hlk : meth.locks = false) : zLk (zG p l e (zrm d) s m args below meth c E mX11_stage.2.2.1 0 0 (MQ below (zQc E Q) args s 0 0 (zaA E))) 129 (b_X11_stage_129 d (zG p l e (zrm d) s m args below meth c E mX11_stage.2.2.1 0 0 (MQ below (zQc E Q) args s 0 0 (zaA E))) Q) := by
  unfold b_X11_stage_129
  exact lk_c B dX11_stage_129 (lk_goto B dX11_stage_130 (by decide) (k_X11_stage_134 hd1 B hr hlk))
set_option maxRecDepth 20000 in
theorem k_X11_stage_106 {p : Program} {l : Launch} {e : Env} {s : State} {m : MethodId} {args : Array Value} {below : List Frame} {meth : Method} {c : Code} {E : zE} {d : Nat} {Q : zQ} (hd1 : 1 ≤ d) (B : zB p s m args c E mX11_stage.1.cls mX11_stage.2.1 mX11_stage.2.2.1) (hr : meth.sig.returnType = mX11_stage.2.2.2) (hlk : meth.locks = false) : zLk (zG p l e (zrm d) s m args below meth c E mX11_stage.2.2.1 0 0 (MQ below (zQc E Q) args s 0 0 (zaA E))) 106 (b_X11_stage_106 d (zG p l e (zrm d) s m args below meth c E mX11_stage.2.2.1 0 0 (MQ below (zQc E Q) args s 0 0 (zaA E))) Q) := by
  unfold b_X11_stage_106
  exact lk_aln B dX11_stage_106 rfl (lk_gf (T := TX11) B cl_X11 (by decide) in_X11 zw_817 dX11_stage_107 (lk_b B dX11_stage_110 rfl (lk_il B dX11_stage_112 (lk_mul B dX11_stage_114 (lk_il B dX11_stage_115 (lk_add B dX11_stage_117 (lk_iald B dX11_stage_118 (lk_aln B dX11_stage_119 rfl (lk_gf (T := TX11) B cl_X11 (by decide) in_X11 zw_811 dX11_stage_120 (lk_il B dX11_stage_123 (lk_iald B dX11_stage_125 (lk_ine B dX11_stage_126 (by decide) (k_X11_stage_133 hd1 B hr hlk) (k_X11_stage_129 hd1 B hr hlk)))))))))))))
set_option maxRecDepth 20000 in
theorem k_X11_stage_101 {p : Program} {l : Launch} {e : Env} {s : State} {m : MethodId} {args : Array Value} {below : List Frame} {meth : Method} {c : Code} {E : zE} {d : Nat} {Q : zQ} (hd1 : 1 ≤ d) (B : zB p s m args c E mX11_stage.1.cls mX11_stage.2.1 mX11_stage.2.2.1) (hr : meth.sig.returnType = mX11_stage.2.2.2) (hlk : meth.locks = false) : zLk (zG p l e (zrm d) s m args below meth c E mX11_stage.2.2.1 0 0 (MQ below (zQc E Q) args s 0 0 (zaA E))) 101 (b_X11_stage_101 d (zG p l e (zrm d) s m args below meth c E mX11_stage.2.2.1 0 0 (MQ below (zQc E Q) args s 0 0 (zaA E))) Q) := by
  unfold b_X11_stage_101
  exact lk_il B dX11_stage_101 (lk_zeq B dX11_stage_103 (by decide) (fun _ _ _ h => h) (k_X11_stage_106 hd1 B hr hlk))
set_option maxRecDepth 20000 in
theorem k_X11_stage_92 {p : Program} {l : Launch} {e : Env} {s : State} {m : MethodId} {args : Array Value} {below : List Frame} {meth : Method} {c : Code} {E : zE} {d : Nat} {Q : zQ} (hd1 : 1 ≤ d) (B : zB p s m args c E mX11_stage.1.cls mX11_stage.2.1 mX11_stage.2.2.1) (hr : meth.sig.returnType = mX11_stage.2.2.2) (hlk : meth.locks = false) : zLk (zG p l e (zrm d) s m args below meth c E mX11_stage.2.2.1 0 0 (MQ below (zQc E Q) args s 0 0 (zaA E))) 92 (b_X11_stage_92 d (zG p l e (zrm d) s m args below meth c E mX11_stage.2.2.1 0 0 (MQ below (zQc E Q) args s 0 0 (zaA E))) Q) := by
  unfold b_X11_stage_92
  exact lk_il B dX11_stage_92 (lk_aln B dX11_stage_94 rfl (lk_gf (T := TX11) B cl_X11 (by decide) in_X11 zw_812 dX11_stage_95 (lk_ige B dX11_stage_98 (by decide) (fun _ _ _ h => h) (k_X11_stage_101 hd1 B hr hlk))))
set_option maxRecDepth 20000 in
theorem k_X11_stage_160 {p : Program} {l : Launch} {e : Env} {s : State} {m : MethodId} {args : Array Value} {below : List Frame} {meth : Method} {c : Code} {E : zE} {d : Nat} {Q : zQ} (hd1 : 1 ≤ d) (B : zB p s m args c E mX11_stage.1.cls mX11_stage.2.1 mX11_stage.2.2.1) (hr : meth.sig.returnType = mX11_stage.2.2.2) (hlk : meth.locks = false) : zLk (zG p l e (zrm d) s m args below meth c E mX11_stage.2.2.1 0 0 (MQ below (zQc E Q) args s 0 0 (zaA E))) 160 (b_X11_stage_160 d (zG p l e (zrm d) s m args below meth c E mX11_stage.2.2.1 0 0 (MQ below (zQc E Q) args s 0 0 (zaA E))) Q) := by
  unfold b_X11_stage_160
  exact lk_pz (T := TX11) B cl_X11 (by decide) in_X11 tyX11_ok nmX11 zw_814 rfl (by decide +kernel) dX11_stage_160 (lk_iln B dX11_stage_163 rfl (lk_iret B hr hlk dX11_stage_164))
set_option maxRecDepth 20000 in
theorem k_X11_stage_155 {p : Program} {l : Launch} {e : Env} {s : State} {m : MethodId} {args : Array Value} {below : List Frame} {meth : Method} {c : Code} {E : zE} {d : Nat} {Q : zQ} (hd1 : 1 ≤ d) (B : zB p s m args c E mX11_stage.1.cls mX11_stage.2.1 mX11_stage.2.2.1) (hr : meth.sig.returnType = mX11_stage.2.2.2) (hlk : meth.locks = false) : zLk (zG p l e (zrm d) s m args below meth c E mX11_stage.2.2.1 0 0 (MQ below (zQc E Q) args s 0 0 (zaA E))) 155 (b_X11_stage_155 d (zG p l e (zrm d) s m args below meth c E mX11_stage.2.2.1 0 0 (MQ below (zQc E Q) args s 0 0 (zaA E))) Q) := by
  unfold b_X11_stage_155
  exact lk_c B dX11_stage_155 (lk_goto B dX11_stage_156 (by decide) (k_X11_stage_160 hd1 B hr hlk))
set_option maxRecDepth 20000 in
theorem k_X11_stage_159 {p : Program} {l : Launch} {e : Env} {s : State} {m : MethodId} {args : Array Value} {below : List Frame} {meth : Method} {c : Code} {E : zE} {d : Nat} {Q : zQ} (hd1 : 1 ≤ d) (B : zB p s m args c E mX11_stage.1.cls mX11_stage.2.1 mX11_stage.2.2.1) (hr : meth.sig.returnType = mX11_stage.2.2.2) (hlk : meth.locks = false) : zLk (zG p l e (zrm d) s m args below meth c E mX11_stage.2.2.1 0 0 (MQ below (zQc E Q) args s 0 0 (zaA E))) 159 (b_X11_stage_159 d (zG p l e (zrm d) s m args below meth c E mX11_stage.2.2.1 0 0 (MQ below (zQc E Q) args s 0 0 (zaA E))) Q) := by
  unfold b_X11_stage_159
  exact lk_c B dX11_stage_159 (k_X11_stage_160 hd1 B hr hlk)
set_option maxRecDepth 20000 in
theorem k_X11_stage_150 {p : Program} {l : Launch} {e : Env} {s : State} {m : MethodId} {args : Array Value} {below : List Frame} {meth : Method} {c : Code} {E : zE} {d : Nat} {Q : zQ} (hd1 : 1 ≤ d) (B : zB p s m args c E mX11_stage.1.cls mX11_stage.2.1 mX11_stage.2.2.1) (hr : meth.sig.returnType = mX11_stage.2.2.2) (hlk : meth.locks = false) : zLk (zG p l e (zrm d) s m args below meth c E mX11_stage.2.2.1 0 0 (MQ below (zQc E Q) args s 0 0 (zaA E))) 150 (b_X11_stage_150 d (zG p l e (zrm d) s m args below meth c E mX11_stage.2.2.1 0 0 (MQ below (zQc E Q) args s 0 0 (zaA E))) Q) := by
  unfold b_X11_stage_150
  exact lk_il B dX11_stage_150 (lk_zne B dX11_stage_152 (by decide) (k_X11_stage_159 hd1 B hr hlk) (k_X11_stage_155 hd1 B hr hlk))
set_option maxRecDepth 20000 in
theorem k_X11_stage_142 {p : Program} {l : Launch} {e : Env} {s : State} {m : MethodId} {args : Array Value} {below : List Frame} {meth : Method} {c : Code} {E : zE} {d : Nat} {Q : zQ} (hd1 : 1 ≤ d) (B : zB p s m args c E mX11_stage.1.cls mX11_stage.2.1 mX11_stage.2.2.1) (hr : meth.sig.returnType = mX11_stage.2.2.2) (hlk : meth.locks = false) : zLk (zG p l e (zrm d) s m args below meth c E mX11_stage.2.2.1 0 0 (MQ below (zQc E Q) args s 0 0 (zaA E))) 142 (b_X11_stage_142 d (zG p l e (zrm d) s m args below meth c E mX11_stage.2.2.1 0 0 (MQ below (zQc E Q) args s 0 0 (zaA E))) Q) := by
  unfold b_X11_stage_142
  exact lk_aln B dX11_stage_142 rfl (lk_aln B dX11_stage_143 rfl (lk_gf (T := TX11) B cl_X11 (by decide) in_X11 zw_814 dX11_stage_144 (lk_zne B dX11_stage_147 (by decide) (k_X11_stage_155 hd1 B hr hlk) (k_X11_stage_150 hd1 B hr hlk))))
set_option maxRecDepth 20000 in
theorem k_X11_stage_234 {p : Program} {l : Launch} {e : Env} {s : State} {m : MethodId} {args : Array Value} {below : List Frame} {meth : Method} {c : Code} {E : zE} {d : Nat} {Q : zQ} (hd1 : 1 ≤ d) (B : zB p s m args c E mX11_stage.1.cls mX11_stage.2.1 mX11_stage.2.2.1) (hr : meth.sig.returnType = mX11_stage.2.2.2) (hlk : meth.locks = false) : zLk (zG p l e (zrm d) s m args below meth c E mX11_stage.2.2.1 0 0 (MQ below (zQc E Q) args s 0 0 (zaA E))) 234 (b_X11_stage_234 d (zG p l e (zrm d) s m args below meth c E mX11_stage.2.2.1 0 0 (MQ below (zQc E Q) args s 0 0 (zaA E))) Q) := by
  unfold b_X11_stage_234
  exact lk_aln B dX11_stage_234 rfl (lk_dup B dX11_stage_235 (lk_gf (T := TX11) B cl_X11 (by decide) in_X11 zw_813 dX11_stage_236 (lk_c B dX11_stage_239 (lk_add B dX11_stage_240 (lk_pf (T := TX11) B cl_X11 (by decide) in_X11 tyX11_ok nmX11 zw_813 rfl (by decide +kernel) dX11_stage_241 (lk_iln B dX11_stage_244 rfl (lk_iret B hr hlk dX11_stage_245)))))))
set_option maxRecDepth 20000 in
theorem k_X11_stage_206 {p : Program} {l : Launch} {e : Env} {s : State} {m : MethodId} {args : Array Value} {below : List Frame} {meth : Method} {c : Code} {E : zE} {d : Nat} {Q : zQ} (hd1 : 1 ≤ d) (B : zB p s m args c E mX11_stage.1.cls mX11_stage.2.1 mX11_stage.2.2.1) (hr : meth.sig.returnType = mX11_stage.2.2.2) (hlk : meth.locks = false) : zLk (zG p l e (zrm d) s m args below meth c E mX11_stage.2.2.1 0 0 (MQ below (zQc E Q) args s 0 0 (zaA E))) 206 (b_X11_stage_206 d (zG p l e (zrm d) s m args below meth c E mX11_stage.2.2.1 0 0 (MQ below (zQc E Q) args s 0 0 (zaA E))) Q) := by
  unfold b_X11_stage_206
  exact lk_aln B dX11_stage_206 rfl (lk_gf (T := TX11) B cl_X11 (by decide) in_X11 zw_817 dX11_stage_207 (lk_b B dX11_stage_210 rfl (lk_aln B dX11_stage_212 rfl (lk_gf (T := TX11) B cl_X11 (by decide) in_X11 zw_813 dX11_stage_213 (lk_mul B dX11_stage_216 (lk_il B dX11_stage_217 (lk_add B dX11_stage_219 (lk_aln B dX11_stage_220 rfl (lk_gf (T := TX11) B cl_X11 (by decide) in_X11 zw_811 dX11_stage_221 (lk_il B dX11_stage_224 (lk_iald B dX11_stage_226 (lk_iast B dX11_stage_227 (lk_inc B dX11_stage_228 (by decide) (lk_goto B dX11_stage_231 (by decide) (fun _ _ _ h => h)))))))))))))))
set_option maxRecDepth 20000 in
theorem k_X11_stage_197 {p : Program} {l : Launch} {e : Env} {s : State} {m : MethodId} {args : Array Value} {below : List Frame} {meth : Method} {c : Code} {E : zE} {d : Nat} {Q : zQ} (hd1 : 1 ≤ d) (B : zB p s m args c E mX11_stage.1.cls mX11_stage.2.1 mX11_stage.2.2.1) (hr : meth.sig.returnType = mX11_stage.2.2.2) (hlk : meth.locks = false) : zLk (zG p l e (zrm d) s m args below meth c E mX11_stage.2.2.1 0 0 (MQ below (zQc E Q) args s 0 0 (zaA E))) 197 (b_X11_stage_197 d (zG p l e (zrm d) s m args below meth c E mX11_stage.2.2.1 0 0 (MQ below (zQc E Q) args s 0 0 (zaA E))) Q) := by
  unfold b_X11_stage_197
  exact lk_il B dX11_stage_197 (lk_aln B dX11_stage_199 rfl (lk_gf (T := TX11) B cl_X11 (by decide) in_X11 zw_812 dX11_stage_200 (lk_ige B dX11_stage_203 (by decide) (k_X11_stage_234 hd1 B hr hlk) (k_X11_stage_206 hd1 B hr hlk))))
def S_X11_stage (d : Nat) (G : Nat → zK) (Q : zQ) : Prop := zLk G 0 (b_X11_stage_0 d G Q) ∧ zLk G 45 (b_X11_stage_45 d G Q) ∧ zLk G 92 (b_X11_stage_92 d G Q) ∧ zLk G 142 (b_X11_stage_142 d G Q) ∧ zLk G 197 (b_X11_stage_197 d G Q)
theorem s_X11_stage_0 {d : Nat} {G : Nat → zK} {Q : zQ} (h : S_X11_stage d G Q) {ls st : List zV} {μ : zM} (k : b_X11_stage_0 d G Q ls st μ) : G 0 ls st μ := h.1 ls st μ k
theorem s_X11_stage_45 {d : Nat} {G : Nat → zK} {Q : zQ} (h : S_X11_stage d G Q) {ls st : List zV} {μ : zM} (k : b_X11_stage_45 d G Q ls st μ) : G 45 ls st μ := h.2.1 ls st μ k
theorem s_X11_stage_92 {d : Nat} {G : Nat → zK} {Q : zQ} (h : S_X11_stage d G Q) {ls st : List zV} {μ : zM} (k : b_X11_stage_92 d G Q ls st μ) : G 92 ls st μ := h.2.2.1 ls st μ k
theorem s_X11_stage_142 {d : Nat} {G : Nat → zK} {Q : zQ} (h : S_X11_stage d G Q) {ls st : List zV} {μ : zM} (k : b_X11_stage_142 d G Q ls st μ) : G 142 ls st μ := h.2.2.2.1 ls st μ k
theorem s_X11_stage_197 {d : Nat} {G : Nat → zK} {Q : zQ} (h : S_X11_stage d G Q) {ls st : List zV} {μ : zM} (k : b_X11_stage_197 d G Q ls st μ) : G 197 ls st μ := h.2.2.2.2 ls st μ k
theorem of_X11_stage {d : Nat} {a0 a1 : zV} {μ : zM} {Q : zQ} (hd1 : 1 ≤ d) (h : ∀ G : Nat → zK, S_X11_stage d G Q → G 0 [a0, a1, .inr none, .inr none, .inr none, .inr none, .inr none] [] μ) : zCt d mX11_stage [a0, a1] μ Q := zCt.mk (by decide) (Nat.le_of_ble_eq_true rfl) (fun p l e s m args below meth c E B hr hlk => h _ ⟨k_X11_stage_0 hd1 B hr hlk, k_X11_stage_45 hd1 B hr hlk, k_X11_stage_92 hd1 B hr hlk, k_X11_stage_142 hd1 B hr hlk, k_X11_stage_197 hd1 B hr hlk⟩)
theorem dX11_admit_0 : decode cX11_admit 0 = .ok (.aload_n 0, 1) := by decide +kernel
theorem dX11_admit_1 : decode cX11_admit 1 = .ok (.getfield 157, 3) := by decide +kernel
theorem dX11_admit_4 : decode cX11_admit 4 = .ok (.ifCond .eq 6, 3) := by decide +kernel
theorem dX11_admit_7 : decode cX11_admit 7 = .ok (.bipush (-2), 2) := by decide +kernel
theorem dX11_admit_9 : decode cX11_admit 9 = .ok (.ireturn, 1) := by decide +kernel
theorem dX11_admit_10 : decode cX11_admit 10 = .ok (.aload_n 0, 1) := by decide +kernel
theorem dX11_admit_11 : decode cX11_admit 11 = .ok (.getfield 7, 3) := by decide +kernel
theorem dX11_admit_14 : decode cX11_admit 14 = .ok (.iload_n 1, 1) := by decide +kernel
theorem dX11_admit_15 : decode cX11_admit 15 = .ok (.iaload, 1) := by decide +kernel
theorem dX11_admit_16 : decode cX11_admit 16 = .ok (.aload_n 0, 1) := by decide +kernel
theorem dX11_admit_17 : decode cX11_admit 17 = .ok (.getfield 161, 3) := by decide +kernel
theorem dX11_admit_20 : decode cX11_admit 20 = .ok (.iadd, 1) := by decide +kernel
theorem dX11_admit_21 : decode cX11_admit 21 = .ok (.bipush 64, 2) := by decide +kernel
theorem dX11_admit_23 : decode cX11_admit 23 = .ok (.if_icmp .le 6, 3) := by decide +kernel
theorem dX11_admit_26 : decode cX11_admit 26 = .ok (.bipush (-3), 2) := by decide +kernel
theorem dX11_admit_28 : decode cX11_admit 28 = .ok (.ireturn, 1) := by decide +kernel
theorem dX11_admit_29 : decode cX11_admit 29 = .ok (.iconst 0, 1) := by decide +kernel
theorem dX11_admit_30 : decode cX11_admit 30 = .ok (.istore_n 2, 1) := by decide +kernel
theorem dX11_admit_31 : decode cX11_admit 31 = .ok (.iload_n 2, 1) := by decide +kernel
theorem dX11_admit_32 : decode cX11_admit 32 = .ok (.aload_n 0, 1) := by decide +kernel
theorem dX11_admit_33 : decode cX11_admit 33 = .ok (.getfield 161, 3) := by decide +kernel
theorem dX11_admit_36 : decode cX11_admit 36 = .ok (.if_icmp .ge 58, 3) := by decide +kernel
theorem dX11_admit_39 : decode cX11_admit 39 = .ok (.aload_n 0, 1) := by decide +kernel
theorem dX11_admit_40 : decode cX11_admit 40 = .ok (.iconst 0, 1) := by decide +kernel
theorem dX11_admit_41 : decode cX11_admit 41 = .ok (.putfield 118, 3) := by decide +kernel
theorem dX11_admit_44 : decode cX11_admit 44 = .ok (.iconst 0, 1) := by decide +kernel
theorem dX11_admit_45 : decode cX11_admit 45 = .ok (.istore_n 3, 1) := by decide +kernel
theorem dX11_admit_46 : decode cX11_admit 46 = .ok (.iload_n 3, 1) := by decide +kernel
theorem dX11_admit_47 : decode cX11_admit 47 = .ok (.aload_n 0, 1) := by decide +kernel
theorem dX11_admit_48 : decode cX11_admit 48 = .ok (.getfield 77, 3) := by decide +kernel
theorem dX11_admit_51 : decode cX11_admit 51 = .ok (.iload_n 2, 1) := by decide +kernel
theorem dX11_admit_52 : decode cX11_admit 52 = .ok (.iaload, 1) := by decide +kernel
theorem dX11_admit_53 : decode cX11_admit 53 = .ok (.if_icmp .ge 24, 3) := by decide +kernel
theorem dX11_admit_56 : decode cX11_admit 56 = .ok (.aload_n 0, 1) := by decide +kernel
theorem dX11_admit_57 : decode cX11_admit 57 = .ok (.aload_n 0, 1) := by decide +kernel
theorem dX11_admit_58 : decode cX11_admit 58 = .ok (.getfield 80, 3) := by decide +kernel
theorem dX11_admit_61 : decode cX11_admit 61 = .ok (.bipush 18, 2) := by decide +kernel
theorem dX11_admit_63 : decode cX11_admit 63 = .ok (.iload_n 2, 1) := by decide +kernel
theorem dX11_admit_64 : decode cX11_admit 64 = .ok (.imul, 1) := by decide +kernel
theorem dX11_admit_65 : decode cX11_admit 65 = .ok (.iload_n 3, 1) := by decide +kernel
theorem dX11_admit_66 : decode cX11_admit 66 = .ok (.iadd, 1) := by decide +kernel
theorem dX11_admit_67 : decode cX11_admit 67 = .ok (.iaload, 1) := by decide +kernel
theorem dX11_admit_68 : decode cX11_admit 68 = .ok (.invokevirtual 121, 3) := by decide +kernel
theorem dX11_admit_71 : decode cX11_admit 71 = .ok (.iinc 3 1, 3) := by decide +kernel
theorem dX11_admit_74 : decode cX11_admit 74 = .ok (.goto (-28), 3) := by decide +kernel
theorem dX11_admit_77 : decode cX11_admit 77 = .ok (.aload_n 0, 1) := by decide +kernel
theorem dX11_admit_78 : decode cX11_admit 78 = .ok (.iload_n 1, 1) := by decide +kernel
theorem dX11_admit_79 : decode cX11_admit 79 = .ok (.aload_n 0, 1) := by decide +kernel
theorem dX11_admit_80 : decode cX11_admit 80 = .ok (.getfield 74, 3) := by decide +kernel
theorem dX11_admit_83 : decode cX11_admit 83 = .ok (.iload_n 2, 1) := by decide +kernel
theorem dX11_admit_84 : decode cX11_admit 84 = .ok (.iaload, 1) := by decide +kernel
theorem dX11_admit_85 : decode cX11_admit 85 = .ok (.invokevirtual 150, 3) := by decide +kernel
theorem dX11_admit_88 : decode cX11_admit 88 = .ok (.iinc 2 1, 3) := by decide +kernel
theorem dX11_admit_91 : decode cX11_admit 91 = .ok (.goto (-60), 3) := by decide +kernel
theorem dX11_admit_94 : decode cX11_admit 94 = .ok (.aload_n 0, 1) := by decide +kernel
theorem dX11_admit_95 : decode cX11_admit 95 = .ok (.iload_n 1, 1) := by decide +kernel
theorem dX11_admit_96 : decode cX11_admit 96 = .ok (.invokevirtual 154, 3) := by decide +kernel
theorem dX11_admit_99 : decode cX11_admit 99 = .ok (.iconst 0, 1) := by decide +kernel
theorem dX11_admit_100 : decode cX11_admit 100 = .ok (.ireturn, 1) := by decide +kernel
def b_X11_admit_29 (d : Nat) (G : Nat → zK) (Q : zQ) : zK := o_c 0 <| o_is 2 <| G 31
def b_X11_admit_26 (d : Nat) (G : Nat → zK) (Q : zQ) : zK := o_c (-3) <| t_iret Q
def b_X11_admit_10 (d : Nat) (G : Nat → zK) (Q : zQ) : zK := o_al 0 <| o_gf 9 0 <| o_il 1 <| o_iald <| o_al 0 <| o_gf 9 25 <| o_add <| o_c 64 <| t_igt (b_X11_admit_26 d G Q) (b_X11_admit_29 d G Q)
def b_X11_admit_7 (d : Nat) (G : Nat → zK) (Q : zQ) : zK := o_c (-2) <| t_iret Q
def b_X11_admit_0 (d : Nat) (G : Nat → zK) (Q : zQ) : zK := o_al 0 <| o_gf 9 26 <| t_zeq (b_X11_admit_10 d G Q) (b_X11_admit_7 d G Q)
def b_X11_admit_94 (d : Nat) (G : Nat → zK) (Q : zQ) : zK := o_al 0 <| o_il 1 <| o_callv (zCt (d - 1) mX11_settle) 9 2 <| o_c 0 <| t_iret Q
def b_X11_admit_39 (d : Nat) (G : Nat → zK) (Q : zQ) : zK := o_al 0 <| o_c 0 <| o_pf 9 24 <| o_c 0 <| o_is 3 <| G 46
def b_X11_admit_31 (d : Nat) (G : Nat → zK) (Q : zQ) : zK := o_il 2 <| o_al 0 <| o_gf 9 25 <| t_ilt (b_X11_admit_39 d G Q) (b_X11_admit_94 d G Q)
def b_X11_admit_77 (d : Nat) (G : Nat → zK) (Q : zQ) : zK := o_al 0 <| o_il 1 <| o_al 0 <| o_gf 9 27 <| o_il 2 <| o_iald <| o_callv (zCt (d - 1) mX11_enter) 9 3 <| o_inc 2 1 <| G 31
def b_X11_admit_56 (d : Nat) (G : Nat → zK) (Q : zQ) : zK := o_al 0 <| o_al 0 <| o_gf 9 29 <| o_c 18 <| o_il 2 <| o_mul <| o_il 3 <| o_add <| o_iald <| o_callv (zCt (d - 1) mX11_push) 9 2 <| o_inc 3 1 <| G 46
def b_X11_admit_46 (d : Nat) (G : Nat → zK) (Q : zQ) : zK := o_il 3 <| o_al 0 <| o_gf 9 28 <| o_il 2 <| o_iald <| t_ilt (b_X11_admit_56 d G Q) (b_X11_admit_77 d G Q)
set_option maxRecDepth 20000 in
theorem k_X11_admit_29 {p : Program} {l : Launch} {e : Env} {s : State} {m : MethodId} {args : Array Value} {below : List Frame} {meth : Method} {c : Code} {E : zE} {d : Nat} {Q : zQ} (hd1 : 1 ≤ d) (B : zB p s m args c E mX11_admit.1.cls mX11_admit.2.1 mX11_admit.2.2.1) (hr : meth.sig.returnType = mX11_admit.2.2.2) (hlk : meth.locks = false) : zLk (zG p l e (zrm d) s m args below meth c E mX11_admit.2.2.1 0 0 (MQ below (zQc E Q) args s 0 0 (zaA E))) 29 (b_X11_admit_29 d (zG p l e (zrm d) s m args below meth c E mX11_admit.2.2.1 0 0 (MQ below (zQc E Q) args s 0 0 (zaA E))) Q) := by
  unfold b_X11_admit_29
  exact lk_c B dX11_admit_29 (lk_isn B dX11_admit_30 rfl (by decide) (fun _ _ _ h => h))
set_option maxRecDepth 20000 in
theorem k_X11_admit_26 {p : Program} {l : Launch} {e : Env} {s : State} {m : MethodId} {args : Array Value} {below : List Frame} {meth : Method} {c : Code} {E : zE} {d : Nat} {Q : zQ} (hd1 : 1 ≤ d) (B : zB p s m args c E mX11_admit.1.cls mX11_admit.2.1 mX11_admit.2.2.1) (hr : meth.sig.returnType = mX11_admit.2.2.2) (hlk : meth.locks = false) : zLk (zG p l e (zrm d) s m args below meth c E mX11_admit.2.2.1 0 0 (MQ below (zQc E Q) args s 0 0 (zaA E))) 26 (b_X11_admit_26 d (zG p l e (zrm d) s m args below meth c E mX11_admit.2.2.1 0 0 (MQ below (zQc E Q) args s 0 0 (zaA E))) Q) := by
  unfold b_X11_admit_26
  exact lk_b B dX11_admit_26 rfl (lk_iret B hr hlk dX11_admit_28)
set_option maxRecDepth 20000 in
theorem k_X11_admit_10 {p : Program} {l : Launch} {e : Env} {s : State} {m : MethodId} {args : Array Value} {below : List Frame} {meth : Method} {c : Code} {E : zE} {d : Nat} {Q : zQ} (hd1 : 1 ≤ d) (B : zB p s m args c E mX11_admit.1.cls mX11_admit.2.1 mX11_admit.2.2.1) (hr : meth.sig.returnType = mX11_admit.2.2.2) (hlk : meth.locks = false) : zLk (zG p l e (zrm d) s m args below meth c E mX11_admit.2.2.1 0 0 (MQ below (zQc E Q) args s 0 0 (zaA E))) 10 (b_X11_admit_10 d (zG p l e (zrm d) s m args below meth c E mX11_admit.2.2.1 0 0 (MQ below (zQc E Q) args s 0 0 (zaA E))) Q) := by
  unfold b_X11_admit_10
  exact lk_aln B dX11_admit_10 rfl (lk_gf (T := TX11) B cl_X11 (by decide) in_X11 zw_788 dX11_admit_11 (lk_iln B dX11_admit_14 rfl (lk_iald B dX11_admit_15 (lk_aln B dX11_admit_16 rfl (lk_gf (T := TX11) B cl_X11 (by decide) in_X11 zw_813 dX11_admit_17 (lk_add B dX11_admit_20 (lk_b B dX11_admit_21 rfl (lk_ile B dX11_admit_23 (by decide) (k_X11_admit_29 hd1 B hr hlk) (k_X11_admit_26 hd1 B hr hlk)))))))))
set_option maxRecDepth 20000 in
theorem k_X11_admit_7 {p : Program} {l : Launch} {e : Env} {s : State} {m : MethodId} {args : Array Value} {below : List Frame} {meth : Method} {c : Code} {E : zE} {d : Nat} {Q : zQ} (hd1 : 1 ≤ d) (B : zB p s m args c E mX11_admit.1.cls mX11_admit.2.1 mX11_admit.2.2.1) (hr : meth.sig.returnType = mX11_admit.2.2.2) (hlk : meth.locks = false) : zLk (zG p l e (zrm d) s m args below meth c E mX11_admit.2.2.1 0 0 (MQ below (zQc E Q) args s 0 0 (zaA E))) 7 (b_X11_admit_7 d (zG p l e (zrm d) s m args below meth c E mX11_admit.2.2.1 0 0 (MQ below (zQc E Q) args s 0 0 (zaA E))) Q) := by
  unfold b_X11_admit_7
  exact lk_b B dX11_admit_7 rfl (lk_iret B hr hlk dX11_admit_9)
set_option maxRecDepth 20000 in
theorem k_X11_admit_0 {p : Program} {l : Launch} {e : Env} {s : State} {m : MethodId} {args : Array Value} {below : List Frame} {meth : Method} {c : Code} {E : zE} {d : Nat} {Q : zQ} (hd1 : 1 ≤ d) (B : zB p s m args c E mX11_admit.1.cls mX11_admit.2.1 mX11_admit.2.2.1) (hr : meth.sig.returnType = mX11_admit.2.2.2) (hlk : meth.locks = false) : zLk (zG p l e (zrm d) s m args below meth c E mX11_admit.2.2.1 0 0 (MQ below (zQc E Q) args s 0 0 (zaA E))) 0 (b_X11_admit_0 d (zG p l e (zrm d) s m args below meth c E mX11_admit.2.2.1 0 0 (MQ below (zQc E Q) args s 0 0 (zaA E))) Q) := by
  unfold b_X11_admit_0
  exact lk_aln B dX11_admit_0 rfl (lk_gf (T := TX11) B cl_X11 (by decide) in_X11 zw_814 dX11_admit_1 (lk_zeq B dX11_admit_4 (by decide) (k_X11_admit_10 hd1 B hr hlk) (k_X11_admit_7 hd1 B hr hlk)))
set_option maxRecDepth 20000 in
theorem k_X11_admit_94 {p : Program} {l : Launch} {e : Env} {s : State} {m : MethodId} {args : Array Value} {below : List Frame} {meth : Method} {c : Code} {E : zE} {d : Nat} {Q : zQ} (hd1 : 1 ≤ d) (B : zB p s m args c E mX11_admit.1.cls mX11_admit.2.1 mX11_admit.2.2.1) (hr : meth.sig.returnType = mX11_admit.2.2.2) (hlk : meth.locks = false) : zLk (zG p l e (zrm d) s m args below meth c E mX11_admit.2.2.1 0 0 (MQ below (zQc E Q) args s 0 0 (zaA E))) 94 (b_X11_admit_94 d (zG p l e (zrm d) s m args below meth c E mX11_admit.2.2.1 0 0 (MQ below (zQc E Q) args s 0 0 (zaA E))) Q) := by
  unfold b_X11_admit_94
  exact lk_aln B dX11_admit_94 rfl (lk_iln B dX11_admit_95 rfl (lk_callv (M := mX11_settle) (T := TX11) (N := 41) B (zhR hd1 (by decide)) ⟨Nat.zero_le _, Nat.zero_le _⟩ cl_X11 (zw5 zw_975 zw_972 zw_974 zw_23 zw_58) (by decide +kernel) dX11_admit_96 (lk_c B dX11_admit_99 (lk_iret B hr hlk dX11_admit_100))))
set_option maxRecDepth 20000 in
theorem k_X11_admit_39 {p : Program} {l : Launch} {e : Env} {s : State} {m : MethodId} {args : Array Value} {below : List Frame} {meth : Method} {c : Code} {E : zE} {d : Nat} {Q : zQ} (hd1 : 1 ≤ d) (B : zB p s m args c E mX11_admit.1.cls mX11_admit.2.1 mX11_admit.2.2.1) (hr : meth.sig.returnType = mX11_admit.2.2.2) (hlk : meth.locks = false) : zLk (zG p l e (zrm d) s m args below meth c E mX11_admit.2.2.1 0 0 (MQ below (zQc E Q) args s 0 0 (zaA E))) 39 (b_X11_admit_39 d (zG p l e (zrm d) s m args below meth c E mX11_admit.2.2.1 0 0 (MQ below (zQc E Q) args s 0 0 (zaA E))) Q) := by
  unfold b_X11_admit_39
  exact lk_aln B dX11_admit_39 rfl (lk_c B dX11_admit_40 (lk_pf (T := TX11) B cl_X11 (by decide) in_X11 tyX11_ok nmX11 zw_812 rfl (by decide +kernel) dX11_admit_41 (lk_c B dX11_admit_44 (lk_isn B dX11_admit_45 rfl (by decide) (fun _ _ _ h => h)))))
set_option maxRecDepth 20000 in
theorem k_X11_admit_31 {p : Program} {l : Launch} {e : Env} {s : State} {m : MethodId} {args : Array Value} {below : List Frame} {meth : Method} {c : Code} {E : zE} {d : Nat} {Q : zQ} (hd1 : 1 ≤ d) (B : zB p s m args c E mX11_admit.1.cls mX11_admit.2.1 mX11_admit.2.2.1) (hr : meth.sig.returnType = mX11_admit.2.2.2) (hlk : meth.locks = false) : zLk (zG p l e (zrm d) s m args below meth c E mX11_admit.2.2.1 0 0 (MQ below (zQc E Q) args s 0 0 (zaA E))) 31 (b_X11_admit_31 d (zG p l e (zrm d) s m args below meth c E mX11_admit.2.2.1 0 0 (MQ below (zQc E Q) args s 0 0 (zaA E))) Q) := by
  unfold b_X11_admit_31
  exact lk_iln B dX11_admit_31 rfl (lk_aln B dX11_admit_32 rfl (lk_gf (T := TX11) B cl_X11 (by decide) in_X11 zw_813 dX11_admit_33 (lk_ige B dX11_admit_36 (by decide) (k_X11_admit_94 hd1 B hr hlk) (k_X11_admit_39 hd1 B hr hlk))))
set_option maxRecDepth 20000 in
theorem k_X11_admit_77 {p : Program} {l : Launch} {e : Env} {s : State} {m : MethodId} {args : Array Value} {below : List Frame} {meth : Method} {c : Code} {E : zE} {d : Nat} {Q : zQ} (hd1 : 1 ≤ d) (B : zB p s m args c E mX11_admit.1.cls mX11_admit.2.1 mX11_admit.2.2.1) (hr : meth.sig.returnType = mX11_admit.2.2.2) (hlk : meth.locks = false) : zLk (zG p l e (zrm d) s m args below meth c E mX11_admit.2.2.1 0 0 (MQ below (zQc E Q) args s 0 0 (zaA E))) 77 (b_X11_admit_77 d (zG p l e (zrm d) s m args below meth c E mX11_admit.2.2.1 0 0 (MQ below (zQc E Q) args s 0 0 (zaA E))) Q) := by
  unfold b_X11_admit_77
  exact lk_aln B dX11_admit_77 rfl (lk_iln B dX11_admit_78 rfl (lk_aln B dX11_admit_79 rfl (lk_gf (T := TX11) B cl_X11 (by decide) in_X11 zw_815 dX11_admit_80 (lk_iln B dX11_admit_83 rfl (lk_iald B dX11_admit_84 (lk_callv (M := mX11_enter) (T := TX11) (N := 41) B (zhR hd1 (by decide)) ⟨Nat.zero_le _, Nat.zero_le _⟩ cl_X11 (zw5 zw_971 zw_968 zw_970 zw_22 zw_58) (by decide +kernel) dX11_admit_85 (lk_inc B dX11_admit_88 (by decide) (lk_goto B dX11_admit_91 (by decide) (fun _ _ _ h => h)))))))))
set_option maxRecDepth 20000 in
theorem k_X11_admit_56 {p : Program} {l : Launch} {e : Env} {s : State} {m : MethodId} {args : Array Value} {below : List Frame} {meth : Method} {c : Code} {E : zE} {d : Nat} {Q : zQ} (hd1 : 1 ≤ d) (B : zB p s m args c E mX11_admit.1.cls mX11_admit.2.1 mX11_admit.2.2.1) (hr : meth.sig.returnType = mX11_admit.2.2.2) (hlk : meth.locks = false) : zLk (zG p l e (zrm d) s m args below meth c E mX11_admit.2.2.1 0 0 (MQ below (zQc E Q) args s 0 0 (zaA E))) 56 (b_X11_admit_56 d (zG p l e (zrm d) s m args below meth c E mX11_admit.2.2.1 0 0 (MQ below (zQc E Q) args s 0 0 (zaA E))) Q) := by
  unfold b_X11_admit_56
  exact lk_aln B dX11_admit_56 rfl (lk_aln B dX11_admit_57 rfl (lk_gf (T := TX11) B cl_X11 (by decide) in_X11 zw_817 dX11_admit_58 (lk_b B dX11_admit_61 rfl (lk_iln B dX11_admit_63 rfl (lk_mul B dX11_admit_64 (lk_iln B dX11_admit_65 rfl (lk_add B dX11_admit_66 (lk_iald B dX11_admit_67 (lk_callv (M := mX11_push) (T := TX11) (N := 41) B (zhR hd1 (by decide)) ⟨Nat.zero_le _, Nat.zero_le _⟩ cl_X11 (zw5 zw_941 zw_938 zw_940 zw_16 zw_58) (by decide +kernel) dX11_admit_68 (lk_inc B dX11_admit_71 (by decide) (lk_goto B dX11_admit_74 (by decide) (fun _ _ _ h => h))))))))))))
set_option maxRecDepth 20000 in
theorem k_X11_admit_46 {p : Program} {l : Launch} {e : Env} {s : State} {m : MethodId} {args : Array Value} {below : List Frame} {meth : Method} {c : Code} {E : zE} {d : Nat} {Q : zQ} (hd1 : 1 ≤ d) (B : zB p s m args c E mX11_admit.1.cls mX11_admit.2.1 mX11_admit.2.2.1) (hr : meth.sig.returnType = mX11_admit.2.2.2) (hlk : meth.locks = false) : zLk (zG p l e (zrm d) s m args below meth c E mX11_admit.2.2.1 0 0 (MQ below (zQc E Q) args s 0 0 (zaA E))) 46 (b_X11_admit_46 d (zG p l e (zrm d) s m args below meth c E mX11_admit.2.2.1 0 0 (MQ below (zQc E Q) args s 0 0 (zaA E))) Q) := by
  unfold b_X11_admit_46
  exact lk_iln B dX11_admit_46 rfl (lk_aln B dX11_admit_47 rfl (lk_gf (T := TX11) B cl_X11 (by decide) in_X11 zw_816 dX11_admit_48 (lk_iln B dX11_admit_51 rfl (lk_iald B dX11_admit_52 (lk_ige B dX11_admit_53 (by decide) (k_X11_admit_77 hd1 B hr hlk) (k_X11_admit_56 hd1 B hr hlk))))))
def S_X11_admit (d : Nat) (G : Nat → zK) (Q : zQ) : Prop := zLk G 0 (b_X11_admit_0 d G Q) ∧ zLk G 31 (b_X11_admit_31 d G Q) ∧ zLk G 46 (b_X11_admit_46 d G Q)
theorem s_X11_admit_0 {d : Nat} {G : Nat → zK} {Q : zQ} (h : S_X11_admit d G Q) {ls st : List zV} {μ : zM} (k : b_X11_admit_0 d G Q ls st μ) : G 0 ls st μ := h.1 ls st μ k
theorem s_X11_admit_31 {d : Nat} {G : Nat → zK} {Q : zQ} (h : S_X11_admit d G Q) {ls st : List zV} {μ : zM} (k : b_X11_admit_31 d G Q ls st μ) : G 31 ls st μ := h.2.1 ls st μ k
theorem s_X11_admit_46 {d : Nat} {G : Nat → zK} {Q : zQ} (h : S_X11_admit d G Q) {ls st : List zV} {μ : zM} (k : b_X11_admit_46 d G Q ls st μ) : G 46 ls st μ := h.2.2 ls st μ k
theorem of_X11_admit {d : Nat} {a0 a1 : zV} {μ : zM} {Q : zQ} (hd1 : 1 ≤ d) (h : ∀ G : Nat → zK, S_X11_admit d G Q → G 0 [a0, a1, .inr none, .inr none] [] μ) : zCt d mX11_admit [a0, a1] μ Q := zCt.mk (by decide) (Nat.le_of_ble_eq_true rfl) (fun p l e s m args below meth c E B hr hlk => h _ ⟨k_X11_admit_0 hd1 B hr hlk, k_X11_admit_31 hd1 B hr hlk, k_X11_admit_46 hd1 B hr hlk⟩)
theorem dX11_cutBehind_0 : decode cX11_cutBehind 0 = .ok (.iload_n 1, 1) := by decide +kernel
theorem dX11_cutBehind_1 : decode cX11_cutBehind 1 = .ok (.iload_n 2, 1) := by decide +kernel
theorem dX11_cutBehind_2 : decode cX11_cutBehind 2 = .ok (.isub, 1) := by decide +kernel
theorem dX11_cutBehind_3 : decode cX11_cutBehind 3 = .ok (.iconst 1, 1) := by decide +kernel
theorem dX11_cutBehind_4 : decode cX11_cutBehind 4 = .ok (.iadd, 1) := by decide +kernel
theorem dX11_cutBehind_5 : decode cX11_cutBehind 5 = .ok (.istore 4, 2) := by decide +kernel
theorem dX11_cutBehind_7 : decode cX11_cutBehind 7 = .ok (.iload_n 3, 1) := by decide +kernel
theorem dX11_cutBehind_8 : decode cX11_cutBehind 8 = .ok (.ifCond .le 15, 3) := by decide +kernel
theorem dX11_cutBehind_11 : decode cX11_cutBehind 11 = .ok (.iload 4, 2) := by decide +kernel
theorem dX11_cutBehind_13 : decode cX11_cutBehind 13 = .ok (.iload_n 3, 1) := by decide +kernel
theorem dX11_cutBehind_14 : decode cX11_cutBehind 14 = .ok (.if_icmp .ne 7, 3) := by decide +kernel
theorem dX11_cutBehind_17 : decode cX11_cutBehind 17 = .ok (.iconst 1, 1) := by decide +kernel
theorem dX11_cutBehind_18 : decode cX11_cutBehind 18 = .ok (.goto 4, 3) := by decide +kernel
theorem dX11_cutBehind_21 : decode cX11_cutBehind 21 = .ok (.iconst 0, 1) := by decide +kernel
theorem dX11_cutBehind_22 : decode cX11_cutBehind 22 = .ok (.ireturn, 1) := by decide +kernel
theorem dX11_cutBehind_23 : decode cX11_cutBehind 23 = .ok (.iload 4, 2) := by decide +kernel
theorem dX11_cutBehind_25 : decode cX11_cutBehind 25 = .ok (.bipush 8, 2) := by decide +kernel
theorem dX11_cutBehind_27 : decode cX11_cutBehind 27 = .ok (.if_icmp .eq 31, 3) := by decide +kernel
theorem dX11_cutBehind_30 : decode cX11_cutBehind 30 = .ok (.iload 4, 2) := by decide +kernel
theorem dX11_cutBehind_32 : decode cX11_cutBehind 32 = .ok (.iconst 2, 1) := by decide +kernel
theorem dX11_cutBehind_33 : decode cX11_cutBehind 33 = .ok (.if_icmp .lt 29, 3) := by decide +kernel
theorem dX11_cutBehind_36 : decode cX11_cutBehind 36 = .ok (.aload_n 0, 1) := by decide +kernel
theorem dX11_cutBehind_37 : decode cX11_cutBehind 37 = .ok (.getfield 62, 3) := by decide +kernel
theorem dX11_cutBehind_40 : decode cX11_cutBehind 40 = .ok (.iload_n 1, 1) := by decide +kernel
theorem dX11_cutBehind_41 : decode cX11_cutBehind 41 = .ok (.iaload, 1) := by decide +kernel
theorem dX11_cutBehind_42 : decode cX11_cutBehind 42 = .ok (.iconst 3, 1) := by decide +kernel
theorem dX11_cutBehind_43 : decode cX11_cutBehind 43 = .ok (.aload_n 0, 1) := by decide +kernel
theorem dX11_cutBehind_44 : decode cX11_cutBehind 44 = .ok (.getfield 62, 3) := by decide +kernel
theorem dX11_cutBehind_47 : decode cX11_cutBehind 47 = .ok (.iload_n 1, 1) := by decide +kernel
theorem dX11_cutBehind_48 : decode cX11_cutBehind 48 = .ok (.iconst 1, 1) := by decide +kernel
theorem dX11_cutBehind_49 : decode cX11_cutBehind 49 = .ok (.isub, 1) := by decide +kernel
theorem dX11_cutBehind_50 : decode cX11_cutBehind 50 = .ok (.iaload, 1) := by decide +kernel
theorem dX11_cutBehind_51 : decode cX11_cutBehind 51 = .ok (.imul, 1) := by decide +kernel
theorem dX11_cutBehind_52 : decode cX11_cutBehind 52 = .ok (.iadd, 1) := by decide +kernel
theorem dX11_cutBehind_53 : decode cX11_cutBehind 53 = .ok (.iconst 5, 1) := by decide +kernel
theorem dX11_cutBehind_54 : decode cX11_cutBehind 54 = .ok (.irem, 1) := by decide +kernel
theorem dX11_cutBehind_55 : decode cX11_cutBehind 55 = .ok (.ifCond .ne 7, 3) := by decide +kernel
theorem dX11_cutBehind_58 : decode cX11_cutBehind 58 = .ok (.iconst 1, 1) := by decide +kernel
theorem dX11_cutBehind_59 : decode cX11_cutBehind 59 = .ok (.goto 4, 3) := by decide +kernel
theorem dX11_cutBehind_62 : decode cX11_cutBehind 62 = .ok (.iconst 0, 1) := by decide +kernel
theorem dX11_cutBehind_63 : decode cX11_cutBehind 63 = .ok (.ireturn, 1) := by decide +kernel
def b_X11_cutBehind_63 (d : Nat) (G : Nat → zK) (Q : zQ) : zK := t_zret Q
def b_X11_cutBehind_58 (d : Nat) (G : Nat → zK) (Q : zQ) : zK := o_c 1 <| b_X11_cutBehind_63 d G Q
def b_X11_cutBehind_62 (d : Nat) (G : Nat → zK) (Q : zQ) : zK := o_c 0 <| b_X11_cutBehind_63 d G Q
def b_X11_cutBehind_36 (d : Nat) (G : Nat → zK) (Q : zQ) : zK := o_al 0 <| o_gf 9 19 <| o_il 1 <| o_iald <| o_c 3 <| o_al 0 <| o_gf 9 19 <| o_il 1 <| o_c 1 <| o_sub <| o_iald <| o_mul <| o_add <| o_c 5 <| o_rem <| t_zeq (b_X11_cutBehind_58 d G Q) (b_X11_cutBehind_62 d G Q)
def b_X11_cutBehind_30 (d : Nat) (G : Nat → zK) (Q : zQ) : zK := o_il 4 <| o_c 2 <| t_ilt (b_X11_cutBehind_62 d G Q) (b_X11_cutBehind_36 d G Q)
def b_X11_cutBehind_23 (d : Nat) (G : Nat → zK) (Q : zQ) : zK := o_il 4 <| o_c 8 <| t_ieq (b_X11_cutBehind_58 d G Q) (b_X11_cutBehind_30 d G Q)
def b_X11_cutBehind_22 (d : Nat) (G : Nat → zK) (Q : zQ) : zK := t_zret Q
def b_X11_cutBehind_21 (d : Nat) (G : Nat → zK) (Q : zQ) : zK := o_c 0 <| b_X11_cutBehind_22 d G Q
def b_X11_cutBehind_17 (d : Nat) (G : Nat → zK) (Q : zQ) : zK := o_c 1 <| b_X11_cutBehind_22 d G Q
def b_X11_cutBehind_11 (d : Nat) (G : Nat → zK) (Q : zQ) : zK := o_il 4 <| o_il 3 <| t_ieq (b_X11_cutBehind_17 d G Q) (b_X11_cutBehind_21 d G Q)
def b_X11_cutBehind_0 (d : Nat) (G : Nat → zK) (Q : zQ) : zK := o_il 1 <| o_il 2 <| o_sub <| o_c 1 <| o_add <| o_is 4 <| o_il 3 <| t_zgt (b_X11_cutBehind_11 d G Q) (b_X11_cutBehind_23 d G Q)
set_option maxRecDepth 20000 in
theorem k_X11_cutBehind_63 {p : Program} {l : Launch} {e : Env} {s : State} {m : MethodId} {args : Array Value} {below : List Frame} {meth : Method} {c : Code} {E : zE} {d : Nat} {Q : zQ} (B : zB p s m args c E mX11_cutBehind.1.cls mX11_cutBehind.2.1 mX11_cutBehind.2.2.1) (hr : meth.sig.returnType = mX11_cutBehind.2.2.2) (hlk : meth.locks = false) : zLk (zG p l e (zrm d) s m args below meth c E mX11_cutBehind.2.2.1 0 0 (MQ below (zQc E Q) args s 0 0 (zaA E))) 63 (b_X11_cutBehind_63 d (zG p l e (zrm d) s m args below meth c E mX11_cutBehind.2.2.1 0 0 (MQ below (zQc E Q) args s 0 0 (zaA E))) Q) := by
  unfold b_X11_cutBehind_63
  exact lk_zret B hr hlk dX11_cutBehind_63
set_option maxRecDepth 20000 in
theorem k_X11_cutBehind_58 {p : Program} {l : Launch} {e : Env} {s : State} {m : MethodId} {args : Array Value} {below : List Frame} {meth : Method} {c : Code} {E : zE} {d : Nat} {Q : zQ} (B : zB p s m args c E mX11_cutBehind.1.cls mX11_cutBehind.2.1 mX11_cutBehind.2.2.1) (hr : meth.sig.returnType = mX11_cutBehind.2.2.2) (hlk : meth.locks = false) : zLk (zG p l e (zrm d) s m args below meth c E mX11_cutBehind.2.2.1 0 0 (MQ below (zQc E Q) args s 0 0 (zaA E))) 58 (b_X11_cutBehind_58 d (zG p l e (zrm d) s m args below meth c E mX11_cutBehind.2.2.1 0 0 (MQ below (zQc E Q) args s 0 0 (zaA E))) Q) := by
  unfold b_X11_cutBehind_58
  exact lk_c B dX11_cutBehind_58 (lk_goto B dX11_cutBehind_59 (by decide) (k_X11_cutBehind_63 B hr hlk))
set_option maxRecDepth 20000 in
theorem k_X11_cutBehind_62 {p : Program} {l : Launch} {e : Env} {s : State} {m : MethodId} {args : Array Value} {below : List Frame} {meth : Method} {c : Code} {E : zE} {d : Nat} {Q : zQ} (B : zB p s m args c E mX11_cutBehind.1.cls mX11_cutBehind.2.1 mX11_cutBehind.2.2.1) (hr : meth.sig.returnType = mX11_cutBehind.2.2.2) (hlk : meth.locks = false) : zLk (zG p l e (zrm d) s m args below meth c E mX11_cutBehind.2.2.1 0 0 (MQ below (zQc E Q) args s 0 0 (zaA E))) 62 (b_X11_cutBehind_62 d (zG p l e (zrm d) s m args below meth c E mX11_cutBehind.2.2.1 0 0 (MQ below (zQc E Q) args s 0 0 (zaA E))) Q) := by
  unfold b_X11_cutBehind_62
  exact lk_c B dX11_cutBehind_62 (k_X11_cutBehind_63 B hr hlk)
set_option maxRecDepth 20000 in
theorem k_X11_cutBehind_36 {p : Program} {l : Launch} {e : Env} {s : State} {m : MethodId} {args : Array Value} {below : List Frame} {meth : Method} {c : Code} {E : zE} {d : Nat} {Q : zQ} (B : zB p s m args c E mX11_cutBehind.1.cls mX11_cutBehind.2.1 mX11_cutBehind.2.2.1) (hr : meth.sig.returnType = mX11_cutBehind.2.2.2) (hlk : meth.locks = false) : zLk (zG p l e (zrm d) s m args below meth c E mX11_cutBehind.2.2.1 0 0 (MQ below (zQc E Q) args s 0 0 (zaA E))) 36 (b_X11_cutBehind_36 d (zG p l e (zrm d) s m args below meth c E mX11_cutBehind.2.2.1 0 0 (MQ below (zQc E Q) args s 0 0 (zaA E))) Q) := by
  unfold b_X11_cutBehind_36
  exact lk_aln B dX11_cutBehind_36 rfl (lk_gf (T := TX11) B cl_X11 (by decide) in_X11 zw_807 dX11_cutBehind_37 (lk_iln B dX11_cutBehind_40 rfl (lk_iald B dX11_cutBehind_41 (lk_c B dX11_cutBehind_42 (lk_aln B dX11_cutBehind_43 rfl (lk_gf (T := TX11) B cl_X11 (by decide) in_X11 zw_807 dX11_cutBehind_44 (lk_iln B dX11_cutBehind_47 rfl (lk_c B dX11_cutBehind_48 (lk_sub B dX11_cutBehind_49 (lk_iald B dX11_cutBehind_50 (lk_mul B dX11_cutBehind_51 (lk_add B dX11_cutBehind_52 (lk_c B dX11_cutBehind_53 (lk_rem B dX11_cutBehind_54 (lk_zne B dX11_cutBehind_55 (by decide) (k_X11_cutBehind_62 B hr hlk) (k_X11_cutBehind_58 B hr hlk))))))))))))))))
set_option maxRecDepth 20000 in
theorem k_X11_cutBehind_30 {p : Program} {l : Launch} {e : Env} {s : State} {m : MethodId} {args : Array Value} {below : List Frame} {meth : Method} {c : Code} {E : zE} {d : Nat} {Q : zQ} (B : zB p s m args c E mX11_cutBehind.1.cls mX11_cutBehind.2.1 mX11_cutBehind.2.2.1) (hr : meth.sig.returnType = mX11_cutBehind.2.2.2) (hlk : meth.locks = false) : zLk (zG p l e (zrm d) s m args below meth c E mX11_cutBehind.2.2.1 0 0 (MQ below (zQc E Q) args s 0 0 (zaA E))) 30 (b_X11_cutBehind_30 d (zG p l e (zrm d) s m args below meth c E mX11_cutBehind.2.2.1 0 0 (MQ below (zQc E Q) args s 0 0 (zaA E))) Q) := by
  unfold b_X11_cutBehind_30
  exact lk_il B dX11_cutBehind_30 (lk_c B dX11_cutBehind_32 (lk_ilt B dX11_cutBehind_33 (by decide) (k_X11_cutBehind_62 B hr hlk) (k_X11_cutBehind_36 B hr hlk)))
set_option maxRecDepth 20000 in
theorem k_X11_cutBehind_23 {p : Program} {l : Launch} {e : Env} {s : State} {m : MethodId} {args : Array Value} {below : List Frame} {meth : Method} {c : Code} {E : zE} {d : Nat} {Q : zQ} (B : zB p s m args c E mX11_cutBehind.1.cls mX11_cutBehind.2.1 mX11_cutBehind.2.2.1) (hr : meth.sig.returnType = mX11_cutBehind.2.2.2) (hlk : meth.locks = false) : zLk (zG p l e (zrm d) s m args below meth c E mX11_cutBehind.2.2.1 0 0 (MQ below (zQc E Q) args s 0 0 (zaA E))) 23 (b_X11_cutBehind_23 d (zG p l e (zrm d) s m args below meth c E mX11_cutBehind.2.2.1 0 0 (MQ below (zQc E Q) args s 0 0 (zaA E))) Q) := by
  unfold b_X11_cutBehind_23
  exact lk_il B dX11_cutBehind_23 (lk_b B dX11_cutBehind_25 rfl (lk_ieq B dX11_cutBehind_27 (by decide) (k_X11_cutBehind_58 B hr hlk) (k_X11_cutBehind_30 B hr hlk)))
set_option maxRecDepth 20000 in
theorem k_X11_cutBehind_22 {p : Program} {l : Launch} {e : Env} {s : State} {m : MethodId} {args : Array Value} {below : List Frame} {meth : Method} {c : Code} {E : zE} {d : Nat} {Q : zQ} (B : zB p s m args c E mX11_cutBehind.1.cls mX11_cutBehind.2.1 mX11_cutBehind.2.2.1) (hr : meth.sig.returnType = mX11_cutBehind.2.2.2) (hlk : meth.locks = false) : zLk (zG p l e (zrm d) s m args below meth c E mX11_cutBehind.2.2.1 0 0 (MQ below (zQc E Q) args s 0 0 (zaA E))) 22 (b_X11_cutBehind_22 d (zG p l e (zrm d) s m args below meth c E mX11_cutBehind.2.2.1 0 0 (MQ below (zQc E Q) args s 0 0 (zaA E))) Q) := by
  unfold b_X11_cutBehind_22
  exact lk_zret B hr hlk dX11_cutBehind_22
set_option maxRecDepth 20000 in
theorem k_X11_cutBehind_21 {p : Program} {l : Launch} {e : Env} {s : State} {m : MethodId} {args : Array Value} {below : List Frame} {meth : Method} {c : Code} {E : zE} {d : Nat} {Q : zQ} (B : zB p s m args c E mX11_cutBehind.1.cls mX11_cutBehind.2.1 mX11_cutBehind.2.2.1) (hr : meth.sig.returnType = mX11_cutBehind.2.2.2) (hlk : meth.locks = false) : zLk (zG p l e (zrm d) s m args below meth c E mX11_cutBehind.2.2.1 0 0 (MQ below (zQc E Q) args s 0 0 (zaA E))) 21 (b_X11_cutBehind_21 d (zG p l e (zrm d) s m args below meth c E mX11_cutBehind.2.2.1 0 0 (MQ below (zQc E Q) args s 0 0 (zaA E))) Q) := by
  unfold b_X11_cutBehind_21
  exact lk_c B dX11_cutBehind_21 (k_X11_cutBehind_22 B hr hlk)
set_option maxRecDepth 20000 in
theorem k_X11_cutBehind_17 {p : Program} {l : Launch} {e : Env} {s : State} {m : MethodId} {args : Array Value} {below : List Frame} {meth : Method} {c : Code} {E : zE} {d : Nat} {Q : zQ} (B : zB p s m args c E mX11_cutBehind.1.cls mX11_cutBehind.2.1 mX11_cutBehind.2.2.1) (hr : meth.sig.returnType = mX11_cutBehind.2.2.2) (hlk : meth.locks = false) : zLk (zG p l e (zrm d) s m args below meth c E mX11_cutBehind.2.2.1 0 0 (MQ below (zQc E Q) args s 0 0 (zaA E))) 17 (b_X11_cutBehind_17 d (zG p l e (zrm d) s m args below meth c E mX11_cutBehind.2.2.1 0 0 (MQ below (zQc E Q) args s 0 0 (zaA E))) Q) := by
  unfold b_X11_cutBehind_17
  exact lk_c B dX11_cutBehind_17 (lk_goto B dX11_cutBehind_18 (by decide) (k_X11_cutBehind_22 B hr hlk))
set_option maxRecDepth 20000 in
theorem k_X11_cutBehind_11 {p : Program} {l : Launch} {e : Env} {s : State} {m : MethodId} {args : Array Value} {below : List Frame} {meth : Method} {c : Code} {E : zE} {d : Nat} {Q : zQ} (B : zB p s m args c E mX11_cutBehind.1.cls mX11_cutBehind.2.1 mX11_cutBehind.2.2.1) (hr : meth.sig.returnType = mX11_cutBehind.2.2.2) (hlk : meth.locks = false) : zLk (zG p l e (zrm d) s m args below meth c E mX11_cutBehind.2.2.1 0 0 (MQ below (zQc E Q) args s 0 0 (zaA E))) 11 (b_X11_cutBehind_11 d (zG p l e (zrm d) s m args below meth c E mX11_cutBehind.2.2.1 0 0 (MQ below (zQc E Q) args s 0 0 (zaA E))) Q) := by
  unfold b_X11_cutBehind_11
  exact lk_il B dX11_cutBehind_11 (lk_iln B dX11_cutBehind_13 rfl (lk_ine B dX11_cutBehind_14 (by decide) (k_X11_cutBehind_21 B hr hlk) (k_X11_cutBehind_17 B hr hlk)))
set_option maxRecDepth 20000 in
theorem k_X11_cutBehind_0 {p : Program} {l : Launch} {e : Env} {s : State} {m : MethodId} {args : Array Value} {below : List Frame} {meth : Method} {c : Code} {E : zE} {d : Nat} {Q : zQ} (B : zB p s m args c E mX11_cutBehind.1.cls mX11_cutBehind.2.1 mX11_cutBehind.2.2.1) (hr : meth.sig.returnType = mX11_cutBehind.2.2.2) (hlk : meth.locks = false) : zLk (zG p l e (zrm d) s m args below meth c E mX11_cutBehind.2.2.1 0 0 (MQ below (zQc E Q) args s 0 0 (zaA E))) 0 (b_X11_cutBehind_0 d (zG p l e (zrm d) s m args below meth c E mX11_cutBehind.2.2.1 0 0 (MQ below (zQc E Q) args s 0 0 (zaA E))) Q) := by
  unfold b_X11_cutBehind_0
  exact lk_iln B dX11_cutBehind_0 rfl (lk_iln B dX11_cutBehind_1 rfl (lk_sub B dX11_cutBehind_2 (lk_c B dX11_cutBehind_3 (lk_add B dX11_cutBehind_4 (lk_is B dX11_cutBehind_5 (by decide) (lk_iln B dX11_cutBehind_7 rfl (lk_zle B dX11_cutBehind_8 (by decide) (k_X11_cutBehind_23 B hr hlk) (k_X11_cutBehind_11 B hr hlk))))))))
def S_X11_cutBehind (d : Nat) (G : Nat → zK) (Q : zQ) : Prop := zLk G 0 (b_X11_cutBehind_0 d G Q)
theorem s_X11_cutBehind_0 {d : Nat} {G : Nat → zK} {Q : zQ} (h : S_X11_cutBehind d G Q) {ls st : List zV} {μ : zM} (k : b_X11_cutBehind_0 d G Q ls st μ) : G 0 ls st μ := h ls st μ k
theorem of_X11_cutBehind {d : Nat} {a0 a1 a2 a3 : zV} {μ : zM} {Q : zQ} (h : ∀ G : Nat → zK, S_X11_cutBehind d G Q → G 0 [a0, a1, a2, a3, .inr none] [] μ) : zCt d mX11_cutBehind [a0, a1, a2, a3] μ Q := zCt.mk (by decide) (Nat.le_of_ble_eq_true rfl) (fun p l e s m args below meth c E B hr hlk => h _ (k_X11_cutBehind_0 B hr hlk))
theorem dX11_add_0 : decode cX11_add 0 = .ok (.iload_n 1, 1) := by decide +kernel
theorem dX11_add_1 : decode cX11_add 1 = .ok (.invokestatic 132, 3) := by decide +kernel
theorem dX11_add_4 : decode cX11_add 4 = .ok (.ifCond .eq 23, 3) := by decide +kernel
theorem dX11_add_7 : decode cX11_add 7 = .ok (.iload_n 2, 1) := by decide +kernel
theorem dX11_add_8 : decode cX11_add 8 = .ok (.ifCond .lt 19, 3) := by decide +kernel
theorem dX11_add_11 : decode cX11_add 11 = .ok (.iload_n 2, 1) := by decide +kernel
theorem dX11_add_12 : decode cX11_add 12 = .ok (.bipush 8, 2) := by decide +kernel
theorem dX11_add_14 : decode cX11_add 14 = .ok (.if_icmp .gt 13, 3) := by decide +kernel
theorem dX11_add_17 : decode cX11_add 17 = .ok (.iload_n 3, 1) := by decide +kernel
theorem dX11_add_18 : decode cX11_add 18 = .ok (.iconst 2, 1) := by decide +kernel
theorem dX11_add_19 : decode cX11_add 19 = .ok (.if_icmp .lt 8, 3) := by decide +kernel
theorem dX11_add_22 : decode cX11_add 22 = .ok (.iload_n 3, 1) := by decide +kernel
theorem dX11_add_23 : decode cX11_add 23 = .ok (.iconst 4, 1) := by decide +kernel
theorem dX11_add_24 : decode cX11_add 24 = .ok (.if_icmp .le 5, 3) := by decide +kernel
theorem dX11_add_27 : decode cX11_add 27 = .ok (.iconst (-1), 1) := by decide +kernel
theorem dX11_add_28 : decode cX11_add 28 = .ok (.ireturn, 1) := by decide +kernel
theorem dX11_add_29 : decode cX11_add 29 = .ok (.aload_n 0, 1) := by decide +kernel
theorem dX11_add_30 : decode cX11_add 30 = .ok (.iconst 0, 1) := by decide +kernel
theorem dX11_add_31 : decode cX11_add 31 = .ok (.putfield 161, 3) := by decide +kernel
theorem dX11_add_34 : decode cX11_add 34 = .ok (.aload_n 0, 1) := by decide +kernel
theorem dX11_add_35 : decode cX11_add 35 = .ok (.iconst 0, 1) := by decide +kernel
theorem dX11_add_36 : decode cX11_add 36 = .ok (.putfield 157, 3) := by decide +kernel
theorem dX11_add_39 : decode cX11_add 39 = .ok (.iconst 0, 1) := by decide +kernel
theorem dX11_add_40 : decode cX11_add 40 = .ok (.istore 4, 2) := by decide +kernel
theorem dX11_add_42 : decode cX11_add 42 = .ok (.iconst 0, 1) := by decide +kernel
theorem dX11_add_43 : decode cX11_add 43 = .ok (.istore 5, 2) := by decide +kernel
theorem dX11_add_45 : decode cX11_add 45 = .ok (.iconst 0, 1) := by decide +kernel
theorem dX11_add_46 : decode cX11_add 46 = .ok (.istore 6, 2) := by decide +kernel
theorem dX11_add_48 : decode cX11_add 48 = .ok (.iload 6, 2) := by decide +kernel
theorem dX11_add_50 : decode cX11_add 50 = .ok (.aload_n 0, 1) := by decide +kernel
theorem dX11_add_51 : decode cX11_add 51 = .ok (.getfield 104, 3) := by decide +kernel
theorem dX11_add_54 : decode cX11_add 54 = .ok (.if_icmp .lt 8, 3) := by decide +kernel
theorem dX11_add_57 : decode cX11_add 57 = .ok (.iload 6, 2) := by decide +kernel
theorem dX11_add_59 : decode cX11_add 59 = .ok (.ifCond .ne 128, 3) := by decide +kernel
theorem dX11_add_62 : decode cX11_add 62 = .ok (.iload 6, 2) := by decide +kernel
theorem dX11_add_64 : decode cX11_add 64 = .ok (.iconst 1, 1) := by decide +kernel
theorem dX11_add_65 : decode cX11_add 65 = .ok (.iadd, 1) := by decide +kernel
theorem dX11_add_66 : decode cX11_add 66 = .ok (.aload_n 0, 1) := by decide +kernel
theorem dX11_add_67 : decode cX11_add 67 = .ok (.getfield 104, 3) := by decide +kernel
theorem dX11_add_70 : decode cX11_add 70 = .ok (.if_icmp .lt 7, 3) := by decide +kernel
theorem dX11_add_73 : decode cX11_add 73 = .ok (.iconst 1, 1) := by decide +kernel
theorem dX11_add_74 : decode cX11_add 74 = .ok (.goto 4, 3) := by decide +kernel
theorem dX11_add_77 : decode cX11_add 77 = .ok (.iconst 0, 1) := by decide +kernel
theorem dX11_add_78 : decode cX11_add 78 = .ok (.istore 7, 2) := by decide +kernel
theorem dX11_add_80 : decode cX11_add 80 = .ok (.iload 7, 2) := by decide +kernel
theorem dX11_add_82 : decode cX11_add 82 = .ok (.ifCond .ne 18, 3) := by decide +kernel
theorem dX11_add_85 : decode cX11_add 85 = .ok (.aload_n 0, 1) := by decide +kernel
theorem dX11_add_86 : decode cX11_add 86 = .ok (.iload 6, 2) := by decide +kernel
theorem dX11_add_88 : decode cX11_add 88 = .ok (.iload 5, 2) := by decide +kernel
theorem dX11_add_90 : decode cX11_add 90 = .ok (.iload_n 2, 1) := by decide +kernel
theorem dX11_add_91 : decode cX11_add 91 = .ok (.invokevirtual 164, 3) := by decide +kernel
theorem dX11_add_94 : decode cX11_add 94 = .ok (.ifCond .ne 6, 3) := by decide +kernel
theorem dX11_add_97 : decode cX11_add 97 = .ok (.goto 84, 3) := by decide +kernel
theorem dX11_add_100 : decode cX11_add 100 = .ok (.aload_n 0, 1) := by decide +kernel
theorem dX11_add_101 : decode cX11_add 101 = .ok (.iconst 0, 1) := by decide +kernel
theorem dX11_add_102 : decode cX11_add 102 = .ok (.putfield 118, 3) := by decide +kernel
theorem dX11_add_105 : decode cX11_add 105 = .ok (.aload_n 0, 1) := by decide +kernel
theorem dX11_add_106 : decode cX11_add 106 = .ok (.iconst 0, 1) := by decide +kernel
theorem dX11_add_107 : decode cX11_add 107 = .ok (.invokevirtual 121, 3) := by decide +kernel
theorem dX11_add_110 : decode cX11_add 110 = .ok (.iload 5, 2) := by decide +kernel
theorem dX11_add_112 : decode cX11_add 112 = .ok (.istore 8, 2) := by decide +kernel
theorem dX11_add_114 : decode cX11_add 114 = .ok (.iload 8, 2) := by decide +kernel
theorem dX11_add_116 : decode cX11_add 116 = .ok (.iload 6, 2) := by decide +kernel
theorem dX11_add_118 : decode cX11_add 118 = .ok (.if_icmp .gt 29, 3) := by decide +kernel
theorem dX11_add_121 : decode cX11_add 121 = .ok (.iload 8, 2) := by decide +kernel
theorem dX11_add_123 : decode cX11_add 123 = .ok (.aload_n 0, 1) := by decide +kernel
theorem dX11_add_124 : decode cX11_add 124 = .ok (.getfield 104, 3) := by decide +kernel
theorem dX11_add_127 : decode cX11_add 127 = .ok (.if_icmp .ge 20, 3) := by decide +kernel
theorem dX11_add_130 : decode cX11_add 130 = .ok (.aload_n 0, 1) := by decide +kernel
theorem dX11_add_131 : decode cX11_add 131 = .ok (.aload_n 0, 1) := by decide +kernel
theorem dX11_add_132 : decode cX11_add 132 = .ok (.getfield 62, 3) := by decide +kernel
theorem dX11_add_135 : decode cX11_add 135 = .ok (.iload 8, 2) := by decide +kernel
theorem dX11_add_137 : decode cX11_add 137 = .ok (.iaload, 1) := by decide +kernel
theorem dX11_add_138 : decode cX11_add 138 = .ok (.invokevirtual 121, 3) := by decide +kernel
theorem dX11_add_141 : decode cX11_add 141 = .ok (.iinc 8 1, 3) := by decide +kernel
theorem dX11_add_144 : decode cX11_add 144 = .ok (.goto (-30), 3) := by decide +kernel
theorem dX11_add_147 : decode cX11_add 147 = .ok (.aload_n 0, 1) := by decide +kernel
theorem dX11_add_148 : decode cX11_add 148 = .ok (.getfield 95, 3) := by decide +kernel
theorem dX11_add_151 : decode cX11_add 151 = .ok (.iload 4, 2) := by decide +kernel
theorem dX11_add_153 : decode cX11_add 153 = .ok (.aload_n 0, 1) := by decide +kernel
theorem dX11_add_154 : decode cX11_add 154 = .ok (.iload_n 1, 1) := by decide +kernel
theorem dX11_add_155 : decode cX11_add 155 = .ok (.invokevirtual 168, 3) := by decide +kernel
theorem dX11_add_158 : decode cX11_add 158 = .ok (.iastore, 1) := by decide +kernel
theorem dX11_add_159 : decode cX11_add 159 = .ok (.aload_n 0, 1) := by decide +kernel
theorem dX11_add_160 : decode cX11_add 160 = .ok (.getfield 98, 3) := by decide +kernel
theorem dX11_add_163 : decode cX11_add 163 = .ok (.iload 4, 2) := by decide +kernel
theorem dX11_add_165 : decode cX11_add 165 = .ok (.aload_n 0, 1) := by decide +kernel
theorem dX11_add_166 : decode cX11_add 166 = .ok (.getfield 118, 3) := by decide +kernel
theorem dX11_add_169 : decode cX11_add 169 = .ok (.iconst 1, 1) := by decide +kernel
theorem dX11_add_170 : decode cX11_add 170 = .ok (.isub, 1) := by decide +kernel
theorem dX11_add_171 : decode cX11_add 171 = .ok (.iastore, 1) := by decide +kernel
theorem dX11_add_172 : decode cX11_add 172 = .ok (.iinc 4 1, 3) := by decide +kernel
theorem dX11_add_175 : decode cX11_add 175 = .ok (.iload 6, 2) := by decide +kernel
theorem dX11_add_177 : decode cX11_add 177 = .ok (.iconst 1, 1) := by decide +kernel
theorem dX11_add_178 : decode cX11_add 178 = .ok (.iadd, 1) := by decide +kernel
theorem dX11_add_179 : decode cX11_add 179 = .ok (.istore 5, 2) := by decide +kernel
theorem dX11_add_181 : decode cX11_add 181 = .ok (.iinc 6 1, 3) := by decide +kernel
theorem dX11_add_184 : decode cX11_add 184 = .ok (.goto (-136), 3) := by decide +kernel
theorem dX11_add_187 : decode cX11_add 187 = .ok (.iload 4, 2) := by decide +kernel
theorem dX11_add_189 : decode cX11_add 189 = .ok (.iconst 1, 1) := by decide +kernel
theorem dX11_add_190 : decode cX11_add 190 = .ok (.if_icmp .le 16, 3) := by decide +kernel
theorem dX11_add_193 : decode cX11_add 193 = .ok (.aload_n 0, 1) := by decide +kernel
theorem dX11_add_194 : decode cX11_add 194 = .ok (.iload_n 1, 1) := by decide +kernel
theorem dX11_add_195 : decode cX11_add 195 = .ok (.iload 4, 2) := by decide +kernel
theorem dX11_add_197 : decode cX11_add 197 = .ok (.iload_n 3, 1) := by decide +kernel
theorem dX11_add_198 : decode cX11_add 198 = .ok (.invokevirtual 171, 3) := by decide +kernel
theorem dX11_add_201 : decode cX11_add 201 = .ok (.istore 4, 2) := by decide +kernel
theorem dX11_add_203 : decode cX11_add 203 = .ok (.goto (-16), 3) := by decide +kernel
theorem dX11_add_206 : decode cX11_add 206 = .ok (.aload_n 0, 1) := by decide +kernel
theorem dX11_add_207 : decode cX11_add 207 = .ok (.getfield 95, 3) := by decide +kernel
theorem dX11_add_210 : decode cX11_add 210 = .ok (.iconst 0, 1) := by decide +kernel
theorem dX11_add_211 : decode cX11_add 211 = .ok (.iaload, 1) := by decide +kernel
theorem dX11_add_212 : decode cX11_add 212 = .ok (.istore 6, 2) := by decide +kernel
theorem dX11_add_214 : decode cX11_add 214 = .ok (.aload_n 0, 1) := by decide +kernel
theorem dX11_add_215 : decode cX11_add 215 = .ok (.iload_n 1, 1) := by decide +kernel
theorem dX11_add_216 : decode cX11_add 216 = .ok (.invokevirtual 175, 3) := by decide +kernel
theorem dX11_add_219 : decode cX11_add 219 = .ok (.istore 7, 2) := by decide +kernel
theorem dX11_add_221 : decode cX11_add 221 = .ok (.iload 7, 2) := by decide +kernel
theorem dX11_add_223 : decode cX11_add 223 = .ok (.ifCond .ge 6, 3) := by decide +kernel
theorem dX11_add_226 : decode cX11_add 226 = .ok (.iload 7, 2) := by decide +kernel
theorem dX11_add_228 : decode cX11_add 228 = .ok (.ireturn, 1) := by decide +kernel
theorem dX11_add_229 : decode cX11_add 229 = .ok (.aload_n 0, 1) := by decide +kernel
theorem dX11_add_230 : decode cX11_add 230 = .ok (.iconst 0, 1) := by decide +kernel
theorem dX11_add_231 : decode cX11_add 231 = .ok (.putfield 104, 3) := by decide +kernel
theorem dX11_add_234 : decode cX11_add 234 = .ok (.iload 6, 2) := by decide +kernel
theorem dX11_add_236 : decode cX11_add 236 = .ok (.ireturn, 1) := by decide +kernel
def b_X11_add_27 (d : Nat) (G : Nat → zK) (Q : zQ) : zK := o_c (-1) <| t_iret Q
def b_X11_add_29 (d : Nat) (G : Nat → zK) (Q : zQ) : zK := o_al 0 <| o_c 0 <| o_pf 9 25 <| o_al 0 <| o_c 0 <| o_pz 9 26 <| o_c 0 <| o_is 4 <| o_c 0 <| o_is 5 <| o_c 0 <| o_is 6 <| G 48
def b_X11_add_22 (d : Nat) (G : Nat → zK) (Q : zQ) : zK := o_il 3 <| o_c 4 <| t_igt (b_X11_add_27 d G Q) (b_X11_add_29 d G Q)
def b_X11_add_17 (d : Nat) (G : Nat → zK) (Q : zQ) : zK := o_il 3 <| o_c 2 <| t_ilt (b_X11_add_27 d G Q) (b_X11_add_22 d G Q)
def b_X11_add_11 (d : Nat) (G : Nat → zK) (Q : zQ) : zK := o_il 2 <| o_c 8 <| t_igt (b_X11_add_27 d G Q) (b_X11_add_17 d G Q)
def b_X11_add_7 (d : Nat) (G : Nat → zK) (Q : zQ) : zK := o_il 2 <| t_zlt (b_X11_add_27 d G Q) (b_X11_add_11 d G Q)
def b_X11_add_0 (d : Nat) (G : Nat → zK) (Q : zQ) : zK := o_il 1 <| o_call (zCt (d - 1) mX11_isStore) 1 <| t_zeq (b_X11_add_27 d G Q) (b_X11_add_7 d G Q)
def b_X11_add_77 (d : Nat) (G : Nat → zK) (Q : zQ) : zK := o_c 0 <| G 78
def b_X11_add_73 (d : Nat) (G : Nat → zK) (Q : zQ) : zK := o_c 1 <| G 78
def b_X11_add_62 (d : Nat) (G : Nat → zK) (Q : zQ) : zK := o_il 6 <| o_c 1 <| o_add <| o_al 0 <| o_gf 9 18 <| t_ilt (b_X11_add_77 d G Q) (b_X11_add_73 d G Q)
def b_X11_add_57 (d : Nat) (G : Nat → zK) (Q : zQ) : zK := o_il 6 <| t_zeq (b_X11_add_62 d G Q) (G 187)
def b_X11_add_48 (d : Nat) (G : Nat → zK) (Q : zQ) : zK := o_il 6 <| o_al 0 <| o_gf 9 18 <| t_ilt (b_X11_add_62 d G Q) (b_X11_add_57 d G Q)
def b_X11_add_100 (d : Nat) (G : Nat → zK) (Q : zQ) : zK := o_al 0 <| o_c 0 <| o_pf 9 24 <| o_al 0 <| o_c 0 <| o_callv (zCt (d - 1) mX11_push) 9 2 <| o_il 5 <| o_is 8 <| G 114
def b_X11_add_181 (d : Nat) (G : Nat → zK) (Q : zQ) : zK := o_inc 6 1 <| G 48
def b_X11_add_97 (d : Nat) (G : Nat → zK) (Q : zQ) : zK := b_X11_add_181 d G Q
def b_X11_add_85 (d : Nat) (G : Nat → zK) (Q : zQ) : zK := o_al 0 <| o_il 6 <| o_il 5 <| o_il 2 <| o_callv (zCt (d - 1) mX11_cutBehind) 9 4 <| t_zeq (b_X11_add_97 d G Q) (b_X11_add_100 d G Q)
def b_X11_add_78 (d : Nat) (G : Nat → zK) (Q : zQ) : zK := o_is 7 <| o_il 7 <| t_zeq (b_X11_add_85 d G Q) (b_X11_add_100 d G Q)
def b_X11_add_130 (d : Nat) (G : Nat → zK) (Q : zQ) : zK := o_al 0 <| o_al 0 <| o_gf 9 19 <| o_il 8 <| o_iald <| o_callv (zCt (d - 1) mX11_push) 9 2 <| o_inc 8 1 <| G 114
def b_X11_add_121 (d : Nat) (G : Nat → zK) (Q : zQ) : zK := o_il 8 <| o_al 0 <| o_gf 9 18 <| t_ilt (b_X11_add_130 d G Q) (G 147)
def b_X11_add_114 (d : Nat) (G : Nat → zK) (Q : zQ) : zK := o_il 8 <| o_il 6 <| t_igt (G 147) (b_X11_add_121 d G Q)
def b_X11_add_147 (d : Nat) (G : Nat → zK) (Q : zQ) : zK := o_al 0 <| o_gf 9 38 <| o_il 4 <| o_al 0 <| o_il 1 <| o_callv (zCt (d - 1) mX11_stage) 9 2 <| o_iast <| o_al 0 <| o_gf 9 39 <| o_il 4 <| o_al 0 <| o_gf 9 24 <| o_c 1 <| o_sub <| o_iast <| o_inc 4 1 <| o_il 6 <| o_c 1 <| o_add <| o_is 5 <| b_X11_add_181 d G Q
def b_X11_add_229 (d : Nat) (G : Nat → zK) (Q : zQ) : zK := o_al 0 <| o_c 0 <| o_pf 9 18 <| o_il 6 <| t_iret Q
def b_X11_add_226 (d : Nat) (G : Nat → zK) (Q : zQ) : zK := o_il 7 <| t_iret Q
def b_X11_add_206 (d : Nat) (G : Nat → zK) (Q : zQ) : zK := o_al 0 <| o_gf 9 38 <| o_c 0 <| o_iald <| o_is 6 <| o_al 0 <| o_il 1 <| o_callv (zCt (d - 1) mX11_admit) 9 2 <| o_is 7 <| o_il 7 <| t_zlt (b_X11_add_226 d G Q) (b_X11_add_229 d G Q)
def b_X11_add_193 (d : Nat) (G : Nat → zK) (Q : zQ) : zK := o_al 0 <| o_il 1 <| o_il 4 <| o_il 3 <| o_callv (zCt (d - 1) mX11_raise) 9 4 <| o_is 4 <| G 187
def b_X11_add_187 (d : Nat) (G : Nat → zK) (Q : zQ) : zK := o_il 4 <| o_c 1 <| t_igt (b_X11_add_193 d G Q) (b_X11_add_206 d G Q)
set_option maxRecDepth 20000 in
theorem k_X11_add_27 {p : Program} {l : Launch} {e : Env} {s : State} {m : MethodId} {args : Array Value} {below : List Frame} {meth : Method} {c : Code} {E : zE} {d : Nat} {Q : zQ} (hd1 : 1 ≤ d) (B : zB p s m args c E mX11_add.1.cls mX11_add.2.1 mX11_add.2.2.1) (hr : meth.sig.returnType = mX11_add.2.2.2) (hlk : meth.locks = false) : zLk (zG p l e (zrm d) s m args below meth c E mX11_add.2.2.1 0 0 (MQ below (zQc E Q) args s 0 0 (zaA E))) 27 (b_X11_add_27 d (zG p l e (zrm d) s m args below meth c E mX11_add.2.2.1 0 0 (MQ below (zQc E Q) args s 0 0 (zaA E))) Q) := by
  unfold b_X11_add_27
  exact lk_c B dX11_add_27 (lk_iret B hr hlk dX11_add_28)
set_option maxRecDepth 20000 in
theorem k_X11_add_29 {p : Program} {l : Launch} {e : Env} {s : State} {m : MethodId} {args : Array Value} {below : List Frame} {meth : Method} {c : Code} {E : zE} {d : Nat} {Q : zQ} (hd1 : 1 ≤ d) (B : zB p s m args c E mX11_add.1.cls mX11_add.2.1 mX11_add.2.2.1) (hr : meth.sig.returnType = mX11_add.2.2.2) (hlk : meth.locks = false) : zLk (zG p l e (zrm d) s m args below meth c E mX11_add.2.2.1 0 0 (MQ below (zQc E Q) args s 0 0 (zaA E))) 29 (b_X11_add_29 d (zG p l e (zrm d) s m args below meth c E mX11_add.2.2.1 0 0 (MQ below (zQc E Q) args s 0 0 (zaA E))) Q) := by
  unfold b_X11_add_29
  exact lk_aln B dX11_add_29 rfl (lk_c B dX11_add_30 (lk_pf (T := TX11) B cl_X11 (by decide) in_X11 tyX11_ok nmX11 zw_813 rfl (by decide +kernel) dX11_add_31 (lk_aln B dX11_add_34 rfl (lk_c B dX11_add_35 (lk_pz (T := TX11) B cl_X11 (by decide) in_X11 tyX11_ok nmX11 zw_814 rfl (by decide +kernel) dX11_add_36 (lk_c B dX11_add_39 (lk_is B dX11_add_40 (by decide) (lk_c B dX11_add_42 (lk_is B dX11_add_43 (by decide) (lk_c B dX11_add_45 (lk_is B dX11_add_46 (by decide) (fun _ _ _ h => h))))))))))))
set_option maxRecDepth 20000 in
theorem k_X11_add_22 {p : Program} {l : Launch} {e : Env} {s : State} {m : MethodId} {args : Array Value} {below : List Frame} {meth : Method} {c : Code} {E : zE} {d : Nat} {Q : zQ} (hd1 : 1 ≤ d) (B : zB p s m args c E mX11_add.1.cls mX11_add.2.1 mX11_add.2.2.1) (hr : meth.sig.returnType = mX11_add.2.2.2) (hlk : meth.locks = false) : zLk (zG p l e (zrm d) s m args below meth c E mX11_add.2.2.1 0 0 (MQ below (zQc E Q) args s 0 0 (zaA E))) 22 (b_X11_add_22 d (zG p l e (zrm d) s m args below meth c E mX11_add.2.2.1 0 0 (MQ below (zQc E Q) args s 0 0 (zaA E))) Q) := by
  unfold b_X11_add_22
  exact lk_iln B dX11_add_22 rfl (lk_c B dX11_add_23 (lk_ile B dX11_add_24 (by decide) (k_X11_add_29 hd1 B hr hlk) (k_X11_add_27 hd1 B hr hlk)))
set_option maxRecDepth 20000 in
theorem k_X11_add_17 {p : Program} {l : Launch} {e : Env} {s : State} {m : MethodId} {args : Array Value} {below : List Frame} {meth : Method} {c : Code} {E : zE} {d : Nat} {Q : zQ} (hd1 : 1 ≤ d) (B : zB p s m args c E mX11_add.1.cls mX11_add.2.1 mX11_add.2.2.1) (hr : meth.sig.returnType = mX11_add.2.2.2) (hlk : meth.locks = false) : zLk (zG p l e (zrm d) s m args below meth c E mX11_add.2.2.1 0 0 (MQ below (zQc E Q) args s 0 0 (zaA E))) 17 (b_X11_add_17 d (zG p l e (zrm d) s m args below meth c E mX11_add.2.2.1 0 0 (MQ below (zQc E Q) args s 0 0 (zaA E))) Q) := by
  unfold b_X11_add_17
  exact lk_iln B dX11_add_17 rfl (lk_c B dX11_add_18 (lk_ilt B dX11_add_19 (by decide) (k_X11_add_27 hd1 B hr hlk) (k_X11_add_22 hd1 B hr hlk)))
set_option maxRecDepth 20000 in
theorem k_X11_add_11 {p : Program} {l : Launch} {e : Env} {s : State} {m : MethodId} {args : Array Value} {below : List Frame} {meth : Method} {c : Code} {E : zE} {d : Nat} {Q : zQ} (hd1 : 1 ≤ d) (B : zB p s m args c E mX11_add.1.cls mX11_add.2.1 mX11_add.2.2.1) (hr : meth.sig.returnType = mX11_add.2.2.2) (hlk : meth.locks = false) : zLk (zG p l e (zrm d) s m args below meth c E mX11_add.2.2.1 0 0 (MQ below (zQc E Q) args s 0 0 (zaA E))) 11 (b_X11_add_11 d (zG p l e (zrm d) s m args below meth c E mX11_add.2.2.1 0 0 (MQ below (zQc E Q) args s 0 0 (zaA E))) Q) := by
  unfold b_X11_add_11
  exact lk_iln B dX11_add_11 rfl (lk_b B dX11_add_12 rfl (lk_igt B dX11_add_14 (by decide) (k_X11_add_27 hd1 B hr hlk) (k_X11_add_17 hd1 B hr hlk)))
set_option maxRecDepth 20000 in
theorem k_X11_add_7 {p : Program} {l : Launch} {e : Env} {s : State} {m : MethodId} {args : Array Value} {below : List Frame} {meth : Method} {c : Code} {E : zE} {d : Nat} {Q : zQ} (hd1 : 1 ≤ d) (B : zB p s m args c E mX11_add.1.cls mX11_add.2.1 mX11_add.2.2.1) (hr : meth.sig.returnType = mX11_add.2.2.2) (hlk : meth.locks = false) : zLk (zG p l e (zrm d) s m args below meth c E mX11_add.2.2.1 0 0 (MQ below (zQc E Q) args s 0 0 (zaA E))) 7 (b_X11_add_7 d (zG p l e (zrm d) s m args below meth c E mX11_add.2.2.1 0 0 (MQ below (zQc E Q) args s 0 0 (zaA E))) Q) := by
  unfold b_X11_add_7
  exact lk_iln B dX11_add_7 rfl (lk_zlt B dX11_add_8 (by decide) (k_X11_add_27 hd1 B hr hlk) (k_X11_add_11 hd1 B hr hlk))
set_option maxRecDepth 20000 in
theorem k_X11_add_0 {p : Program} {l : Launch} {e : Env} {s : State} {m : MethodId} {args : Array Value} {below : List Frame} {meth : Method} {c : Code} {E : zE} {d : Nat} {Q : zQ} (hd1 : 1 ≤ d) (B : zB p s m args c E mX11_add.1.cls mX11_add.2.1 mX11_add.2.2.1) (hr : meth.sig.returnType = mX11_add.2.2.2) (hlk : meth.locks = false) : zLk (zG p l e (zrm d) s m args below meth c E mX11_add.2.2.1 0 0 (MQ below (zQc E Q) args s 0 0 (zaA E))) 0 (b_X11_add_0 d (zG p l e (zrm d) s m args below meth c E mX11_add.2.2.1 0 0 (MQ below (zQc E Q) args s 0 0 (zaA E))) Q) := by
  unfold b_X11_add_0
  exact lk_iln B dX11_add_0 rfl (lk_calls (M := mX11_isStore) B (zhR hd1 (by decide)) ⟨Nat.zero_le _, Nat.zero_le _⟩ (zw4 zw_944 zw_942 zw_943 zw_58) (by decide +kernel) dX11_add_1 (lk_zeq B dX11_add_4 (by decide) (k_X11_add_27 hd1 B hr hlk) (k_X11_add_7 hd1 B hr hlk)))
set_option maxRecDepth 20000 in
theorem k_X11_add_77 {p : Program} {l : Launch} {e : Env} {s : State} {m : MethodId} {args : Array Value} {below : List Frame} {meth : Method} {c : Code} {E : zE} {d : Nat} {Q : zQ} (hd1 : 1 ≤ d) (B : zB p s m args c E mX11_add.1.cls mX11_add.2.1 mX11_add.2.2.1) (hr : meth.sig.returnType = mX11_add.2.2.2) (hlk : meth.locks = false) : zLk (zG p l e (zrm d) s m args below meth c E mX11_add.2.2.1 0 0 (MQ below (zQc E Q) args s 0 0 (zaA E))) 77 (b_X11_add_77 d (zG p l e (zrm d) s m args below meth c E mX11_add.2.2.1 0 0 (MQ below (zQc E Q) args s 0 0 (zaA E))) Q) := by
  unfold b_X11_add_77
  exact lk_c B dX11_add_77 (fun _ _ _ h => h)
set_option maxRecDepth 20000 in
theorem k_X11_add_73 {p : Program} {l : Launch} {e : Env} {s : State} {m : MethodId} {args : Array Value} {below : List Frame} {meth : Method} {c : Code} {E : zE} {d : Nat} {Q : zQ} (hd1 : 1 ≤ d) (B : zB p s m args c E mX11_add.1.cls mX11_add.2.1 mX11_add.2.2.1) (hr : meth.sig.returnType = mX11_add.2.2.2) (hlk : meth.locks = false) : zLk (zG p l e (zrm d) s m args below meth c E mX11_add.2.2.1 0 0 (MQ below (zQc E Q) args s 0 0 (zaA E))) 73 (b_X11_add_73 d (zG p l e (zrm d) s m args below meth c E mX11_add.2.2.1 0 0 (MQ below (zQc E Q) args s 0 0 (zaA E))) Q) := by
  unfold b_X11_add_73
  exact lk_c B dX11_add_73 (lk_goto B dX11_add_74 (by decide) (fun _ _ _ h => h))
set_option maxRecDepth 20000 in
theorem k_X11_add_62 {p : Program} {l : Launch} {e : Env} {s : State} {m : MethodId} {args : Array Value} {below : List Frame} {meth : Method} {c : Code} {E : zE} {d : Nat} {Q : zQ} (hd1 : 1 ≤ d) (B : zB p s m args c E mX11_add.1.cls mX11_add.2.1 mX11_add.2.2.1) (hr : meth.sig.returnType = mX11_add.2.2.2) (hlk : meth.locks = false) : zLk (zG p l e (zrm d) s m args below meth c E mX11_add.2.2.1 0 0 (MQ below (zQc E Q) args s 0 0 (zaA E))) 62 (b_X11_add_62 d (zG p l e (zrm d) s m args below meth c E mX11_add.2.2.1 0 0 (MQ below (zQc E Q) args s 0 0 (zaA E))) Q) := by
  unfold b_X11_add_62
  exact lk_il B dX11_add_62 (lk_c B dX11_add_64 (lk_add B dX11_add_65 (lk_aln B dX11_add_66 rfl (lk_gf (T := TX11) B cl_X11 (by decide) in_X11 zw_806 dX11_add_67 (lk_ilt B dX11_add_70 (by decide) (k_X11_add_77 hd1 B hr hlk) (k_X11_add_73 hd1 B hr hlk))))))
set_option maxRecDepth 20000 in
theorem k_X11_add_57 {p : Program} {l : Launch} {e : Env} {s : State} {m : MethodId} {args : Array Value} {below : List Frame} {meth : Method} {c : Code} {E : zE} {d : Nat} {Q : zQ} (hd1 : 1 ≤ d) (B : zB p s m args c E mX11_add.1.cls mX11_add.2.1 mX11_add.2.2.1) (hr : meth.sig.returnType = mX11_add.2.2.2) (hlk : meth.locks = false) : zLk (zG p l e (zrm d) s m args below meth c E mX11_add.2.2.1 0 0 (MQ below (zQc E Q) args s 0 0 (zaA E))) 57 (b_X11_add_57 d (zG p l e (zrm d) s m args below meth c E mX11_add.2.2.1 0 0 (MQ below (zQc E Q) args s 0 0 (zaA E))) Q) := by
  unfold b_X11_add_57
  exact lk_il B dX11_add_57 (lk_zne B dX11_add_59 (by decide) (fun _ _ _ h => h) (k_X11_add_62 hd1 B hr hlk))
set_option maxRecDepth 20000 in
theorem k_X11_add_48 {p : Program} {l : Launch} {e : Env} {s : State} {m : MethodId} {args : Array Value} {below : List Frame} {meth : Method} {c : Code} {E : zE} {d : Nat} {Q : zQ} (hd1 : 1 ≤ d) (B : zB p s m args c E mX11_add.1.cls mX11_add.2.1 mX11_add.2.2.1) (hr : meth.sig.returnType = mX11_add.2.2.2) (hlk : meth.locks = false) : zLk (zG p l e (zrm d) s m args below meth c E mX11_add.2.2.1 0 0 (MQ below (zQc E Q) args s 0 0 (zaA E))) 48 (b_X11_add_48 d (zG p l e (zrm d) s m args below meth c E mX11_add.2.2.1 0 0 (MQ below (zQc E Q) args s 0 0 (zaA E))) Q) := by
  unfold b_X11_add_48
  exact lk_il B dX11_add_48 (lk_aln B dX11_add_50 rfl (lk_gf (T := TX11) B cl_X11 (by decide) in_X11 zw_806 dX11_add_51 (lk_ilt B dX11_add_54 (by decide) (k_X11_add_62 hd1 B hr hlk) (k_X11_add_57 hd1 B hr hlk))))
set_option maxRecDepth 20000 in
theorem k_X11_add_100 {p : Program} {l : Launch} {e : Env} {s : State} {m : MethodId} {args : Array Value} {below : List Frame} {meth : Method} {c : Code} {E : zE} {d : Nat} {Q : zQ} (hd1 : 1 ≤ d) (B : zB p s m args c E mX11_add.1.cls mX11_add.2.1 mX11_add.2.2.1) (hr : meth.sig.returnType = mX11_add.2.2.2) (hlk : meth.locks = false) : zLk (zG p l e (zrm d) s m args below meth c E mX11_add.2.2.1 0 0 (MQ below (zQc E Q) args s 0 0 (zaA E))) 100 (b_X11_add_100 d (zG p l e (zrm d) s m args below meth c E mX11_add.2.2.1 0 0 (MQ below (zQc E Q) args s 0 0 (zaA E))) Q) := by
  unfold b_X11_add_100
  exact lk_aln B dX11_add_100 rfl (lk_c B dX11_add_101 (lk_pf (T := TX11) B cl_X11 (by decide) in_X11 tyX11_ok nmX11 zw_812 rfl (by decide +kernel) dX11_add_102 (lk_aln B dX11_add_105 rfl (lk_c B dX11_add_106 (lk_callv (M := mX11_push) (T := TX11) (N := 41) B (zhR hd1 (by decide)) ⟨Nat.zero_le _, Nat.zero_le _⟩ cl_X11 (zw5 zw_941 zw_938 zw_940 zw_16 zw_58) (by decide +kernel) dX11_add_107 (lk_il B dX11_add_110 (lk_is B dX11_add_112 (by decide) (fun _ _ _ h => h))))))))
set_option maxRecDepth 20000 in
theorem k_X11_add_181 {p : Program} {l : Launch} {e : Env} {s : State} {m : MethodId} {args : Array Value} {below : List Frame} {meth : Method} {c : Code} {E : zE} {d : Nat} {Q : zQ} (hd1 : 1 ≤ d) (B : zB p s m args c E mX11_add.1.cls mX11_add.2.1 mX11_add.2.2.1) (hr : meth.sig.returnType = mX11_add.2.2.2) (hlk : meth.locks = false) : zLk (zG p l e (zrm d) s m args below meth c E mX11_add.2.2.1 0 0 (MQ below (zQc E Q) args s 0 0 (zaA E))) 181 (b_X11_add_181 d (zG p l e (zrm d) s m args below meth c E mX11_add.2.2.1 0 0 (MQ below (zQc E Q) args s 0 0 (zaA E))) Q) := by
  unfold b_X11_add_181
  exact lk_inc B dX11_add_181 (by decide) (lk_goto B dX11_add_184 (by decide) (fun _ _ _ h => h))
set_option maxRecDepth 20000 in
theorem k_X11_add_97 {p : Program} {l : Launch} {e : Env} {s : State} {m : MethodId} {args : Array Value} {below : List Frame} {meth : Method} {c : Code} {E : zE} {d : Nat} {Q : zQ} (hd1 : 1 ≤ d) (B : zB p s m args c E mX11_add.1.cls mX11_add.2.1 mX11_add.2.2.1) (hr : meth.sig.returnType = mX11_add.2.2.2) (hlk : meth.locks = false) : zLk (zG p l e (zrm d) s m args below meth c E mX11_add.2.2.1 0 0 (MQ below (zQc E Q) args s 0 0 (zaA E))) 97 (b_X11_add_97 d (zG p l e (zrm d) s m args below meth c E mX11_add.2.2.1 0 0 (MQ below (zQc E Q) args s 0 0 (zaA E))) Q) := by
  unfold b_X11_add_97
  exact lk_goto B dX11_add_97 (by decide) (k_X11_add_181 hd1 B hr hlk)
set_option maxRecDepth 20000 in
theorem k_X11_add_85 {p : Program} {l : Launch} {e : Env} {s : State} {m : MethodId} {args : Array Value} {below : List Frame} {meth : Method} {c : Code} {E : zE} {d : Nat} {Q : zQ} (hd1 : 1 ≤ d) (B : zB p s m args c E mX11_add.1.cls mX11_add.2.1 mX11_add.2.2.1) (hr : meth.sig.returnType = mX11_add.2.2.2) (hlk : meth.locks = false) : zLk (zG p l e (zrm d) s m args below meth c E mX11_add.2.2.1 0 0 (MQ below (zQc E Q) args s 0 0 (zaA E))) 85 (b_X11_add_85 d (zG p l e (zrm d) s m args below meth c E mX11_add.2.2.1 0 0 (MQ below (zQc E Q) args s 0 0 (zaA E))) Q) := by
  unfold b_X11_add_85
  exact lk_aln B dX11_add_85 rfl (lk_il B dX11_add_86 (lk_il B dX11_add_88 (lk_iln B dX11_add_90 rfl (lk_callv (M := mX11_cutBehind) (T := TX11) (N := 41) B (zhR hd1 (by decide)) ⟨Nat.zero_le _, Nat.zero_le _⟩ cl_X11 (zw5 zw_1007 zw_1004 zw_1006 zw_30 zw_58) (by decide +kernel) dX11_add_91 (lk_zne B dX11_add_94 (by decide) (k_X11_add_100 hd1 B hr hlk) (k_X11_add_97 hd1 B hr hlk))))))
set_option maxRecDepth 20000 in
theorem k_X11_add_78 {p : Program} {l : Launch} {e : Env} {s : State} {m : MethodId} {args : Array Value} {below : List Frame} {meth : Method} {c : Code} {E : zE} {d : Nat} {Q : zQ} (hd1 : 1 ≤ d) (B : zB p s m args c E mX11_add.1.cls mX11_add.2.1 mX11_add.2.2.1) (hr : meth.sig.returnType = mX11_add.2.2.2) (hlk : meth.locks = false) : zLk (zG p l e (zrm d) s m args below meth c E mX11_add.2.2.1 0 0 (MQ below (zQc E Q) args s 0 0 (zaA E))) 78 (b_X11_add_78 d (zG p l e (zrm d) s m args below meth c E mX11_add.2.2.1 0 0 (MQ below (zQc E Q) args s 0 0 (zaA E))) Q) := by
  unfold b_X11_add_78
  exact lk_is B dX11_add_78 (by decide) (lk_il B dX11_add_80 (lk_zne B dX11_add_82 (by decide) (k_X11_add_100 hd1 B hr hlk) (k_X11_add_85 hd1 B hr hlk)))
set_option maxRecDepth 20000 in
theorem k_X11_add_130 {p : Program} {l : Launch} {e : Env} {s : State} {m : MethodId} {args : Array Value} {below : List Frame} {meth : Method} {c : Code} {E : zE} {d : Nat} {Q : zQ} (hd1 : 1 ≤ d) (B : zB p s m args c E mX11_add.1.cls mX11_add.2.1 mX11_add.2.2.1) (hr : meth.sig.returnType = mX11_add.2.2.2) (hlk : meth.locks = false) : zLk (zG p l e (zrm d) s m args below meth c E mX11_add.2.2.1 0 0 (MQ below (zQc E Q) args s 0 0 (zaA E))) 130 (b_X11_add_130 d (zG p l e (zrm d) s m args below meth c E mX11_add.2.2.1 0 0 (MQ below (zQc E Q) args s 0 0 (zaA E))) Q) := by
  unfold b_X11_add_130
  exact lk_aln B dX11_add_130 rfl (lk_aln B dX11_add_131 rfl (lk_gf (T := TX11) B cl_X11 (by decide) in_X11 zw_807 dX11_add_132 (lk_il B dX11_add_135 (lk_iald B dX11_add_137 (lk_callv (M := mX11_push) (T := TX11) (N := 41) B (zhR hd1 (by decide)) ⟨Nat.zero_le _, Nat.zero_le _⟩ cl_X11 (zw5 zw_941 zw_938 zw_940 zw_16 zw_58) (by decide +kernel) dX11_add_138 (lk_inc B dX11_add_141 (by decide) (lk_goto B dX11_add_144 (by decide) (fun _ _ _ h => h))))))))
set_option maxRecDepth 20000 in
theorem k_X11_add_121 {p : Program} {l : Launch} {e : Env} {s : State} {m : MethodId} {args : Array Value} {below : List Frame} {meth : Method} {c : Code} {E : zE} {d : Nat} {Q : zQ} (hd1 : 1 ≤ d) (B : zB p s m args c E mX11_add.1.cls mX11_add.2.1 mX11_add.2.2.1) (hr : meth.sig.returnType = mX11_add.2.2.2) (hlk : meth.locks = false) : zLk (zG p l e (zrm d) s m args below meth c E mX11_add.2.2.1 0 0 (MQ below (zQc E Q) args s 0 0 (zaA E))) 121 (b_X11_add_121 d (zG p l e (zrm d) s m args below meth c E mX11_add.2.2.1 0 0 (MQ below (zQc E Q) args s 0 0 (zaA E))) Q) := by
  unfold b_X11_add_121
  exact lk_il B dX11_add_121 (lk_aln B dX11_add_123 rfl (lk_gf (T := TX11) B cl_X11 (by decide) in_X11 zw_806 dX11_add_124 (lk_ige B dX11_add_127 (by decide) (fun _ _ _ h => h) (k_X11_add_130 hd1 B hr hlk))))
set_option maxRecDepth 20000 in
theorem k_X11_add_114 {p : Program} {l : Launch} {e : Env} {s : State} {m : MethodId} {args : Array Value} {below : List Frame} {meth : Method} {c : Code} {E : zE} {d : Nat} {Q : zQ} (hd1 : 1 ≤ d) (B : zB p s m args c E mX11_add.1.cls mX11_add.2.1 mX11_add.2.2.1) (hr : meth.sig.returnType = mX11_add.2.2.2) (hlk : meth.locks = false) : zLk (zG p l e (zrm d) s m args below meth c E mX11_add.2.2.1 0 0 (MQ below (zQc E Q) args s 0 0 (zaA E))) 114 (b_X11_add_114 d (zG p l e (zrm d) s m args below meth c E mX11_add.2.2.1 0 0 (MQ below (zQc E Q) args s 0 0 (zaA E))) Q) := by
  unfold b_X11_add_114
  exact lk_il B dX11_add_114 (lk_il B dX11_add_116 (lk_igt B dX11_add_118 (by decide) (fun _ _ _ h => h) (k_X11_add_121 hd1 B hr hlk)))
set_option maxRecDepth 20000 in
theorem k_X11_add_147 {p : Program} {l : Launch} {e : Env} {s : State} {m : MethodId} {args : Array Value} {below : List Frame} {meth : Method} {c : Code} {E : zE} {d : Nat} {Q : zQ} (hd1 : 1 ≤ d) (B : zB p s m args c E mX11_add.1.cls mX11_add.2.1 mX11_add.2.2.1) (hr : meth.sig.returnType = mX11_add.2.2.2) (hlk : meth.locks = false) : zLk (zG p l e (zrm d) s m args below meth c E mX11_add.2.2.1 0 0 (MQ below (zQc E Q) args s 0 0 (zaA E))) 147 (b_X11_add_147 d (zG p l e (zrm d) s m args below meth c E mX11_add.2.2.1 0 0 (MQ below (zQc E Q) args s 0 0 (zaA E))) Q) := by
  unfold b_X11_add_147
  exact lk_aln B dX11_add_147 rfl (lk_gf (T := TX11) B cl_X11 (by decide) in_X11 zw_826 dX11_add_148 (lk_il B dX11_add_151 (lk_aln B dX11_add_153 rfl (lk_iln B dX11_add_154 rfl (lk_callv (M := mX11_stage) (T := TX11) (N := 41) B (zhR hd1 (by decide)) ⟨Nat.zero_le _, Nat.zero_le _⟩ cl_X11 (zw5 zw_1011 zw_1008 zw_1010 zw_31 zw_58) (by decide +kernel) dX11_add_155 (lk_iast B dX11_add_158 (lk_aln B dX11_add_159 rfl (lk_gf (T := TX11) B cl_X11 (by decide) in_X11 zw_827 dX11_add_160 (lk_il B dX11_add_163 (lk_aln B dX11_add_165 rfl (lk_gf (T := TX11) B cl_X11 (by decide) in_X11 zw_812 dX11_add_166 (lk_c B dX11_add_169 (lk_sub B dX11_add_170 (lk_iast B dX11_add_171 (lk_inc B dX11_add_172 (by decide) (lk_il B dX11_add_175 (lk_c B dX11_add_177 (lk_add B dX11_add_178 (lk_is B dX11_add_179 (by decide) (k_X11_add_181 hd1 B hr hlk))))))))))))))))))))
set_option maxRecDepth 20000 in
theorem k_X11_add_229 {p : Program} {l : Launch} {e : Env} {s : State} {m : MethodId} {args : Array Value} {below : List Frame} {meth : Method} {c : Code} {E : zE} {d : Nat} {Q : zQ} (hd1 : 1 ≤ d) (B : zB p s m args c E mX11_add.1.cls mX11_add.2.1 mX11_add.2.2.1) (hr : meth.sig.returnType = mX11_add.2.2.2) (hlk : meth.locks = false) : zLk (zG p l e (zrm d) s m args below meth c E mX11_add.2.2.1 0 0 (MQ below (zQc E Q) args s 0 0 (zaA E))) 229 (b_X11_add_229 d (zG p l e (zrm d) s m args below meth c E mX11_add.2.2.1 0 0 (MQ below (zQc E Q) args s 0 0 (zaA E))) Q) := by
  unfold b_X11_add_229
  exact lk_aln B dX11_add_229 rfl (lk_c B dX11_add_230 (lk_pf (T := TX11) B cl_X11 (by decide) in_X11 tyX11_ok nmX11 zw_806 rfl (by decide +kernel) dX11_add_231 (lk_il B dX11_add_234 (lk_iret B hr hlk dX11_add_236))))
set_option maxRecDepth 20000 in
theorem k_X11_add_226 {p : Program} {l : Launch} {e : Env} {s : State} {m : MethodId} {args : Array Value} {below : List Frame} {meth : Method} {c : Code} {E : zE} {d : Nat} {Q : zQ} (hd1 : 1 ≤ d) (B : zB p s m args c E mX11_add.1.cls mX11_add.2.1 mX11_add.2.2.1) (hr : meth.sig.returnType = mX11_add.2.2.2) (hlk : meth.locks = false) : zLk (zG p l e (zrm d) s m args below meth c E mX11_add.2.2.1 0 0 (MQ below (zQc E Q) args s 0 0 (zaA E))) 226 (b_X11_add_226 d (zG p l e (zrm d) s m args below meth c E mX11_add.2.2.1 0 0 (MQ below (zQc E Q) args s 0 0 (zaA E))) Q) := by
  unfold b_X11_add_226
  exact lk_il B dX11_add_226 (lk_iret B hr hlk dX11_add_228)
set_option maxRecDepth 20000 in
theorem k_X11_add_206 {p : Program} {l : Launch} {e : Env} {s : State} {m : MethodId} {args : Array Value} {below : List Frame} {meth : Method} {c : Code} {E : zE} {d : Nat} {Q : zQ} (hd1 : 1 ≤ d) (B : zB p s m args c E mX11_add.1.cls mX11_add.2.1 mX11_add.2.2.1) (hr : meth.sig.returnType = mX11_add.2.2.2) (hlk : meth.locks = false) : zLk (zG p l e (zrm d) s m args below meth c E mX11_add.2.2.1 0 0 (MQ below (zQc E Q) args s 0 0 (zaA E))) 206 (b_X11_add_206 d (zG p l e (zrm d) s m args below meth c E mX11_add.2.2.1 0 0 (MQ below (zQc E Q) args s 0 0 (zaA E))) Q) := by
  unfold b_X11_add_206
  exact lk_aln B dX11_add_206 rfl (lk_gf (T := TX11) B cl_X11 (by decide) in_X11 zw_826 dX11_add_207 (lk_c B dX11_add_210 (lk_iald B dX11_add_211 (lk_is B dX11_add_212 (by decide) (lk_aln B dX11_add_214 rfl (lk_iln B dX11_add_215 rfl (lk_callv (M := mX11_admit) (T := TX11) (N := 41) B (zhR hd1 (by decide)) ⟨Nat.zero_le _, Nat.zero_le _⟩ cl_X11 (zw5 zw_1023 zw_1020 zw_1022 zw_34 zw_58) (by decide +kernel) dX11_add_216 (lk_is B dX11_add_219 (by decide) (lk_il B dX11_add_221 (lk_zge B dX11_add_223 (by decide) (k_X11_add_229 hd1 B hr hlk) (k_X11_add_226 hd1 B hr hlk)))))))))))
set_option maxRecDepth 20000 in
theorem k_X11_add_193 {p : Program} {l : Launch} {e : Env} {s : State} {m : MethodId} {args : Array Value} {below : List Frame} {meth : Method} {c : Code} {E : zE} {d : Nat} {Q : zQ} (hd1 : 1 ≤ d) (B : zB p s m args c E mX11_add.1.cls mX11_add.2.1 mX11_add.2.2.1) (hr : meth.sig.returnType = mX11_add.2.2.2) (hlk : meth.locks = false) : zLk (zG p l e (zrm d) s m args below meth c E mX11_add.2.2.1 0 0 (MQ below (zQc E Q) args s 0 0 (zaA E))) 193 (b_X11_add_193 d (zG p l e (zrm d) s m args below meth c E mX11_add.2.2.1 0 0 (MQ below (zQc E Q) args s 0 0 (zaA E))) Q) := by
  unfold b_X11_add_193
  exact lk_aln B dX11_add_193 rfl (lk_iln B dX11_add_194 rfl (lk_il B dX11_add_195 (lk_iln B dX11_add_197 rfl (lk_callv (M := mX11_raise) (T := TX11) (N := 41) B (zhR hd1 (by decide)) ⟨Nat.zero_le _, Nat.zero_le _⟩ cl_X11 (zw5 zw_1015 zw_1012 zw_1014 zw_32 zw_58) (by decide +kernel) dX11_add_198 (lk_is B dX11_add_201 (by decide) (lk_goto B dX11_add_203 (by decide) (fun _ _ _ h => h)))))))
set_option maxRecDepth 20000 in
theorem k_X11_add_187 {p : Program} {l : Launch} {e : Env} {s : State} {m : MethodId} {args : Array Value} {below : List Frame} {meth : Method} {c : Code} {E : zE} {d : Nat} {Q : zQ} (hd1 : 1 ≤ d) (B : zB p s m args c E mX11_add.1.cls mX11_add.2.1 mX11_add.2.2.1) (hr : meth.sig.returnType = mX11_add.2.2.2) (hlk : meth.locks = false) : zLk (zG p l e (zrm d) s m args below meth c E mX11_add.2.2.1 0 0 (MQ below (zQc E Q) args s 0 0 (zaA E))) 187 (b_X11_add_187 d (zG p l e (zrm d) s m args below meth c E mX11_add.2.2.1 0 0 (MQ below (zQc E Q) args s 0 0 (zaA E))) Q) := by
  unfold b_X11_add_187
  exact lk_il B dX11_add_187 (lk_c B dX11_add_189 (lk_ile B dX11_add_190 (by decide) (k_X11_add_206 hd1 B hr hlk) (k_X11_add_193 hd1 B hr hlk)))
def S_X11_add (d : Nat) (G : Nat → zK) (Q : zQ) : Prop := zLk G 0 (b_X11_add_0 d G Q) ∧ zLk G 48 (b_X11_add_48 d G Q) ∧ zLk G 78 (b_X11_add_78 d G Q) ∧ zLk G 114 (b_X11_add_114 d G Q) ∧ zLk G 147 (b_X11_add_147 d G Q) ∧ zLk G 187 (b_X11_add_187 d G Q)
theorem s_X11_add_0 {d : Nat} {G : Nat → zK} {Q : zQ} (h : S_X11_add d G Q) {ls st : List zV} {μ : zM} (k : b_X11_add_0 d G Q ls st μ) : G 0 ls st μ := h.1 ls st μ k
theorem s_X11_add_48 {d : Nat} {G : Nat → zK} {Q : zQ} (h : S_X11_add d G Q) {ls st : List zV} {μ : zM} (k : b_X11_add_48 d G Q ls st μ) : G 48 ls st μ := h.2.1 ls st μ k
theorem s_X11_add_78 {d : Nat} {G : Nat → zK} {Q : zQ} (h : S_X11_add d G Q) {ls st : List zV} {μ : zM} (k : b_X11_add_78 d G Q ls st μ) : G 78 ls st μ := h.2.2.1 ls st μ k
theorem s_X11_add_114 {d : Nat} {G : Nat → zK} {Q : zQ} (h : S_X11_add d G Q) {ls st : List zV} {μ : zM} (k : b_X11_add_114 d G Q ls st μ) : G 114 ls st μ := h.2.2.2.1 ls st μ k
theorem s_X11_add_147 {d : Nat} {G : Nat → zK} {Q : zQ} (h : S_X11_add d G Q) {ls st : List zV} {μ : zM} (k : b_X11_add_147 d G Q ls st μ) : G 147 ls st μ := h.2.2.2.2.1 ls st μ k
theorem s_X11_add_187 {d : Nat} {G : Nat → zK} {Q : zQ} (h : S_X11_add d G Q) {ls st : List zV} {μ : zM} (k : b_X11_add_187 d G Q ls st μ) : G 187 ls st μ := h.2.2.2.2.2 ls st μ k
theorem of_X11_add {d : Nat} {a0 a1 a2 a3 : zV} {μ : zM} {Q : zQ} (hd1 : 1 ≤ d) (h : ∀ G : Nat → zK, S_X11_add d G Q → G 0 [a0, a1, a2, a3, .inr none, .inr none, .inr none, .inr none, .inr none] [] μ) : zCt d mX11_add [a0, a1, a2, a3] μ Q := zCt.mk (by decide) (Nat.le_of_ble_eq_true rfl) (fun p l e s m args below meth c E B hr hlk => h _ ⟨k_X11_add_0 hd1 B hr hlk, k_X11_add_48 hd1 B hr hlk, k_X11_add_78 hd1 B hr hlk, k_X11_add_114 hd1 B hr hlk, k_X11_add_147 hd1 B hr hlk, k_X11_add_187 hd1 B hr hlk⟩)
theorem dX11_raise_0 : decode cX11_raise 0 = .ok (.iconst 0, 1) := by decide +kernel
theorem dX11_raise_1 : decode cX11_raise 1 = .ok (.istore 4, 2) := by decide +kernel
theorem dX11_raise_3 : decode cX11_raise 3 = .ok (.iconst 0, 1) := by decide +kernel
theorem dX11_raise_4 : decode cX11_raise 4 = .ok (.istore 5, 2) := by decide +kernel
theorem dX11_raise_6 : decode cX11_raise 6 = .ok (.iload 5, 2) := by decide +kernel
theorem dX11_raise_8 : decode cX11_raise 8 = .ok (.iload_n 2, 1) := by decide +kernel
theorem dX11_raise_9 : decode cX11_raise 9 = .ok (.if_icmp .ge 127, 3) := by decide +kernel
theorem dX11_raise_12 : decode cX11_raise 12 = .ok (.iload_n 2, 1) := by decide +kernel
theorem dX11_raise_13 : decode cX11_raise 13 = .ok (.iload 5, 2) := by decide +kernel
theorem dX11_raise_15 : decode cX11_raise 15 = .ok (.isub, 1) := by decide +kernel
theorem dX11_raise_16 : decode cX11_raise 16 = .ok (.iload_n 3, 1) := by decide +kernel
theorem dX11_raise_17 : decode cX11_raise 17 = .ok (.if_icmp .ge 10, 3) := by decide +kernel
theorem dX11_raise_20 : decode cX11_raise 20 = .ok (.iload_n 2, 1) := by decide +kernel
theorem dX11_raise_21 : decode cX11_raise 21 = .ok (.iload 5, 2) := by decide +kernel
theorem dX11_raise_23 : decode cX11_raise 23 = .ok (.isub, 1) := by decide +kernel
theorem dX11_raise_24 : decode cX11_raise 24 = .ok (.goto 4, 3) := by decide +kernel
theorem dX11_raise_27 : decode cX11_raise 27 = .ok (.iload_n 3, 1) := by decide +kernel
theorem dX11_raise_28 : decode cX11_raise 28 = .ok (.istore 6, 2) := by decide +kernel
theorem dX11_raise_30 : decode cX11_raise 30 = .ok (.aload_n 0, 1) := by decide +kernel
theorem dX11_raise_31 : decode cX11_raise 31 = .ok (.iconst 0, 1) := by decide +kernel
theorem dX11_raise_32 : decode cX11_raise 32 = .ok (.putfield 118, 3) := by decide +kernel
theorem dX11_raise_35 : decode cX11_raise 35 = .ok (.aload_n 0, 1) := by decide +kernel
theorem dX11_raise_36 : decode cX11_raise 36 = .ok (.iconst 1, 1) := by decide +kernel
theorem dX11_raise_37 : decode cX11_raise 37 = .ok (.invokevirtual 121, 3) := by decide +kernel
theorem dX11_raise_40 : decode cX11_raise 40 = .ok (.aload_n 0, 1) := by decide +kernel
theorem dX11_raise_41 : decode cX11_raise 41 = .ok (.iload 6, 2) := by decide +kernel
theorem dX11_raise_43 : decode cX11_raise 43 = .ok (.invokevirtual 121, 3) := by decide +kernel
theorem dX11_raise_46 : decode cX11_raise 46 = .ok (.iconst 0, 1) := by decide +kernel
theorem dX11_raise_47 : decode cX11_raise 47 = .ok (.istore 7, 2) := by decide +kernel
theorem dX11_raise_49 : decode cX11_raise 49 = .ok (.iload 5, 2) := by decide +kernel
theorem dX11_raise_51 : decode cX11_raise 51 = .ok (.istore 8, 2) := by decide +kernel
theorem dX11_raise_53 : decode cX11_raise 53 = .ok (.iload 8, 2) := by decide +kernel
theorem dX11_raise_55 : decode cX11_raise 55 = .ok (.iload 5, 2) := by decide +kernel
theorem dX11_raise_57 : decode cX11_raise 57 = .ok (.iload 6, 2) := by decide +kernel
theorem dX11_raise_59 : decode cX11_raise 59 = .ok (.iadd, 1) := by decide +kernel
theorem dX11_raise_60 : decode cX11_raise 60 = .ok (.if_icmp .ge 43, 3) := by decide +kernel
theorem dX11_raise_63 : decode cX11_raise 63 = .ok (.aload_n 0, 1) := by decide +kernel
theorem dX11_raise_64 : decode cX11_raise 64 = .ok (.aload_n 0, 1) := by decide +kernel
theorem dX11_raise_65 : decode cX11_raise 65 = .ok (.getfield 98, 3) := by decide +kernel
theorem dX11_raise_68 : decode cX11_raise 68 = .ok (.iload 8, 2) := by decide +kernel
theorem dX11_raise_70 : decode cX11_raise 70 = .ok (.iaload, 1) := by decide +kernel
theorem dX11_raise_71 : decode cX11_raise 71 = .ok (.invokevirtual 178, 3) := by decide +kernel
theorem dX11_raise_74 : decode cX11_raise 74 = .ok (.aload_n 0, 1) := by decide +kernel
theorem dX11_raise_75 : decode cX11_raise 75 = .ok (.aload_n 0, 1) := by decide +kernel
theorem dX11_raise_76 : decode cX11_raise 76 = .ok (.getfield 95, 3) := by decide +kernel
theorem dX11_raise_79 : decode cX11_raise 79 = .ok (.iload 8, 2) := by decide +kernel
theorem dX11_raise_81 : decode cX11_raise 81 = .ok (.iaload, 1) := by decide +kernel
theorem dX11_raise_82 : decode cX11_raise 82 = .ok (.invokevirtual 178, 3) := by decide +kernel
theorem dX11_raise_85 : decode cX11_raise 85 = .ok (.iload 7, 2) := by decide +kernel
theorem dX11_raise_87 : decode cX11_raise 87 = .ok (.aload_n 0, 1) := by decide +kernel
theorem dX11_raise_88 : decode cX11_raise 88 = .ok (.getfield 98, 3) := by decide +kernel
theorem dX11_raise_91 : decode cX11_raise 91 = .ok (.iload 8, 2) := by decide +kernel
theorem dX11_raise_93 : decode cX11_raise 93 = .ok (.iaload, 1) := by decide +kernel
theorem dX11_raise_94 : decode cX11_raise 94 = .ok (.iadd, 1) := by decide +kernel
theorem dX11_raise_95 : decode cX11_raise 95 = .ok (.istore 7, 2) := by decide +kernel
theorem dX11_raise_97 : decode cX11_raise 97 = .ok (.iinc 8 1, 3) := by decide +kernel
theorem dX11_raise_100 : decode cX11_raise 100 = .ok (.goto (-47), 3) := by decide +kernel
theorem dX11_raise_103 : decode cX11_raise 103 = .ok (.aload_n 0, 1) := by decide +kernel
theorem dX11_raise_104 : decode cX11_raise 104 = .ok (.getfield 95, 3) := by decide +kernel
theorem dX11_raise_107 : decode cX11_raise 107 = .ok (.iload 4, 2) := by decide +kernel
theorem dX11_raise_109 : decode cX11_raise 109 = .ok (.aload_n 0, 1) := by decide +kernel
theorem dX11_raise_110 : decode cX11_raise 110 = .ok (.iload_n 1, 1) := by decide +kernel
theorem dX11_raise_111 : decode cX11_raise 111 = .ok (.invokevirtual 168, 3) := by decide +kernel
theorem dX11_raise_114 : decode cX11_raise 114 = .ok (.iastore, 1) := by decide +kernel
theorem dX11_raise_115 : decode cX11_raise 115 = .ok (.aload_n 0, 1) := by decide +kernel
theorem dX11_raise_116 : decode cX11_raise 116 = .ok (.getfield 98, 3) := by decide +kernel
theorem dX11_raise_119 : decode cX11_raise 119 = .ok (.iload 4, 2) := by decide +kernel
theorem dX11_raise_121 : decode cX11_raise 121 = .ok (.iload 7, 2) := by decide +kernel
theorem dX11_raise_123 : decode cX11_raise 123 = .ok (.iastore, 1) := by decide +kernel
theorem dX11_raise_124 : decode cX11_raise 124 = .ok (.iinc 4 1, 3) := by decide +kernel
theorem dX11_raise_127 : decode cX11_raise 127 = .ok (.iload 5, 2) := by decide +kernel
theorem dX11_raise_129 : decode cX11_raise 129 = .ok (.iload_n 3, 1) := by decide +kernel
theorem dX11_raise_130 : decode cX11_raise 130 = .ok (.iadd, 1) := by decide +kernel
theorem dX11_raise_131 : decode cX11_raise 131 = .ok (.istore 5, 2) := by decide +kernel
theorem dX11_raise_133 : decode cX11_raise 133 = .ok (.goto (-127), 3) := by decide +kernel
theorem dX11_raise_136 : decode cX11_raise 136 = .ok (.iload 4, 2) := by decide +kernel
theorem dX11_raise_138 : decode cX11_raise 138 = .ok (.ireturn, 1) := by decide +kernel
def b_X11_raise_0 (d : Nat) (G : Nat → zK) (Q : zQ) : zK := o_c 0 <| o_is 4 <| o_c 0 <| o_is 5 <| G 6
def b_X11_raise_136 (d : Nat) (G : Nat → zK) (Q : zQ) : zK := o_il 4 <| t_iret Q
def b_X11_raise_28 (d : Nat) (G : Nat → zK) (Q : zQ) : zK := o_is 6 <| o_al 0 <| o_c 0 <| o_pf 9 24 <| o_al 0 <| o_c 1 <| o_callv (zCt (d - 1) mX11_push) 9 2 <| o_al 0 <| o_il 6 <| o_callv (zCt (d - 1) mX11_push) 9 2 <| o_c 0 <| o_is 7 <| o_il 5 <| o_is 8 <| G 53
def b_X11_raise_27 (d : Nat) (G : Nat → zK) (Q : zQ) : zK := o_il 3 <| b_X11_raise_28 d G Q
def b_X11_raise_20 (d : Nat) (G : Nat → zK) (Q : zQ) : zK := o_il 2 <| o_il 5 <| o_sub <| b_X11_raise_28 d G Q
def b_X11_raise_12 (d : Nat) (G : Nat → zK) (Q : zQ) : zK := o_il 2 <| o_il 5 <| o_sub <| o_il 3 <| t_ilt (b_X11_raise_20 d G Q) (b_X11_raise_27 d G Q)
def b_X11_raise_6 (d : Nat) (G : Nat → zK) (Q : zQ) : zK := o_il 5 <| o_il 2 <| t_ilt (b_X11_raise_12 d G Q) (b_X11_raise_136 d G Q)
def b_X11_raise_103 (d : Nat) (G : Nat → zK) (Q : zQ) : zK := o_al 0 <| o_gf 9 38 <| o_il 4 <| o_al 0 <| o_il 1 <| o_callv (zCt (d - 1) mX11_stage) 9 2 <| o_iast <| o_al 0 <| o_gf 9 39 <| o_il 4 <| o_il 7 <| o_iast <| o_inc 4 1 <| o_il 5 <| o_il 3 <| o_add <| o_is 5 <| G 6
def b_X11_raise_63 (d : Nat) (G : Nat → zK) (Q : zQ) : zK := o_al 0 <| o_al 0 <| o_gf 9 39 <| o_il 8 <| o_iald <| o_callv (zCt (d - 1) mX11_addTwo) 9 2 <| o_al 0 <| o_al 0 <| o_gf 9 38 <| o_il 8 <| o_iald <| o_callv (zCt (d - 1) mX11_addTwo) 9 2 <| o_il 7 <| o_al 0 <| o_gf 9 39 <| o_il 8 <| o_iald <| o_add <| o_is 7 <| o_inc 8 1 <| G 53
def b_X11_raise_53 (d : Nat) (G : Nat → zK) (Q : zQ) : zK := o_il 8 <| o_il 5 <| o_il 6 <| o_add <| t_ilt (b_X11_raise_63 d G Q) (b_X11_raise_103 d G Q)
set_option maxRecDepth 20000 in
theorem k_X11_raise_0 {p : Program} {l : Launch} {e : Env} {s : State} {m : MethodId} {args : Array Value} {below : List Frame} {meth : Method} {c : Code} {E : zE} {d : Nat} {Q : zQ} (hd1 : 1 ≤ d) (B : zB p s m args c E mX11_raise.1.cls mX11_raise.2.1 mX11_raise.2.2.1) (hr : meth.sig.returnType = mX11_raise.2.2.2) (hlk : meth.locks = false) : zLk (zG p l e (zrm d) s m args below meth c E mX11_raise.2.2.1 0 0 (MQ below (zQc E Q) args s 0 0 (zaA E))) 0 (b_X11_raise_0 d (zG p l e (zrm d) s m args below meth c E mX11_raise.2.2.1 0 0 (MQ below (zQc E Q) args s 0 0 (zaA E))) Q) := by
  unfold b_X11_raise_0
  exact lk_c B dX11_raise_0 (lk_is B dX11_raise_1 (by decide) (lk_c B dX11_raise_3 (lk_is B dX11_raise_4 (by decide) (fun _ _ _ h => h))))
set_option maxRecDepth 20000 in
theorem k_X11_raise_136 {p : Program} {l : Launch} {e : Env} {s : State} {m : MethodId} {args : Array Value} {below : List Frame} {meth : Method} {c : Code} {E : zE} {d : Nat} {Q : zQ} (hd1 : 1 ≤ d) (B : zB p s m args c E mX11_raise.1.cls mX11_raise.2.1 mX11_raise.2.2.1) (hr : meth.sig.returnType = mX11_raise.2.2.2) (hlk : meth.locks = false) : zLk (zG p l e (zrm d) s m args below meth c E mX11_raise.2.2.1 0 0 (MQ below (zQc E Q) args s 0 0 (zaA E))) 136 (b_X11_raise_136 d (zG p l e (zrm d) s m args below meth c E mX11_raise.2.2.1 0 0 (MQ below (zQc E Q) args s 0 0 (zaA E))) Q) := by
  unfold b_X11_raise_136
  exact lk_il B dX11_raise_136 (lk_iret B hr hlk dX11_raise_138)
set_option maxRecDepth 20000 in
theorem k_X11_raise_28 {p : Program} {l : Launch} {e : Env} {s : State} {m : MethodId} {args : Array Value} {below : List Frame} {meth : Method} {c : Code} {E : zE} {d : Nat} {Q : zQ} (hd1 : 1 ≤ d) (B : zB p s m args c E mX11_raise.1.cls mX11_raise.2.1 mX11_raise.2.2.1) (hr : meth.sig.returnType = mX11_raise.2.2.2) (hlk : meth.locks = false) : zLk (zG p l e (zrm d) s m args below meth c E mX11_raise.2.2.1 0 0 (MQ below (zQc E Q) args s 0 0 (zaA E))) 28 (b_X11_raise_28 d (zG p l e (zrm d) s m args below meth c E mX11_raise.2.2.1 0 0 (MQ below (zQc E Q) args s 0 0 (zaA E))) Q) := by
  unfold b_X11_raise_28
  exact lk_is B dX11_raise_28 (by decide) (lk_aln B dX11_raise_30 rfl (lk_c B dX11_raise_31 (lk_pf (T := TX11) B cl_X11 (by decide) in_X11 tyX11_ok nmX11 zw_812 rfl (by decide +kernel) dX11_raise_32 (lk_aln B dX11_raise_35 rfl (lk_c B dX11_raise_36 (lk_callv (M := mX11_push) (T := TX11) (N := 41) B (zhR hd1 (by decide)) ⟨Nat.zero_le _, Nat.zero_le _⟩ cl_X11 (zw5 zw_941 zw_938 zw_940 zw_16 zw_58) (by decide +kernel) dX11_raise_37 (lk_aln B dX11_raise_40 rfl (lk_il B dX11_raise_41 (lk_callv (M := mX11_push) (T := TX11) (N := 41) B (zhR hd1 (by decide)) ⟨Nat.zero_le _, Nat.zero_le _⟩ cl_X11 (zw5 zw_941 zw_938 zw_940 zw_16 zw_58) (by decide +kernel) dX11_raise_43 (lk_c B dX11_raise_46 (lk_is B dX11_raise_47 (by decide) (lk_il B dX11_raise_49 (lk_is B dX11_raise_51 (by decide) (fun _ _ _ h => h))))))))))))))
set_option maxRecDepth 20000 in
theorem k_X11_raise_27 {p : Program} {l : Launch} {e : Env} {s : State} {m : MethodId} {args : Array Value} {below : List Frame} {meth : Method} {c : Code} {E : zE} {d : Nat} {Q : zQ} (hd1 : 1 ≤ d) (B : zB p s m args c E mX11_raise.1.cls mX11_raise.2.1 mX11_raise.2.2.1) (hr : meth.sig.returnType = mX11_raise.2.2.2) (hlk : meth.locks = false) : zLk (zG p l e (zrm d) s m args below meth c E mX11_raise.2.2.1 0 0 (MQ below (zQc E Q) args s 0 0 (zaA E))) 27 (b_X11_raise_27 d (zG p l e (zrm d) s m args below meth c E mX11_raise.2.2.1 0 0 (MQ below (zQc E Q) args s 0 0 (zaA E))) Q) := by
  unfold b_X11_raise_27
  exact lk_iln B dX11_raise_27 rfl (k_X11_raise_28 hd1 B hr hlk)
set_option maxRecDepth 20000 in
theorem k_X11_raise_20 {p : Program} {l : Launch} {e : Env} {s : State} {m : MethodId} {args : Array Value} {below : List Frame} {meth : Method} {c : Code} {E : zE} {d : Nat} {Q : zQ} (hd1 : 1 ≤ d) (B : zB p s m args c E mX11_raise.1.cls mX11_raise.2.1 mX11_raise.2.2.1) (hr : meth.sig.returnType = mX11_raise.2.2.2) (hlk : meth.locks = false) : zLk (zG p l e (zrm d) s m args below meth c E mX11_raise.2.2.1 0 0 (MQ below (zQc E Q) args s 0 0 (zaA E))) 20 (b_X11_raise_20 d (zG p l e (zrm d) s m args below meth c E mX11_raise.2.2.1 0 0 (MQ below (zQc E Q) args s 0 0 (zaA E))) Q) := by
  unfold b_X11_raise_20
  exact lk_iln B dX11_raise_20 rfl (lk_il B dX11_raise_21 (lk_sub B dX11_raise_23 (lk_goto B dX11_raise_24 (by decide) (k_X11_raise_28 hd1 B hr hlk))))
set_option maxRecDepth 20000 in
theorem k_X11_raise_12 {p : Program} {l : Launch} {e : Env} {s : State} {m : MethodId} {args : Array Value} {below : List Frame} {meth : Method} {c : Code} {E : zE} {d : Nat} {Q : zQ} (hd1 : 1 ≤ d) (B : zB p s m args c E mX11_raise.1.cls mX11_raise.2.1 mX11_raise.2.2.1) (hr : meth.sig.returnType = mX11_raise.2.2.2) (hlk : meth.locks = false) : zLk (zG p l e (zrm d) s m args below meth c E mX11_raise.2.2.1 0 0 (MQ below (zQc E Q) args s 0 0 (zaA E))) 12 (b_X11_raise_12 d (zG p l e (zrm d) s m args below meth c E mX11_raise.2.2.1 0 0 (MQ below (zQc E Q) args s 0 0 (zaA E))) Q) := by
  unfold b_X11_raise_12
  exact lk_iln B dX11_raise_12 rfl (lk_il B dX11_raise_13 (lk_sub B dX11_raise_15 (lk_iln B dX11_raise_16 rfl (lk_ige B dX11_raise_17 (by decide) (k_X11_raise_27 hd1 B hr hlk) (k_X11_raise_20 hd1 B hr hlk)))))
set_option maxRecDepth 20000 in
theorem k_X11_raise_6 {p : Program} {l : Launch} {e : Env} {s : State} {m : MethodId} {args : Array Value} {below : List Frame} {meth : Method} {c : Code} {E : zE} {d : Nat} {Q : zQ} (hd1 : 1 ≤ d) (B : zB p s m args c E mX11_raise.1.cls mX11_raise.2.1 mX11_raise.2.2.1) (hr : meth.sig.returnType = mX11_raise.2.2.2) (hlk : meth.locks = false) : zLk (zG p l e (zrm d) s m args below meth c E mX11_raise.2.2.1 0 0 (MQ below (zQc E Q) args s 0 0 (zaA E))) 6 (b_X11_raise_6 d (zG p l e (zrm d) s m args below meth c E mX11_raise.2.2.1 0 0 (MQ below (zQc E Q) args s 0 0 (zaA E))) Q) := by
  unfold b_X11_raise_6
  exact lk_il B dX11_raise_6 (lk_iln B dX11_raise_8 rfl (lk_ige B dX11_raise_9 (by decide) (k_X11_raise_136 hd1 B hr hlk) (k_X11_raise_12 hd1 B hr hlk)))
set_option maxRecDepth 20000 in
theorem k_X11_raise_103 {p : Program} {l : Launch} {e : Env} {s : State} {m : MethodId} {args : Array Value} {below : List Frame} {meth : Method} {c : Code} {E : zE} {d : Nat} {Q : zQ} (hd1 : 1 ≤ d) (B : zB p s m args c E mX11_raise.1.cls mX11_raise.2.1 mX11_raise.2.2.1) (hr : meth.sig.returnType = mX11_raise.2.2.2) (hlk : meth.locks = false) : zLk (zG p l e (zrm d) s m args below meth c E mX11_raise.2.2.1 0 0 (MQ below (zQc E Q) args s 0 0 (zaA E))) 103 (b_X11_raise_103 d (zG p l e (zrm d) s m args below meth c E mX11_raise.2.2.1 0 0 (MQ below (zQc E Q) args s 0 0 (zaA E))) Q) := by
  unfold b_X11_raise_103
  exact lk_aln B dX11_raise_103 rfl (lk_gf (T := TX11) B cl_X11 (by decide) in_X11 zw_826 dX11_raise_104 (lk_il B dX11_raise_107 (lk_aln B dX11_raise_109 rfl (lk_iln B dX11_raise_110 rfl (lk_callv (M := mX11_stage) (T := TX11) (N := 41) B (zhR hd1 (by decide)) ⟨Nat.zero_le _, Nat.zero_le _⟩ cl_X11 (zw5 zw_1011 zw_1008 zw_1010 zw_31 zw_58) (by decide +kernel) dX11_raise_111 (lk_iast B dX11_raise_114 (lk_aln B dX11_raise_115 rfl (lk_gf (T := TX11) B cl_X11 (by decide) in_X11 zw_827 dX11_raise_116 (lk_il B dX11_raise_119 (lk_il B dX11_raise_121 (lk_iast B dX11_raise_123 (lk_inc B dX11_raise_124 (by decide) (lk_il B dX11_raise_127 (lk_iln B dX11_raise_129 rfl (lk_add B dX11_raise_130 (lk_is B dX11_raise_131 (by decide) (lk_goto B dX11_raise_133 (by decide) (fun _ _ _ h => h))))))))))))))))))
set_option maxRecDepth 20000 in
theorem k_X11_raise_63 {p : Program} {l : Launch} {e : Env} {s : State} {m : MethodId} {args : Array Value} {below : List Frame} {meth : Method} {c : Code} {E : zE} {d : Nat} {Q : zQ} (hd1 : 1 ≤ d) (B : zB p s m args c E mX11_raise.1.cls mX11_raise.2.1 mX11_raise.2.2.1) (hr : meth.sig.returnType = mX11_raise.2.2.2) (hlk : meth.locks = false) : zLk (zG p l e (zrm d) s m args below meth c E mX11_raise.2.2.1 0 0 (MQ below (zQc E Q) args s 0 0 (zaA E))) 63 (b_X11_raise_63 d (zG p l e (zrm d) s m args below meth c E mX11_raise.2.2.1 0 0 (MQ below (zQc E Q) args s 0 0 (zaA E))) Q) := by
  unfold b_X11_raise_63
  exact lk_aln B dX11_raise_63 rfl (lk_aln B dX11_raise_64 rfl (lk_gf (T := TX11) B cl_X11 (by decide) in_X11 zw_827 dX11_raise_65 (lk_il B dX11_raise_68 (lk_iald B dX11_raise_70 (lk_callv (M := mX11_addTwo) (T := TX11) (N := 41) B (zhR hd1 (by decide)) ⟨Nat.zero_le _, Nat.zero_le _⟩ cl_X11 (zw5 zw_1019 zw_1016 zw_1018 zw_33 zw_58) (by decide +kernel) dX11_raise_71 (lk_aln B dX11_raise_74 rfl (lk_aln B dX11_raise_75 rfl (lk_gf (T := TX11) B cl_X11 (by decide) in_X11 zw_826 dX11_raise_76 (lk_il B dX11_raise_79 (lk_iald B dX11_raise_81 (lk_callv (M := mX11_addTwo) (T := TX11) (N := 41) B (zhR hd1 (by decide)) ⟨Nat.zero_le _, Nat.zero_le _⟩ cl_X11 (zw5 zw_1019 zw_1016 zw_1018 zw_33 zw_58) (by decide +kernel) dX11_raise_82 (lk_il B dX11_raise_85 (lk_aln B dX11_raise_87 rfl (lk_gf (T := TX11) B cl_X11 (by decide) in_X11 zw_827 dX11_raise_88 (lk_il B dX11_raise_91 (lk_iald B dX11_raise_93 (lk_add B dX11_raise_94 (lk_is B dX11_raise_95 (by decide) (lk_inc B dX11_raise_97 (by decide) (lk_goto B dX11_raise_100 (by decide) (fun _ _ _ h => h)))))))))))))))))))))
set_option maxRecDepth 20000 in
theorem k_X11_raise_53 {p : Program} {l : Launch} {e : Env} {s : State} {m : MethodId} {args : Array Value} {below : List Frame} {meth : Method} {c : Code} {E : zE} {d : Nat} {Q : zQ} (hd1 : 1 ≤ d) (B : zB p s m args c E mX11_raise.1.cls mX11_raise.2.1 mX11_raise.2.2.1) (hr : meth.sig.returnType = mX11_raise.2.2.2) (hlk : meth.locks = false) : zLk (zG p l e (zrm d) s m args below meth c E mX11_raise.2.2.1 0 0 (MQ below (zQc E Q) args s 0 0 (zaA E))) 53 (b_X11_raise_53 d (zG p l e (zrm d) s m args below meth c E mX11_raise.2.2.1 0 0 (MQ below (zQc E Q) args s 0 0 (zaA E))) Q) := by
  unfold b_X11_raise_53
  exact lk_il B dX11_raise_53 (lk_il B dX11_raise_55 (lk_il B dX11_raise_57 (lk_add B dX11_raise_59 (lk_ige B dX11_raise_60 (by decide) (k_X11_raise_103 hd1 B hr hlk) (k_X11_raise_63 hd1 B hr hlk)))))
def S_X11_raise (d : Nat) (G : Nat → zK) (Q : zQ) : Prop := zLk G 0 (b_X11_raise_0 d G Q) ∧ zLk G 6 (b_X11_raise_6 d G Q) ∧ zLk G 53 (b_X11_raise_53 d G Q)
theorem s_X11_raise_0 {d : Nat} {G : Nat → zK} {Q : zQ} (h : S_X11_raise d G Q) {ls st : List zV} {μ : zM} (k : b_X11_raise_0 d G Q ls st μ) : G 0 ls st μ := h.1 ls st μ k
theorem s_X11_raise_6 {d : Nat} {G : Nat → zK} {Q : zQ} (h : S_X11_raise d G Q) {ls st : List zV} {μ : zM} (k : b_X11_raise_6 d G Q ls st μ) : G 6 ls st μ := h.2.1 ls st μ k
theorem s_X11_raise_53 {d : Nat} {G : Nat → zK} {Q : zQ} (h : S_X11_raise d G Q) {ls st : List zV} {μ : zM} (k : b_X11_raise_53 d G Q ls st μ) : G 53 ls st μ := h.2.2 ls st μ k
theorem of_X11_raise {d : Nat} {a0 a1 a2 a3 : zV} {μ : zM} {Q : zQ} (hd1 : 1 ≤ d) (h : ∀ G : Nat → zK, S_X11_raise d G Q → G 0 [a0, a1, a2, a3, .inr none, .inr none, .inr none, .inr none, .inr none] [] μ) : zCt d mX11_raise [a0, a1, a2, a3] μ Q := zCt.mk (by decide) (Nat.le_of_ble_eq_true rfl) (fun p l e s m args below meth c E B hr hlk => h _ ⟨k_X11_raise_0 hd1 B hr hlk, k_X11_raise_6 hd1 B hr hlk, k_X11_raise_53 hd1 B hr hlk⟩)
theorem dX11_hash_0 : decode cX11_hash 0 = .ok (.bipush 37, 2) := by decide +kernel
theorem dX11_hash_2 : decode cX11_hash 2 = .ok (.iload_n 0, 1) := by decide +kernel
theorem dX11_hash_3 : decode cX11_hash 3 = .ok (.imul, 1) := by decide +kernel
theorem dX11_hash_4 : decode cX11_hash 4 = .ok (.sipush 255, 3) := by decide +kernel
theorem dX11_hash_7 : decode cX11_hash 7 = .ok (.iand, 1) := by decide +kernel
theorem dX11_hash_8 : decode cX11_hash 8 = .ok (.ireturn, 1) := by decide +kernel
def b_X11_hash_0 (d : Nat) (G : Nat → zK) (Q : zQ) : zK := o_c 37 <| o_il 0 <| o_mul <| o_c 255 <| o_and <| t_iret Q
set_option maxRecDepth 20000 in
theorem k_X11_hash_0 {p : Program} {l : Launch} {e : Env} {s : State} {m : MethodId} {args : Array Value} {below : List Frame} {meth : Method} {c : Code} {E : zE} {d : Nat} {Q : zQ} (B : zB p s m args c E mX11_hash.1.cls mX11_hash.2.1 mX11_hash.2.2.1) (hr : meth.sig.returnType = mX11_hash.2.2.2) (hlk : meth.locks = false) : zLk (zG p l e (zrm d) s m args below meth c E mX11_hash.2.2.1 0 0 (MQ below (zQc E Q) args s 0 0 (zaA E))) 0 (b_X11_hash_0 d (zG p l e (zrm d) s m args below meth c E mX11_hash.2.2.1 0 0 (MQ below (zQc E Q) args s 0 0 (zaA E))) Q) := by
  unfold b_X11_hash_0
  exact lk_b B dX11_hash_0 rfl (lk_iln B dX11_hash_2 rfl (lk_mul B dX11_hash_3 (lk_s B dX11_hash_4 rfl (lk_and B dX11_hash_7 (lk_iret B hr hlk dX11_hash_8)))))
def S_X11_hash (d : Nat) (G : Nat → zK) (Q : zQ) : Prop := zLk G 0 (b_X11_hash_0 d G Q)
theorem s_X11_hash_0 {d : Nat} {G : Nat → zK} {Q : zQ} (h : S_X11_hash d G Q) {ls st : List zV} {μ : zM} (k : b_X11_hash_0 d G Q ls st μ) : G 0 ls st μ := h ls st μ k
theorem of_X11_hash {d : Nat} {a0 : zV} {μ : zM} {Q : zQ} (h : ∀ G : Nat → zK, S_X11_hash d G Q → G 0 [a0] [] μ) : zCt d mX11_hash [a0] μ Q := zCt.mk (by decide) (Nat.le_of_ble_eq_true rfl) (fun p l e s m args below meth c E B hr hlk => h _ (k_X11_hash_0 B hr hlk))
theorem dX11_countOf_0 : decode cX11_countOf 0 = .ok (.iconst 0, 1) := by decide +kernel
theorem dX11_countOf_1 : decode cX11_countOf 1 = .ok (.istore_n 3, 1) := by decide +kernel
theorem dX11_countOf_2 : decode cX11_countOf 2 = .ok (.iconst 0, 1) := by decide +kernel
theorem dX11_countOf_3 : decode cX11_countOf 3 = .ok (.istore 4, 2) := by decide +kernel
theorem dX11_countOf_5 : decode cX11_countOf 5 = .ok (.iload 4, 2) := by decide +kernel
theorem dX11_countOf_7 : decode cX11_countOf 7 = .ok (.aload_n 0, 1) := by decide +kernel
theorem dX11_countOf_8 : decode cX11_countOf 8 = .ok (.getfield 108, 3) := by decide +kernel
theorem dX11_countOf_11 : decode cX11_countOf 11 = .ok (.if_icmp .ge 39, 3) := by decide +kernel
theorem dX11_countOf_14 : decode cX11_countOf 14 = .ok (.iload_n 3, 1) := by decide +kernel
theorem dX11_countOf_15 : decode cX11_countOf 15 = .ok (.aload_n 0, 1) := by decide +kernel
theorem dX11_countOf_16 : decode cX11_countOf 16 = .ok (.getfield 65, 3) := by decide +kernel
theorem dX11_countOf_19 : decode cX11_countOf 19 = .ok (.iload 4, 2) := by decide +kernel
theorem dX11_countOf_21 : decode cX11_countOf 21 = .ok (.iaload, 1) := by decide +kernel
theorem dX11_countOf_22 : decode cX11_countOf 22 = .ok (.invokestatic 181, 3) := by decide +kernel
theorem dX11_countOf_25 : decode cX11_countOf 25 = .ok (.iconst 1, 1) := by decide +kernel
theorem dX11_countOf_26 : decode cX11_countOf 26 = .ok (.iconst 2, 1) := by decide +kernel
theorem dX11_countOf_27 : decode cX11_countOf 27 = .ok (.iload_n 1, 1) := by decide +kernel
theorem dX11_countOf_28 : decode cX11_countOf 28 = .ok (.imul, 1) := by decide +kernel
theorem dX11_countOf_29 : decode cX11_countOf 29 = .ok (.ishl, 1) := by decide +kernel
theorem dX11_countOf_30 : decode cX11_countOf 30 = .ok (.iconst 1, 1) := by decide +kernel
theorem dX11_countOf_31 : decode cX11_countOf 31 = .ok (.isub, 1) := by decide +kernel
theorem dX11_countOf_32 : decode cX11_countOf 32 = .ok (.iand, 1) := by decide +kernel
theorem dX11_countOf_33 : decode cX11_countOf 33 = .ok (.iload_n 2, 1) := by decide +kernel
theorem dX11_countOf_34 : decode cX11_countOf 34 = .ok (.if_icmp .ne 7, 3) := by decide +kernel
theorem dX11_countOf_37 : decode cX11_countOf 37 = .ok (.iconst 1, 1) := by decide +kernel
theorem dX11_countOf_38 : decode cX11_countOf 38 = .ok (.goto 4, 3) := by decide +kernel
theorem dX11_countOf_41 : decode cX11_countOf 41 = .ok (.iconst 0, 1) := by decide +kernel
theorem dX11_countOf_42 : decode cX11_countOf 42 = .ok (.iadd, 1) := by decide +kernel
theorem dX11_countOf_43 : decode cX11_countOf 43 = .ok (.istore_n 3, 1) := by decide +kernel
theorem dX11_countOf_44 : decode cX11_countOf 44 = .ok (.iinc 4 1, 3) := by decide +kernel
theorem dX11_countOf_47 : decode cX11_countOf 47 = .ok (.goto (-42), 3) := by decide +kernel
theorem dX11_countOf_50 : decode cX11_countOf 50 = .ok (.iload_n 3, 1) := by decide +kernel
theorem dX11_countOf_51 : decode cX11_countOf 51 = .ok (.ireturn, 1) := by decide +kernel
def b_X11_countOf_0 (d : Nat) (G : Nat → zK) (Q : zQ) : zK := o_c 0 <| o_is 3 <| o_c 0 <| o_is 4 <| G 5
def b_X11_countOf_50 (d : Nat) (G : Nat → zK) (Q : zQ) : zK := o_il 3 <| t_iret Q
def b_X11_countOf_42 (d : Nat) (G : Nat → zK) (Q : zQ) : zK := o_add <| o_is 3 <| o_inc 4 1 <| G 5
def b_X11_countOf_41 (d : Nat) (G : Nat → zK) (Q : zQ) : zK := o_c 0 <| b_X11_countOf_42 d G Q
def b_X11_countOf_37 (d : Nat) (G : Nat → zK) (Q : zQ) : zK := o_c 1 <| b_X11_countOf_42 d G Q
def b_X11_countOf_14 (d : Nat) (G : Nat → zK) (Q : zQ) : zK := o_il 3 <| o_al 0 <| o_gf 9 21 <| o_il 4 <| o_iald <| o_call (zCt (d - 1) mX11_hash) 1 <| o_c 1 <| o_c 2 <| o_il 1 <| o_mul <| o_shl <| o_c 1 <| o_sub <| o_and <| o_il 2 <| t_ieq (b_X11_countOf_37 d G Q) (b_X11_countOf_41 d G Q)
def b_X11_countOf_5 (d : Nat) (G : Nat → zK) (Q : zQ) : zK := o_il 4 <| o_al 0 <| o_gf 9 20 <| t_ilt (b_X11_countOf_14 d G Q) (b_X11_countOf_50 d G Q)
set_option maxRecDepth 20000 in
theorem k_X11_countOf_0 {p : Program} {l : Launch} {e : Env} {s : State} {m : MethodId} {args : Array Value} {below : List Frame} {meth : Method} {c : Code} {E : zE} {d : Nat} {Q : zQ} (hd1 : 1 ≤ d) (B : zB p s m args c E mX11_countOf.1.cls mX11_countOf.2.1 mX11_countOf.2.2.1) (hr : meth.sig.returnType = mX11_countOf.2.2.2) (hlk : meth.locks = false) : zLk (zG p l e (zrm d) s m args below meth c E mX11_countOf.2.2.1 0 0 (MQ below (zQc E Q) args s 0 0 (zaA E))) 0 (b_X11_countOf_0 d (zG p l e (zrm d) s m args below meth c E mX11_countOf.2.2.1 0 0 (MQ below (zQc E Q) args s 0 0 (zaA E))) Q) := by
  unfold b_X11_countOf_0
  exact lk_c B dX11_countOf_0 (lk_isn B dX11_countOf_1 rfl (by decide) (lk_c B dX11_countOf_2 (lk_is B dX11_countOf_3 (by decide) (fun _ _ _ h => h))))
set_option maxRecDepth 20000 in
theorem k_X11_countOf_50 {p : Program} {l : Launch} {e : Env} {s : State} {m : MethodId} {args : Array Value} {below : List Frame} {meth : Method} {c : Code} {E : zE} {d : Nat} {Q : zQ} (hd1 : 1 ≤ d) (B : zB p s m args c E mX11_countOf.1.cls mX11_countOf.2.1 mX11_countOf.2.2.1) (hr : meth.sig.returnType = mX11_countOf.2.2.2) (hlk : meth.locks = false) : zLk (zG p l e (zrm d) s m args below meth c E mX11_countOf.2.2.1 0 0 (MQ below (zQc E Q) args s 0 0 (zaA E))) 50 (b_X11_countOf_50 d (zG p l e (zrm d) s m args below meth c E mX11_countOf.2.2.1 0 0 (MQ below (zQc E Q) args s 0 0 (zaA E))) Q) := by
  unfold b_X11_countOf_50
  exact lk_iln B dX11_countOf_50 rfl (lk_iret B hr hlk dX11_countOf_51)
set_option maxRecDepth 20000 in
theorem k_X11_countOf_42 {p : Program} {l : Launch} {e : Env} {s : State} {m : MethodId} {args : Array Value} {below : List Frame} {meth : Method} {c : Code} {E : zE} {d : Nat} {Q : zQ} (hd1 : 1 ≤ d) (B : zB p s m args c E mX11_countOf.1.cls mX11_countOf.2.1 mX11_countOf.2.2.1) (hr : meth.sig.returnType = mX11_countOf.2.2.2) (hlk : meth.locks = false) : zLk (zG p l e (zrm d) s m args below meth c E mX11_countOf.2.2.1 0 0 (MQ below (zQc E Q) args s 0 0 (zaA E))) 42 (b_X11_countOf_42 d (zG p l e (zrm d) s m args below meth c E mX11_countOf.2.2.1 0 0 (MQ below (zQc E Q) args s 0 0 (zaA E))) Q) := by
  unfold b_X11_countOf_42
  exact lk_add B dX11_countOf_42 (lk_isn B dX11_countOf_43 rfl (by decide) (lk_inc B dX11_countOf_44 (by decide) (lk_goto B dX11_countOf_47 (by decide) (fun _ _ _ h => h))))
set_option maxRecDepth 20000 in
theorem k_X11_countOf_41 {p : Program} {l : Launch} {e : Env} {s : State} {m : MethodId} {args : Array Value} {below : List Frame} {meth : Method} {c : Code} {E : zE} {d : Nat} {Q : zQ} (hd1 : 1 ≤ d) (B : zB p s m args c E mX11_countOf.1.cls mX11_countOf.2.1 mX11_countOf.2.2.1) (hr : meth.sig.returnType = mX11_countOf.2.2.2) (hlk : meth.locks = false) : zLk (zG p l e (zrm d) s m args below meth c E mX11_countOf.2.2.1 0 0 (MQ below (zQc E Q) args s 0 0 (zaA E))) 41 (b_X11_countOf_41 d (zG p l e (zrm d) s m args below meth c E mX11_countOf.2.2.1 0 0 (MQ below (zQc E Q) args s 0 0 (zaA E))) Q) := by
  unfold b_X11_countOf_41
  exact lk_c B dX11_countOf_41 (k_X11_countOf_42 hd1 B hr hlk)
set_option maxRecDepth 20000 in
theorem k_X11_countOf_37 {p : Program} {l : Launch} {e : Env} {s : State} {m : MethodId} {args : Array Value} {below : List Frame} {meth : Method} {c : Code} {E : zE} {d : Nat} {Q : zQ} (hd1 : 1 ≤ d) (B : zB p s m args c E mX11_countOf.1.cls mX11_countOf.2.1 mX11_countOf.2.2.1) (hr : meth.sig.returnType = mX11_countOf.2.2.2) (hlk : meth.locks = false) : zLk (zG p l e (zrm d) s m args below meth c E mX11_countOf.2.2.1 0 0 (MQ below (zQc E Q) args s 0 0 (zaA E))) 37 (b_X11_countOf_37 d (zG p l e (zrm d) s m args below meth c E mX11_countOf.2.2.1 0 0 (MQ below (zQc E Q) args s 0 0 (zaA E))) Q) := by
  unfold b_X11_countOf_37
  exact lk_c B dX11_countOf_37 (lk_goto B dX11_countOf_38 (by decide) (k_X11_countOf_42 hd1 B hr hlk))
set_option maxRecDepth 20000 in
theorem k_X11_countOf_14 {p : Program} {l : Launch} {e : Env} {s : State} {m : MethodId} {args : Array Value} {below : List Frame} {meth : Method} {c : Code} {E : zE} {d : Nat} {Q : zQ} (hd1 : 1 ≤ d) (B : zB p s m args c E mX11_countOf.1.cls mX11_countOf.2.1 mX11_countOf.2.2.1) (hr : meth.sig.returnType = mX11_countOf.2.2.2) (hlk : meth.locks = false) : zLk (zG p l e (zrm d) s m args below meth c E mX11_countOf.2.2.1 0 0 (MQ below (zQc E Q) args s 0 0 (zaA E))) 14 (b_X11_countOf_14 d (zG p l e (zrm d) s m args below meth c E mX11_countOf.2.2.1 0 0 (MQ below (zQc E Q) args s 0 0 (zaA E))) Q) := by
  unfold b_X11_countOf_14
  exact lk_iln B dX11_countOf_14 rfl (lk_aln B dX11_countOf_15 rfl (lk_gf (T := TX11) B cl_X11 (by decide) in_X11 zw_809 dX11_countOf_16 (lk_il B dX11_countOf_19 (lk_iald B dX11_countOf_21 (lk_calls (M := mX11_hash) B (zhR hd1 (by decide)) ⟨Nat.zero_le _, Nat.zero_le _⟩ (zw4 zw_1034 zw_1032 zw_1033 zw_58) (by decide +kernel) dX11_countOf_22 (lk_c B dX11_countOf_25 (lk_c B dX11_countOf_26 (lk_iln B dX11_countOf_27 rfl (lk_mul B dX11_countOf_28 (lk_shl B dX11_countOf_29 (lk_c B dX11_countOf_30 (lk_sub B dX11_countOf_31 (lk_and B dX11_countOf_32 (lk_iln B dX11_countOf_33 rfl (lk_ine B dX11_countOf_34 (by decide) (k_X11_countOf_41 hd1 B hr hlk) (k_X11_countOf_37 hd1 B hr hlk))))))))))))))))
set_option maxRecDepth 20000 in
theorem k_X11_countOf_5 {p : Program} {l : Launch} {e : Env} {s : State} {m : MethodId} {args : Array Value} {below : List Frame} {meth : Method} {c : Code} {E : zE} {d : Nat} {Q : zQ} (hd1 : 1 ≤ d) (B : zB p s m args c E mX11_countOf.1.cls mX11_countOf.2.1 mX11_countOf.2.2.1) (hr : meth.sig.returnType = mX11_countOf.2.2.2) (hlk : meth.locks = false) : zLk (zG p l e (zrm d) s m args below meth c E mX11_countOf.2.2.1 0 0 (MQ below (zQc E Q) args s 0 0 (zaA E))) 5 (b_X11_countOf_5 d (zG p l e (zrm d) s m args below meth c E mX11_countOf.2.2.1 0 0 (MQ below (zQc E Q) args s 0 0 (zaA E))) Q) := by
  unfold b_X11_countOf_5
  exact lk_il B dX11_countOf_5 (lk_aln B dX11_countOf_7 rfl (lk_gf (T := TX11) B cl_X11 (by decide) in_X11 zw_808 dX11_countOf_8 (lk_ige B dX11_countOf_11 (by decide) (k_X11_countOf_50 hd1 B hr hlk) (k_X11_countOf_14 hd1 B hr hlk))))
def S_X11_countOf (d : Nat) (G : Nat → zK) (Q : zQ) : Prop := zLk G 0 (b_X11_countOf_0 d G Q) ∧ zLk G 5 (b_X11_countOf_5 d G Q)
theorem s_X11_countOf_0 {d : Nat} {G : Nat → zK} {Q : zQ} (h : S_X11_countOf d G Q) {ls st : List zV} {μ : zM} (k : b_X11_countOf_0 d G Q ls st μ) : G 0 ls st μ := h.1 ls st μ k
theorem s_X11_countOf_5 {d : Nat} {G : Nat → zK} {Q : zQ} (h : S_X11_countOf d G Q) {ls st : List zV} {μ : zM} (k : b_X11_countOf_5 d G Q ls st μ) : G 5 ls st μ := h.2 ls st μ k
theorem of_X11_countOf {d : Nat} {a0 a1 a2 : zV} {μ : zM} {Q : zQ} (hd1 : 1 ≤ d) (h : ∀ G : Nat → zK, S_X11_countOf d G Q → G 0 [a0, a1, a2, .inr none, .inr none] [] μ) : zCt d mX11_countOf [a0, a1, a2] μ Q := zCt.mk (by decide) (Nat.le_of_ble_eq_true rfl) (fun p l e s m args below meth c E B hr hlk => h _ ⟨k_X11_countOf_0 hd1 B hr hlk, k_X11_countOf_5 hd1 B hr hlk⟩)
theorem dX11_first_0 : decode cX11_first 0 = .ok (.iload_n 0, 1) := by decide +kernel
theorem dX11_first_1 : decode cX11_first 1 = .ok (.ifCond .ne 7, 3) := by decide +kernel
theorem dX11_first_4 : decode cX11_first 4 = .ok (.iconst 0, 1) := by decide +kernel
theorem dX11_first_5 : decode cX11_first 5 = .ok (.goto 23, 3) := by decide +kernel
theorem dX11_first_8 : decode cX11_first 8 = .ok (.iload_n 0, 1) := by decide +kernel
theorem dX11_first_9 : decode cX11_first 9 = .ok (.iconst 1, 1) := by decide +kernel
theorem dX11_first_10 : decode cX11_first 10 = .ok (.if_icmp .ne 7, 3) := by decide +kernel
theorem dX11_first_13 : decode cX11_first 13 = .ok (.iconst 1, 1) := by decide +kernel
theorem dX11_first_14 : decode cX11_first 14 = .ok (.goto 14, 3) := by decide +kernel
theorem dX11_first_17 : decode cX11_first 17 = .ok (.iload_n 0, 1) := by decide +kernel
theorem dX11_first_18 : decode cX11_first 18 = .ok (.iconst 2, 1) := by decide +kernel
theorem dX11_first_19 : decode cX11_first 19 = .ok (.if_icmp .ne 7, 3) := by decide +kernel
theorem dX11_first_22 : decode cX11_first 22 = .ok (.iconst 5, 1) := by decide +kernel
theorem dX11_first_23 : decode cX11_first 23 = .ok (.goto 5, 3) := by decide +kernel
theorem dX11_first_26 : decode cX11_first 26 = .ok (.bipush 21, 2) := by decide +kernel
theorem dX11_first_28 : decode cX11_first 28 = .ok (.ireturn, 1) := by decide +kernel
def b_X11_first_28 (d : Nat) (G : Nat → zK) (Q : zQ) : zK := t_iret Q
def b_X11_first_26 (d : Nat) (G : Nat → zK) (Q : zQ) : zK := o_c 21 <| b_X11_first_28 d G Q
def b_X11_first_22 (d : Nat) (G : Nat → zK) (Q : zQ) : zK := o_c 5 <| b_X11_first_28 d G Q
def b_X11_first_17 (d : Nat) (G : Nat → zK) (Q : zQ) : zK := o_il 0 <| o_c 2 <| t_ieq (b_X11_first_22 d G Q) (b_X11_first_26 d G Q)
def b_X11_first_13 (d : Nat) (G : Nat → zK) (Q : zQ) : zK := o_c 1 <| b_X11_first_28 d G Q
def b_X11_first_8 (d : Nat) (G : Nat → zK) (Q : zQ) : zK := o_il 0 <| o_c 1 <| t_ieq (b_X11_first_13 d G Q) (b_X11_first_17 d G Q)
def b_X11_first_4 (d : Nat) (G : Nat → zK) (Q : zQ) : zK := o_c 0 <| b_X11_first_28 d G Q
def b_X11_first_0 (d : Nat) (G : Nat → zK) (Q : zQ) : zK := o_il 0 <| t_zeq (b_X11_first_4 d G Q) (b_X11_first_8 d G Q)
set_option maxRecDepth 20000 in
theorem k_X11_first_28 {p : Program} {l : Launch} {e : Env} {s : State} {m : MethodId} {args : Array Value} {below : List Frame} {meth : Method} {c : Code} {E : zE} {d : Nat} {Q : zQ} (B : zB p s m args c E mX11_first.1.cls mX11_first.2.1 mX11_first.2.2.1) (hr : meth.sig.returnType = mX11_first.2.2.2) (hlk : meth.locks = false) : zLk (zG p l e (zrm d) s m args below meth c E mX11_first.2.2.1 0 0 (MQ below (zQc E Q) args s 0 0 (zaA E))) 28 (b_X11_first_28 d (zG p l e (zrm d) s m args below meth c E mX11_first.2.2.1 0 0 (MQ below (zQc E Q) args s 0 0 (zaA E))) Q) := by
  unfold b_X11_first_28
  exact lk_iret B hr hlk dX11_first_28
set_option maxRecDepth 20000 in
theorem k_X11_first_26 {p : Program} {l : Launch} {e : Env} {s : State} {m : MethodId} {args : Array Value} {below : List Frame} {meth : Method} {c : Code} {E : zE} {d : Nat} {Q : zQ} (B : zB p s m args c E mX11_first.1.cls mX11_first.2.1 mX11_first.2.2.1) (hr : meth.sig.returnType = mX11_first.2.2.2) (hlk : meth.locks = false) : zLk (zG p l e (zrm d) s m args below meth c E mX11_first.2.2.1 0 0 (MQ below (zQc E Q) args s 0 0 (zaA E))) 26 (b_X11_first_26 d (zG p l e (zrm d) s m args below meth c E mX11_first.2.2.1 0 0 (MQ below (zQc E Q) args s 0 0 (zaA E))) Q) := by
  unfold b_X11_first_26
  exact lk_b B dX11_first_26 rfl (k_X11_first_28 B hr hlk)
set_option maxRecDepth 20000 in
theorem k_X11_first_22 {p : Program} {l : Launch} {e : Env} {s : State} {m : MethodId} {args : Array Value} {below : List Frame} {meth : Method} {c : Code} {E : zE} {d : Nat} {Q : zQ} (B : zB p s m args c E mX11_first.1.cls mX11_first.2.1 mX11_first.2.2.1) (hr : meth.sig.returnType = mX11_first.2.2.2) (hlk : meth.locks = false) : zLk (zG p l e (zrm d) s m args below meth c E mX11_first.2.2.1 0 0 (MQ below (zQc E Q) args s 0 0 (zaA E))) 22 (b_X11_first_22 d (zG p l e (zrm d) s m args below meth c E mX11_first.2.2.1 0 0 (MQ below (zQc E Q) args s 0 0 (zaA E))) Q) := by
  unfold b_X11_first_22
  exact lk_c B dX11_first_22 (lk_goto B dX11_first_23 (by decide) (k_X11_first_28 B hr hlk))
set_option maxRecDepth 20000 in
theorem k_X11_first_17 {p : Program} {l : Launch} {e : Env} {s : State} {m : MethodId} {args : Array Value} {below : List Frame} {meth : Method} {c : Code} {E : zE} {d : Nat} {Q : zQ} (B : zB p s m args c E mX11_first.1.cls mX11_first.2.1 mX11_first.2.2.1) (hr : meth.sig.returnType = mX11_first.2.2.2) (hlk : meth.locks = false) : zLk (zG p l e (zrm d) s m args below meth c E mX11_first.2.2.1 0 0 (MQ below (zQc E Q) args s 0 0 (zaA E))) 17 (b_X11_first_17 d (zG p l e (zrm d) s m args below meth c E mX11_first.2.2.1 0 0 (MQ below (zQc E Q) args s 0 0 (zaA E))) Q) := by
  unfold b_X11_first_17
  exact lk_iln B dX11_first_17 rfl (lk_c B dX11_first_18 (lk_ine B dX11_first_19 (by decide) (k_X11_first_26 B hr hlk) (k_X11_first_22 B hr hlk)))
set_option maxRecDepth 20000 in
theorem k_X11_first_13 {p : Program} {l : Launch} {e : Env} {s : State} {m : MethodId} {args : Array Value} {below : List Frame} {meth : Method} {c : Code} {E : zE} {d : Nat} {Q : zQ} (B : zB p s m args c E mX11_first.1.cls mX11_first.2.1 mX11_first.2.2.1) (hr : meth.sig.returnType = mX11_first.2.2.2) (hlk : meth.locks = false) : zLk (zG p l e (zrm d) s m args below meth c E mX11_first.2.2.1 0 0 (MQ below (zQc E Q) args s 0 0 (zaA E))) 13 (b_X11_first_13 d (zG p l e (zrm d) s m args below meth c E mX11_first.2.2.1 0 0 (MQ below (zQc E Q) args s 0 0 (zaA E))) Q) := by
  unfold b_X11_first_13
  exact lk_c B dX11_first_13 (lk_goto B dX11_first_14 (by decide) (k_X11_first_28 B hr hlk))
set_option maxRecDepth 20000 in
theorem k_X11_first_8 {p : Program} {l : Launch} {e : Env} {s : State} {m : MethodId} {args : Array Value} {below : List Frame} {meth : Method} {c : Code} {E : zE} {d : Nat} {Q : zQ} (B : zB p s m args c E mX11_first.1.cls mX11_first.2.1 mX11_first.2.2.1) (hr : meth.sig.returnType = mX11_first.2.2.2) (hlk : meth.locks = false) : zLk (zG p l e (zrm d) s m args below meth c E mX11_first.2.2.1 0 0 (MQ below (zQc E Q) args s 0 0 (zaA E))) 8 (b_X11_first_8 d (zG p l e (zrm d) s m args below meth c E mX11_first.2.2.1 0 0 (MQ below (zQc E Q) args s 0 0 (zaA E))) Q) := by
  unfold b_X11_first_8
  exact lk_iln B dX11_first_8 rfl (lk_c B dX11_first_9 (lk_ine B dX11_first_10 (by decide) (k_X11_first_17 B hr hlk) (k_X11_first_13 B hr hlk)))
set_option maxRecDepth 20000 in
theorem k_X11_first_4 {p : Program} {l : Launch} {e : Env} {s : State} {m : MethodId} {args : Array Value} {below : List Frame} {meth : Method} {c : Code} {E : zE} {d : Nat} {Q : zQ} (B : zB p s m args c E mX11_first.1.cls mX11_first.2.1 mX11_first.2.2.1) (hr : meth.sig.returnType = mX11_first.2.2.2) (hlk : meth.locks = false) : zLk (zG p l e (zrm d) s m args below meth c E mX11_first.2.2.1 0 0 (MQ below (zQc E Q) args s 0 0 (zaA E))) 4 (b_X11_first_4 d (zG p l e (zrm d) s m args below meth c E mX11_first.2.2.1 0 0 (MQ below (zQc E Q) args s 0 0 (zaA E))) Q) := by
  unfold b_X11_first_4
  exact lk_c B dX11_first_4 (lk_goto B dX11_first_5 (by decide) (k_X11_first_28 B hr hlk))
set_option maxRecDepth 20000 in
theorem k_X11_first_0 {p : Program} {l : Launch} {e : Env} {s : State} {m : MethodId} {args : Array Value} {below : List Frame} {meth : Method} {c : Code} {E : zE} {d : Nat} {Q : zQ} (B : zB p s m args c E mX11_first.1.cls mX11_first.2.1 mX11_first.2.2.1) (hr : meth.sig.returnType = mX11_first.2.2.2) (hlk : meth.locks = false) : zLk (zG p l e (zrm d) s m args below meth c E mX11_first.2.2.1 0 0 (MQ below (zQc E Q) args s 0 0 (zaA E))) 0 (b_X11_first_0 d (zG p l e (zrm d) s m args below meth c E mX11_first.2.2.1 0 0 (MQ below (zQc E Q) args s 0 0 (zaA E))) Q) := by
  unfold b_X11_first_0
  exact lk_iln B dX11_first_0 rfl (lk_zne B dX11_first_1 (by decide) (k_X11_first_8 B hr hlk) (k_X11_first_4 B hr hlk))
def S_X11_first (d : Nat) (G : Nat → zK) (Q : zQ) : Prop := zLk G 0 (b_X11_first_0 d G Q)
theorem s_X11_first_0 {d : Nat} {G : Nat → zK} {Q : zQ} (h : S_X11_first d G Q) {ls st : List zV} {μ : zM} (k : b_X11_first_0 d G Q ls st μ) : G 0 ls st μ := h ls st μ k
theorem of_X11_first {d : Nat} {a0 : zV} {μ : zM} {Q : zQ} (h : ∀ G : Nat → zK, S_X11_first d G Q → G 0 [a0] [] μ) : zCt d mX11_first [a0] μ Q := zCt.mk (by decide) (Nat.le_of_ble_eq_true rfl) (fun p l e s m args below meth c E B hr hlk => h _ (k_X11_first_0 B hr hlk))
theorem dX11_folderRow_0 : decode cX11_folderRow 0 = .ok (.aload_n 0, 1) := by decide +kernel
theorem dX11_folderRow_1 : decode cX11_folderRow 1 = .ok (.iconst 0, 1) := by decide +kernel
theorem dX11_folderRow_2 : decode cX11_folderRow 2 = .ok (.putfield 118, 3) := by decide +kernel
theorem dX11_folderRow_5 : decode cX11_folderRow 5 = .ok (.aload_n 0, 1) := by decide +kernel
theorem dX11_folderRow_6 : decode cX11_folderRow 6 = .ok (.iconst 2, 1) := by decide +kernel
theorem dX11_folderRow_7 : decode cX11_folderRow 7 = .ok (.invokevirtual 121, 3) := by decide +kernel
theorem dX11_folderRow_10 : decode cX11_folderRow 10 = .ok (.aload_n 0, 1) := by decide +kernel
theorem dX11_folderRow_11 : decode cX11_folderRow 11 = .ok (.aload_n 0, 1) := by decide +kernel
theorem dX11_folderRow_12 : decode cX11_folderRow 12 = .ok (.iload_n 1, 1) := by decide +kernel
theorem dX11_folderRow_13 : decode cX11_folderRow 13 = .ok (.iload_n 2, 1) := by decide +kernel
theorem dX11_folderRow_14 : decode cX11_folderRow 14 = .ok (.invokevirtual 184, 3) := by decide +kernel
theorem dX11_folderRow_17 : decode cX11_folderRow 17 = .ok (.invokevirtual 121, 3) := by decide +kernel
theorem dX11_folderRow_20 : decode cX11_folderRow 20 = .ok (.iconst 1, 1) := by decide +kernel
theorem dX11_folderRow_21 : decode cX11_folderRow 21 = .ok (.istore_n 3, 1) := by decide +kernel
theorem dX11_folderRow_22 : decode cX11_folderRow 22 = .ok (.iload_n 3, 1) := by decide +kernel
theorem dX11_folderRow_23 : decode cX11_folderRow 23 = .ok (.sipush 255, 3) := by decide +kernel
theorem dX11_folderRow_26 : decode cX11_folderRow 26 = .ok (.if_icmp .gt 73, 3) := by decide +kernel
theorem dX11_folderRow_29 : decode cX11_folderRow 29 = .ok (.iconst 0, 1) := by decide +kernel
theorem dX11_folderRow_30 : decode cX11_folderRow 30 = .ok (.istore 4, 2) := by decide +kernel
theorem dX11_folderRow_32 : decode cX11_folderRow 32 = .ok (.iload 4, 2) := by decide +kernel
theorem dX11_folderRow_34 : decode cX11_folderRow 34 = .ok (.aload_n 0, 1) := by decide +kernel
theorem dX11_folderRow_35 : decode cX11_folderRow 35 = .ok (.getfield 108, 3) := by decide +kernel
theorem dX11_folderRow_38 : decode cX11_folderRow 38 = .ok (.if_icmp .ge 55, 3) := by decide +kernel
theorem dX11_folderRow_41 : decode cX11_folderRow 41 = .ok (.aload_n 0, 1) := by decide +kernel
theorem dX11_folderRow_42 : decode cX11_folderRow 42 = .ok (.getfield 65, 3) := by decide +kernel
theorem dX11_folderRow_45 : decode cX11_folderRow 45 = .ok (.iload 4, 2) := by decide +kernel
theorem dX11_folderRow_47 : decode cX11_folderRow 47 = .ok (.iaload, 1) := by decide +kernel
theorem dX11_folderRow_48 : decode cX11_folderRow 48 = .ok (.iload_n 3, 1) := by decide +kernel
theorem dX11_folderRow_49 : decode cX11_folderRow 49 = .ok (.if_icmp .ne 38, 3) := by decide +kernel
theorem dX11_folderRow_52 : decode cX11_folderRow 52 = .ok (.iload_n 3, 1) := by decide +kernel
theorem dX11_folderRow_53 : decode cX11_folderRow 53 = .ok (.invokestatic 181, 3) := by decide +kernel
theorem dX11_folderRow_56 : decode cX11_folderRow 56 = .ok (.iconst 1, 1) := by decide +kernel
theorem dX11_folderRow_57 : decode cX11_folderRow 57 = .ok (.iconst 2, 1) := by decide +kernel
theorem dX11_folderRow_58 : decode cX11_folderRow 58 = .ok (.iload_n 1, 1) := by decide +kernel
theorem dX11_folderRow_59 : decode cX11_folderRow 59 = .ok (.imul, 1) := by decide +kernel
theorem dX11_folderRow_60 : decode cX11_folderRow 60 = .ok (.ishl, 1) := by decide +kernel
theorem dX11_folderRow_61 : decode cX11_folderRow 61 = .ok (.iconst 1, 1) := by decide +kernel
theorem dX11_folderRow_62 : decode cX11_folderRow 62 = .ok (.isub, 1) := by decide +kernel
theorem dX11_folderRow_63 : decode cX11_folderRow 63 = .ok (.iand, 1) := by decide +kernel
theorem dX11_folderRow_64 : decode cX11_folderRow 64 = .ok (.iload_n 2, 1) := by decide +kernel
theorem dX11_folderRow_65 : decode cX11_folderRow 65 = .ok (.if_icmp .eq 6, 3) := by decide +kernel
theorem dX11_folderRow_68 : decode cX11_folderRow 68 = .ok (.goto 19, 3) := by decide +kernel
theorem dX11_folderRow_71 : decode cX11_folderRow 71 = .ok (.aload_n 0, 1) := by decide +kernel
theorem dX11_folderRow_72 : decode cX11_folderRow 72 = .ok (.iload_n 3, 1) := by decide +kernel
theorem dX11_folderRow_73 : decode cX11_folderRow 73 = .ok (.invokevirtual 121, 3) := by decide +kernel
theorem dX11_folderRow_76 : decode cX11_folderRow 76 = .ok (.aload_n 0, 1) := by decide +kernel
theorem dX11_folderRow_77 : decode cX11_folderRow 77 = .ok (.aload_n 0, 1) := by decide +kernel
theorem dX11_folderRow_78 : decode cX11_folderRow 78 = .ok (.getfield 68, 3) := by decide +kernel
theorem dX11_folderRow_81 : decode cX11_folderRow 81 = .ok (.iload 4, 2) := by decide +kernel
theorem dX11_folderRow_83 : decode cX11_folderRow 83 = .ok (.iaload, 1) := by decide +kernel
theorem dX11_folderRow_84 : decode cX11_folderRow 84 = .ok (.invokevirtual 178, 3) := by decide +kernel
theorem dX11_folderRow_87 : decode cX11_folderRow 87 = .ok (.iinc 4 1, 3) := by decide +kernel
theorem dX11_folderRow_90 : decode cX11_folderRow 90 = .ok (.goto (-58), 3) := by decide +kernel
theorem dX11_folderRow_93 : decode cX11_folderRow 93 = .ok (.iinc 3 1, 3) := by decide +kernel
theorem dX11_folderRow_96 : decode cX11_folderRow 96 = .ok (.goto (-74), 3) := by decide +kernel
theorem dX11_folderRow_99 : decode cX11_folderRow 99 = .ok (.return_, 1) := by decide +kernel
def b_X11_folderRow_0 (d : Nat) (G : Nat → zK) (Q : zQ) : zK := o_al 0 <| o_c 0 <| o_pf 9 24 <| o_al 0 <| o_c 2 <| o_callv (zCt (d - 1) mX11_push) 9 2 <| o_al 0 <| o_al 0 <| o_il 1 <| o_il 2 <| o_callv (zCt (d - 1) mX11_countOf) 9 3 <| o_callv (zCt (d - 1) mX11_push) 9 2 <| o_c 1 <| o_is 3 <| G 22
def b_X11_folderRow_99 (d : Nat) (G : Nat → zK) (Q : zQ) : zK := t_vret Q
def b_X11_folderRow_29 (d : Nat) (G : Nat → zK) (Q : zQ) : zK := o_c 0 <| o_is 4 <| G 32
def b_X11_folderRow_22 (d : Nat) (G : Nat → zK) (Q : zQ) : zK := o_il 3 <| o_c 255 <| t_igt (b_X11_folderRow_99 d G Q) (b_X11_folderRow_29 d G Q)
def b_X11_folderRow_93 (d : Nat) (G : Nat → zK) (Q : zQ) : zK := o_inc 3 1 <| G 22
def b_X11_folderRow_87 (d : Nat) (G : Nat → zK) (Q : zQ) : zK := o_inc 4 1 <| G 32
def b_X11_folderRow_71 (d : Nat) (G : Nat → zK) (Q : zQ) : zK := o_al 0 <| o_il 3 <| o_callv (zCt (d - 1) mX11_push) 9 2 <| o_al 0 <| o_al 0 <| o_gf 9 22 <| o_il 4 <| o_iald <| o_callv (zCt (d - 1) mX11_addTwo) 9 2 <| b_X11_folderRow_87 d G Q
def b_X11_folderRow_68 (d : Nat) (G : Nat → zK) (Q : zQ) : zK := b_X11_folderRow_87 d G Q
def b_X11_folderRow_52 (d : Nat) (G : Nat → zK) (Q : zQ) : zK := o_il 3 <| o_call (zCt (d - 1) mX11_hash) 1 <| o_c 1 <| o_c 2 <| o_il 1 <| o_mul <| o_shl <| o_c 1 <| o_sub <| o_and <| o_il 2 <| t_ieq (b_X11_folderRow_71 d G Q) (b_X11_folderRow_68 d G Q)
def b_X11_folderRow_41 (d : Nat) (G : Nat → zK) (Q : zQ) : zK := o_al 0 <| o_gf 9 21 <| o_il 4 <| o_iald <| o_il 3 <| t_ieq (b_X11_folderRow_52 d G Q) (b_X11_folderRow_87 d G Q)
def b_X11_folderRow_32 (d : Nat) (G : Nat → zK) (Q : zQ) : zK := o_il 4 <| o_al 0 <| o_gf 9 20 <| t_ilt (b_X11_folderRow_41 d G Q) (b_X11_folderRow_93 d G Q)
set_option maxRecDepth 20000 in
theorem k_X11_folderRow_0 {p : Program} {l : Launch} {e : Env} {s : State} {m : MethodId} {args : Array Value} {below : List Frame} {meth : Method} {c : Code} {E : zE} {d : Nat} {Q : zQ} (hd1 : 1 ≤ d) (B : zB p s m args c E mX11_folderRow.1.cls mX11_folderRow.2.1 mX11_folderRow.2.2.1) (hr : meth.sig.returnType = mX11_folderRow.2.2.2) (hlk : meth.locks = false) : zLk (zG p l e (zrm d) s m args below meth c E mX11_folderRow.2.2.1 0 0 (MQ below (zQc E Q) args s 0 0 (zaA E))) 0 (b_X11_folderRow_0 d (zG p l e (zrm d) s m args below meth c E mX11_folderRow.2.2.1 0 0 (MQ below (zQc E Q) args s 0 0 (zaA E))) Q) := by
  unfold b_X11_folderRow_0
  exact lk_aln B dX11_folderRow_0 rfl (lk_c B dX11_folderRow_1 (lk_pf (T := TX11) B cl_X11 (by decide) in_X11 tyX11_ok nmX11 zw_812 rfl (by decide +kernel) dX11_folderRow_2 (lk_aln B dX11_folderRow_5 rfl (lk_c B dX11_folderRow_6 (lk_callv (M := mX11_push) (T := TX11) (N := 41) B (zhR hd1 (by decide)) ⟨Nat.zero_le _, Nat.zero_le _⟩ cl_X11 (zw5 zw_941 zw_938 zw_940 zw_16 zw_58) (by decide +kernel) dX11_folderRow_7 (lk_aln B dX11_folderRow_10 rfl (lk_aln B dX11_folderRow_11 rfl (lk_iln B dX11_folderRow_12 rfl (lk_iln B dX11_folderRow_13 rfl (lk_callv (M := mX11_countOf) (T := TX11) (N := 41) B (zhR hd1 (by decide)) ⟨Nat.zero_le _, Nat.zero_le _⟩ cl_X11 (zw5 zw_1031 zw_1028 zw_1030 zw_35 zw_58) (by decide +kernel) dX11_folderRow_14 (lk_callv (M := mX11_push) (T := TX11) (N := 41) B (zhR hd1 (by decide)) ⟨Nat.zero_le _, Nat.zero_le _⟩ cl_X11 (zw5 zw_941 zw_938 zw_940 zw_16 zw_58) (by decide +kernel) dX11_folderRow_17 (lk_c B dX11_folderRow_20 (lk_isn B dX11_folderRow_21 rfl (by decide) (fun _ _ _ h => h))))))))))))))
set_option maxRecDepth 20000 in
theorem k_X11_folderRow_99 {p : Program} {l : Launch} {e : Env} {s : State} {m : MethodId} {args : Array Value} {below : List Frame} {meth : Method} {c : Code} {E : zE} {d : Nat} {Q : zQ} (hd1 : 1 ≤ d) (B : zB p s m args c E mX11_folderRow.1.cls mX11_folderRow.2.1 mX11_folderRow.2.2.1) (hr : meth.sig.returnType = mX11_folderRow.2.2.2) (hlk : meth.locks = false) : zLk (zG p l e (zrm d) s m args below meth c E mX11_folderRow.2.2.1 0 0 (MQ below (zQc E Q) args s 0 0 (zaA E))) 99 (b_X11_folderRow_99 d (zG p l e (zrm d) s m args below meth c E mX11_folderRow.2.2.1 0 0 (MQ below (zQc E Q) args s 0 0 (zaA E))) Q) := by
  unfold b_X11_folderRow_99
  exact lk_vret B hr hlk dX11_folderRow_99
set_option maxRecDepth 20000 in
theorem k_X11_folderRow_29 {p : Program} {l : Launch} {e : Env} {s : State} {m : MethodId} {args : Array Value} {below : List Frame} {meth : Method} {c : Code} {E : zE} {d : Nat} {Q : zQ} (hd1 : 1 ≤ d) (B : zB p s m args c E mX11_folderRow.1.cls mX11_folderRow.2.1 mX11_folderRow.2.2.1) (hr : meth.sig.returnType = mX11_folderRow.2.2.2) (hlk : meth.locks = false) : zLk (zG p l e (zrm d) s m args below meth c E mX11_folderRow.2.2.1 0 0 (MQ below (zQc E Q) args s 0 0 (zaA E))) 29 (b_X11_folderRow_29 d (zG p l e (zrm d) s m args below meth c E mX11_folderRow.2.2.1 0 0 (MQ below (zQc E Q) args s 0 0 (zaA E))) Q) := by
  unfold b_X11_folderRow_29
  exact lk_c B dX11_folderRow_29 (lk_is B dX11_folderRow_30 (by decide) (fun _ _ _ h => h))
set_option maxRecDepth 20000 in
theorem k_X11_folderRow_22 {p : Program} {l : Launch} {e : Env} {s : State} {m : MethodId} {args : Array Value} {below : List Frame} {meth : Method} {c : Code} {E : zE} {d : Nat} {Q : zQ} (hd1 : 1 ≤ d) (B : zB p s m args c E mX11_folderRow.1.cls mX11_folderRow.2.1 mX11_folderRow.2.2.1) (hr : meth.sig.returnType = mX11_folderRow.2.2.2) (hlk : meth.locks = false) : zLk (zG p l e (zrm d) s m args below meth c E mX11_folderRow.2.2.1 0 0 (MQ below (zQc E Q) args s 0 0 (zaA E))) 22 (b_X11_folderRow_22 d (zG p l e (zrm d) s m args below meth c E mX11_folderRow.2.2.1 0 0 (MQ below (zQc E Q) args s 0 0 (zaA E))) Q) := by
  unfold b_X11_folderRow_22
  exact lk_iln B dX11_folderRow_22 rfl (lk_s B dX11_folderRow_23 rfl (lk_igt B dX11_folderRow_26 (by decide) (k_X11_folderRow_99 hd1 B hr hlk) (k_X11_folderRow_29 hd1 B hr hlk)))
set_option maxRecDepth 20000 in
theorem k_X11_folderRow_93 {p : Program} {l : Launch} {e : Env} {s : State} {m : MethodId} {args : Array Value} {below : List Frame} {meth : Method} {c : Code} {E : zE} {d : Nat} {Q : zQ} (hd1 : 1 ≤ d) (B : zB p s m args c E mX11_folderRow.1.cls mX11_folderRow.2.1 mX11_folderRow.2.2.1) (hr : meth.sig.returnType = mX11_folderRow.2.2.2) (hlk : meth.locks = false) : zLk (zG p l e (zrm d) s m args below meth c E mX11_folderRow.2.2.1 0 0 (MQ below (zQc E Q) args s 0 0 (zaA E))) 93 (b_X11_folderRow_93 d (zG p l e (zrm d) s m args below meth c E mX11_folderRow.2.2.1 0 0 (MQ below (zQc E Q) args s 0 0 (zaA E))) Q) := by
  unfold b_X11_folderRow_93
  exact lk_inc B dX11_folderRow_93 (by decide) (lk_goto B dX11_folderRow_96 (by decide) (fun _ _ _ h => h))
set_option maxRecDepth 20000 in
theorem k_X11_folderRow_87 {p : Program} {l : Launch} {e : Env} {s : State} {m : MethodId} {args : Array Value} {below : List Frame} {meth : Method} {c : Code} {E : zE} {d : Nat} {Q : zQ} (hd1 : 1 ≤ d) (B : zB p s m args c E mX11_folderRow.1.cls mX11_folderRow.2.1 mX11_folderRow.2.2.1) (hr : meth.sig.returnType = mX11_folderRow.2.2.2) (hlk : meth.locks = false) : zLk (zG p l e (zrm d) s m args below meth c E mX11_folderRow.2.2.1 0 0 (MQ below (zQc E Q) args s 0 0 (zaA E))) 87 (b_X11_folderRow_87 d (zG p l e (zrm d) s m args below meth c E mX11_folderRow.2.2.1 0 0 (MQ below (zQc E Q) args s 0 0 (zaA E))) Q) := by
  unfold b_X11_folderRow_87
  exact lk_inc B dX11_folderRow_87 (by decide) (lk_goto B dX11_folderRow_90 (by decide) (fun _ _ _ h => h))
set_option maxRecDepth 20000 in
theorem k_X11_folderRow_71 {p : Program} {l : Launch} {e : Env} {s : State} {m : MethodId} {args : Array Value} {below : List Frame} {meth : Method} {c : Code} {E : zE} {d : Nat} {Q : zQ} (hd1 : 1 ≤ d) (B : zB p s m args c E mX11_folderRow.1.cls mX11_folderRow.2.1 mX11_folderRow.2.2.1) (hr : meth.sig.returnType = mX11_folderRow.2.2.2) (hlk : meth.locks = false) : zLk (zG p l e (zrm d) s m args below meth c E mX11_folderRow.2.2.1 0 0 (MQ below (zQc E Q) args s 0 0 (zaA E))) 71 (b_X11_folderRow_71 d (zG p l e (zrm d) s m args below meth c E mX11_folderRow.2.2.1 0 0 (MQ below (zQc E Q) args s 0 0 (zaA E))) Q) := by
  unfold b_X11_folderRow_71
  exact lk_aln B dX11_folderRow_71 rfl (lk_iln B dX11_folderRow_72 rfl (lk_callv (M := mX11_push) (T := TX11) (N := 41) B (zhR hd1 (by decide)) ⟨Nat.zero_le _, Nat.zero_le _⟩ cl_X11 (zw5 zw_941 zw_938 zw_940 zw_16 zw_58) (by decide +kernel) dX11_folderRow_73 (lk_aln B dX11_folderRow_76 rfl (lk_aln B dX11_folderRow_77 rfl (lk_gf (T := TX11) B cl_X11 (by decide) in_X11 zw_810 dX11_folderRow_78 (lk_il B dX11_folderRow_81 (lk_iald B dX11_folderRow_83 (lk_callv (M := mX11_addTwo) (T := TX11) (N := 41) B (zhR hd1 (by decide)) ⟨Nat.zero_le _, Nat.zero_le _⟩ cl_X11 (zw5 zw_1019 zw_1016 zw_1018 zw_33 zw_58) (by decide +kernel) dX11_folderRow_84 (k_X11_folderRow_87 hd1 B hr hlk)))))))))
set_option maxRecDepth 20000 in
theorem k_X11_folderRow_68 {p : Program} {l : Launch} {e : Env} {s : State} {m : MethodId} {args : Array Value} {below : List Frame} {meth : Method} {c : Code} {E : zE} {d : Nat} {Q : zQ} (hd1 : 1 ≤ d) (B : zB p s m args c E mX11_folderRow.1.cls mX11_folderRow.2.1 mX11_folderRow.2.2.1) (hr : meth.sig.returnType = mX11_folderRow.2.2.2) (hlk : meth.locks = false) : zLk (zG p l e (zrm d) s m args below meth c E mX11_folderRow.2.2.1 0 0 (MQ below (zQc E Q) args s 0 0 (zaA E))) 68 (b_X11_folderRow_68 d (zG p l e (zrm d) s m args below meth c E mX11_folderRow.2.2.1 0 0 (MQ below (zQc E Q) args s 0 0 (zaA E))) Q) := by
  unfold b_X11_folderRow_68
  exact lk_goto B dX11_folderRow_68 (by decide) (k_X11_folderRow_87 hd1 B hr hlk)
set_option maxRecDepth 20000 in
theorem k_X11_folderRow_52 {p : Program} {l : Launch} {e : Env} {s : State} {m : MethodId} {args : Array Value} {below : List Frame} {meth : Method} {c : Code} {E : zE} {d : Nat} {Q : zQ} (hd1 : 1 ≤ d) (B : zB p s m args c E mX11_folderRow.1.cls mX11_folderRow.2.1 mX11_folderRow.2.2.1) (hr : meth.sig.returnType = mX11_folderRow.2.2.2) (hlk : meth.locks = false) : zLk (zG p l e (zrm d) s m args below meth c E mX11_folderRow.2.2.1 0 0 (MQ below (zQc E Q) args s 0 0 (zaA E))) 52 (b_X11_folderRow_52 d (zG p l e (zrm d) s m args below meth c E mX11_folderRow.2.2.1 0 0 (MQ below (zQc E Q) args s 0 0 (zaA E))) Q) := by
  unfold b_X11_folderRow_52
  exact lk_iln B dX11_folderRow_52 rfl (lk_calls (M := mX11_hash) B (zhR hd1 (by decide)) ⟨Nat.zero_le _, Nat.zero_le _⟩ (zw4 zw_1034 zw_1032 zw_1033 zw_58) (by decide +kernel) dX11_folderRow_53 (lk_c B dX11_folderRow_56 (lk_c B dX11_folderRow_57 (lk_iln B dX11_folderRow_58 rfl (lk_mul B dX11_folderRow_59 (lk_shl B dX11_folderRow_60 (lk_c B dX11_folderRow_61 (lk_sub B dX11_folderRow_62 (lk_and B dX11_folderRow_63 (lk_iln B dX11_folderRow_64 rfl (lk_ieq B dX11_folderRow_65 (by decide) (k_X11_folderRow_71 hd1 B hr hlk) (k_X11_folderRow_68 hd1 B hr hlk))))))))))))
set_option maxRecDepth 20000 in
theorem k_X11_folderRow_41 {p : Program} {l : Launch} {e : Env} {s : State} {m : MethodId} {args : Array Value} {below : List Frame} {meth : Method} {c : Code} {E : zE} {d : Nat} {Q : zQ} (hd1 : 1 ≤ d) (B : zB p s m args c E mX11_folderRow.1.cls mX11_folderRow.2.1 mX11_folderRow.2.2.1) (hr : meth.sig.returnType = mX11_folderRow.2.2.2) (hlk : meth.locks = false) : zLk (zG p l e (zrm d) s m args below meth c E mX11_folderRow.2.2.1 0 0 (MQ below (zQc E Q) args s 0 0 (zaA E))) 41 (b_X11_folderRow_41 d (zG p l e (zrm d) s m args below meth c E mX11_folderRow.2.2.1 0 0 (MQ below (zQc E Q) args s 0 0 (zaA E))) Q) := by
  unfold b_X11_folderRow_41
  exact lk_aln B dX11_folderRow_41 rfl (lk_gf (T := TX11) B cl_X11 (by decide) in_X11 zw_809 dX11_folderRow_42 (lk_il B dX11_folderRow_45 (lk_iald B dX11_folderRow_47 (lk_iln B dX11_folderRow_48 rfl (lk_ine B dX11_folderRow_49 (by decide) (k_X11_folderRow_87 hd1 B hr hlk) (k_X11_folderRow_52 hd1 B hr hlk))))))
set_option maxRecDepth 20000 in
theorem k_X11_folderRow_32 {p : Program} {l : Launch} {e : Env} {s : State} {m : MethodId} {args : Array Value} {below : List Frame} {meth : Method} {c : Code} {E : zE} {d : Nat} {Q : zQ} (hd1 : 1 ≤ d) (B : zB p s m args c E mX11_folderRow.1.cls mX11_folderRow.2.1 mX11_folderRow.2.2.1) (hr : meth.sig.returnType = mX11_folderRow.2.2.2) (hlk : meth.locks = false) : zLk (zG p l e (zrm d) s m args below meth c E mX11_folderRow.2.2.1 0 0 (MQ below (zQc E Q) args s 0 0 (zaA E))) 32 (b_X11_folderRow_32 d (zG p l e (zrm d) s m args below meth c E mX11_folderRow.2.2.1 0 0 (MQ below (zQc E Q) args s 0 0 (zaA E))) Q) := by
  unfold b_X11_folderRow_32
  exact lk_il B dX11_folderRow_32 (lk_aln B dX11_folderRow_34 rfl (lk_gf (T := TX11) B cl_X11 (by decide) in_X11 zw_808 dX11_folderRow_35 (lk_ige B dX11_folderRow_38 (by decide) (k_X11_folderRow_93 hd1 B hr hlk) (k_X11_folderRow_41 hd1 B hr hlk))))
def S_X11_folderRow (d : Nat) (G : Nat → zK) (Q : zQ) : Prop := zLk G 0 (b_X11_folderRow_0 d G Q) ∧ zLk G 22 (b_X11_folderRow_22 d G Q) ∧ zLk G 32 (b_X11_folderRow_32 d G Q)
theorem s_X11_folderRow_0 {d : Nat} {G : Nat → zK} {Q : zQ} (h : S_X11_folderRow d G Q) {ls st : List zV} {μ : zM} (k : b_X11_folderRow_0 d G Q ls st μ) : G 0 ls st μ := h.1 ls st μ k
theorem s_X11_folderRow_22 {d : Nat} {G : Nat → zK} {Q : zQ} (h : S_X11_folderRow d G Q) {ls st : List zV} {μ : zM} (k : b_X11_folderRow_22 d G Q ls st μ) : G 22 ls st μ := h.2.1 ls st μ k
theorem s_X11_folderRow_32 {d : Nat} {G : Nat → zK} {Q : zQ} (h : S_X11_folderRow d G Q) {ls st : List zV} {μ : zM} (k : b_X11_folderRow_32 d G Q ls st μ) : G 32 ls st μ := h.2.2 ls st μ k
theorem of_X11_folderRow {d : Nat} {a0 a1 a2 : zV} {μ : zM} {Q : zQ} (hd1 : 1 ≤ d) (h : ∀ G : Nat → zK, S_X11_folderRow d G Q → G 0 [a0, a1, a2, .inr none, .inr none] [] μ) : zCt d mX11_folderRow [a0, a1, a2] μ Q := zCt.mk (by decide) (Nat.le_of_ble_eq_true rfl) (fun p l e s m args below meth c E B hr hlk => h _ ⟨k_X11_folderRow_0 hd1 B hr hlk, k_X11_folderRow_22 hd1 B hr hlk, k_X11_folderRow_32 hd1 B hr hlk⟩)
theorem dX11_shardRow_0 : decode cX11_shardRow 0 = .ok (.aload_n 0, 1) := by decide +kernel
theorem dX11_shardRow_1 : decode cX11_shardRow 1 = .ok (.iconst 0, 1) := by decide +kernel
theorem dX11_shardRow_2 : decode cX11_shardRow 2 = .ok (.putfield 118, 3) := by decide +kernel
theorem dX11_shardRow_5 : decode cX11_shardRow 5 = .ok (.aload_n 0, 1) := by decide +kernel
theorem dX11_shardRow_6 : decode cX11_shardRow 6 = .ok (.iconst 3, 1) := by decide +kernel
theorem dX11_shardRow_7 : decode cX11_shardRow 7 = .ok (.invokevirtual 121, 3) := by decide +kernel
theorem dX11_shardRow_10 : decode cX11_shardRow 10 = .ok (.aload_n 0, 1) := by decide +kernel
theorem dX11_shardRow_11 : decode cX11_shardRow 11 = .ok (.iconst 0, 1) := by decide +kernel
theorem dX11_shardRow_12 : decode cX11_shardRow 12 = .ok (.invokevirtual 121, 3) := by decide +kernel
theorem dX11_shardRow_15 : decode cX11_shardRow 15 = .ok (.iconst 0, 1) := by decide +kernel
theorem dX11_shardRow_16 : decode cX11_shardRow 16 = .ok (.istore_n 3, 1) := by decide +kernel
theorem dX11_shardRow_17 : decode cX11_shardRow 17 = .ok (.iload_n 3, 1) := by decide +kernel
theorem dX11_shardRow_18 : decode cX11_shardRow 18 = .ok (.iconst 4, 1) := by decide +kernel
theorem dX11_shardRow_19 : decode cX11_shardRow 19 = .ok (.if_icmp .ge 63, 3) := by decide +kernel
theorem dX11_shardRow_22 : decode cX11_shardRow 22 = .ok (.iload_n 2, 1) := by decide +kernel
theorem dX11_shardRow_23 : decode cX11_shardRow 23 = .ok (.iload_n 3, 1) := by decide +kernel
theorem dX11_shardRow_24 : decode cX11_shardRow 24 = .ok (.iconst 2, 1) := by decide +kernel
theorem dX11_shardRow_25 : decode cX11_shardRow 25 = .ok (.iload_n 1, 1) := by decide +kernel
theorem dX11_shardRow_26 : decode cX11_shardRow 26 = .ok (.imul, 1) := by decide +kernel
theorem dX11_shardRow_27 : decode cX11_shardRow 27 = .ok (.ishl, 1) := by decide +kernel
theorem dX11_shardRow_28 : decode cX11_shardRow 28 = .ok (.ior, 1) := by decide +kernel
theorem dX11_shardRow_29 : decode cX11_shardRow 29 = .ok (.istore 4, 2) := by decide +kernel
theorem dX11_shardRow_31 : decode cX11_shardRow 31 = .ok (.aload_n 0, 1) := by decide +kernel
theorem dX11_shardRow_32 : decode cX11_shardRow 32 = .ok (.iload_n 1, 1) := by decide +kernel
theorem dX11_shardRow_33 : decode cX11_shardRow 33 = .ok (.iconst 1, 1) := by decide +kernel
theorem dX11_shardRow_34 : decode cX11_shardRow 34 = .ok (.iadd, 1) := by decide +kernel
theorem dX11_shardRow_35 : decode cX11_shardRow 35 = .ok (.iload 4, 2) := by decide +kernel
theorem dX11_shardRow_37 : decode cX11_shardRow 37 = .ok (.invokevirtual 184, 3) := by decide +kernel
theorem dX11_shardRow_40 : decode cX11_shardRow 40 = .ok (.ifCond .ne 6, 3) := by decide +kernel
theorem dX11_shardRow_43 : decode cX11_shardRow 43 = .ok (.goto 33, 3) := by decide +kernel
theorem dX11_shardRow_46 : decode cX11_shardRow 46 = .ok (.aload_n 0, 1) := by decide +kernel
theorem dX11_shardRow_47 : decode cX11_shardRow 47 = .ok (.getfield 71, 3) := by decide +kernel
theorem dX11_shardRow_50 : decode cX11_shardRow 50 = .ok (.iconst 1, 1) := by decide +kernel
theorem dX11_shardRow_51 : decode cX11_shardRow 51 = .ok (.dup2, 1) := by decide +kernel
theorem dX11_shardRow_52 : decode cX11_shardRow 52 = .ok (.iaload, 1) := by decide +kernel
theorem dX11_shardRow_53 : decode cX11_shardRow 53 = .ok (.iconst 1, 1) := by decide +kernel
theorem dX11_shardRow_54 : decode cX11_shardRow 54 = .ok (.iload_n 3, 1) := by decide +kernel
theorem dX11_shardRow_55 : decode cX11_shardRow 55 = .ok (.ishl, 1) := by decide +kernel
theorem dX11_shardRow_56 : decode cX11_shardRow 56 = .ok (.ior, 1) := by decide +kernel
theorem dX11_shardRow_57 : decode cX11_shardRow 57 = .ok (.iastore, 1) := by decide +kernel
theorem dX11_shardRow_58 : decode cX11_shardRow 58 = .ok (.aload_n 0, 1) := by decide +kernel
theorem dX11_shardRow_59 : decode cX11_shardRow 59 = .ok (.aload_n 0, 1) := by decide +kernel
theorem dX11_shardRow_60 : decode cX11_shardRow 60 = .ok (.getfield 101, 3) := by decide +kernel
theorem dX11_shardRow_63 : decode cX11_shardRow 63 = .ok (.iload_n 1, 1) := by decide +kernel
theorem dX11_shardRow_64 : decode cX11_shardRow 64 = .ok (.iconst 1, 1) := by decide +kernel
theorem dX11_shardRow_65 : decode cX11_shardRow 65 = .ok (.iadd, 1) := by decide +kernel
theorem dX11_shardRow_66 : decode cX11_shardRow 66 = .ok (.invokestatic 187, 3) := by decide +kernel
theorem dX11_shardRow_69 : decode cX11_shardRow 69 = .ok (.iload 4, 2) := by decide +kernel
theorem dX11_shardRow_71 : decode cX11_shardRow 71 = .ok (.iadd, 1) := by decide +kernel
theorem dX11_shardRow_72 : decode cX11_shardRow 72 = .ok (.iaload, 1) := by decide +kernel
theorem dX11_shardRow_73 : decode cX11_shardRow 73 = .ok (.invokevirtual 178, 3) := by decide +kernel
theorem dX11_shardRow_76 : decode cX11_shardRow 76 = .ok (.iinc 3 1, 3) := by decide +kernel
theorem dX11_shardRow_79 : decode cX11_shardRow 79 = .ok (.goto (-62), 3) := by decide +kernel
theorem dX11_shardRow_82 : decode cX11_shardRow 82 = .ok (.return_, 1) := by decide +kernel
def b_X11_shardRow_0 (d : Nat) (G : Nat → zK) (Q : zQ) : zK := o_al 0 <| o_c 0 <| o_pf 9 24 <| o_al 0 <| o_c 3 <| o_callv (zCt (d - 1) mX11_push) 9 2 <| o_al 0 <| o_c 0 <| o_callv (zCt (d - 1) mX11_push) 9 2 <| o_c 0 <| o_is 3 <| G 17
def b_X11_shardRow_82 (d : Nat) (G : Nat → zK) (Q : zQ) : zK := t_vret Q
def b_X11_shardRow_76 (d : Nat) (G : Nat → zK) (Q : zQ) : zK := o_inc 3 1 <| G 17
def b_X11_shardRow_46 (d : Nat) (G : Nat → zK) (Q : zQ) : zK := o_al 0 <| o_gf 9 23 <| o_c 1 <| o_dup2 <| o_iald <| o_c 1 <| o_il 3 <| o_shl <| o_or <| o_iast <| o_al 0 <| o_al 0 <| o_gf 9 40 <| o_il 1 <| o_c 1 <| o_add <| o_call (zCt (d - 1) mX11_first) 1 <| o_il 4 <| o_add <| o_iald <| o_callv (zCt (d - 1) mX11_addTwo) 9 2 <| b_X11_shardRow_76 d G Q
def b_X11_shardRow_43 (d : Nat) (G : Nat → zK) (Q : zQ) : zK := b_X11_shardRow_76 d G Q
def b_X11_shardRow_22 (d : Nat) (G : Nat → zK) (Q : zQ) : zK := o_il 2 <| o_il 3 <| o_c 2 <| o_il 1 <| o_mul <| o_shl <| o_or <| o_is 4 <| o_al 0 <| o_il 1 <| o_c 1 <| o_add <| o_il 4 <| o_callv (zCt (d - 1) mX11_countOf) 9 3 <| t_zeq (b_X11_shardRow_43 d G Q) (b_X11_shardRow_46 d G Q)
def b_X11_shardRow_17 (d : Nat) (G : Nat → zK) (Q : zQ) : zK := o_il 3 <| o_c 4 <| t_ilt (b_X11_shardRow_22 d G Q) (b_X11_shardRow_82 d G Q)
set_option maxRecDepth 20000 in
theorem k_X11_shardRow_0 {p : Program} {l : Launch} {e : Env} {s : State} {m : MethodId} {args : Array Value} {below : List Frame} {meth : Method} {c : Code} {E : zE} {d : Nat} {Q : zQ} (hd1 : 1 ≤ d) (B : zB p s m args c E mX11_shardRow.1.cls mX11_shardRow.2.1 mX11_shardRow.2.2.1) (hr : meth.sig.returnType = mX11_shardRow.2.2.2) (hlk : meth.locks = false) : zLk (zG p l e (zrm d) s m args below meth c E mX11_shardRow.2.2.1 0 0 (MQ below (zQc E Q) args s 0 0 (zaA E))) 0 (b_X11_shardRow_0 d (zG p l e (zrm d) s m args below meth c E mX11_shardRow.2.2.1 0 0 (MQ below (zQc E Q) args s 0 0 (zaA E))) Q) := by
  unfold b_X11_shardRow_0
  exact lk_aln B dX11_shardRow_0 rfl (lk_c B dX11_shardRow_1 (lk_pf (T := TX11) B cl_X11 (by decide) in_X11 tyX11_ok nmX11 zw_812 rfl (by decide +kernel) dX11_shardRow_2 (lk_aln B dX11_shardRow_5 rfl (lk_c B dX11_shardRow_6 (lk_callv (M := mX11_push) (T := TX11) (N := 41) B (zhR hd1 (by decide)) ⟨Nat.zero_le _, Nat.zero_le _⟩ cl_X11 (zw5 zw_941 zw_938 zw_940 zw_16 zw_58) (by decide +kernel) dX11_shardRow_7 (lk_aln B dX11_shardRow_10 rfl (lk_c B dX11_shardRow_11 (lk_callv (M := mX11_push) (T := TX11) (N := 41) B (zhR hd1 (by decide)) ⟨Nat.zero_le _, Nat.zero_le _⟩ cl_X11 (zw5 zw_941 zw_938 zw_940 zw_16 zw_58) (by decide +kernel) dX11_shardRow_12 (lk_c B dX11_shardRow_15 (lk_isn B dX11_shardRow_16 rfl (by decide) (fun _ _ _ h => h)))))))))))
set_option maxRecDepth 20000 in
theorem k_X11_shardRow_82 {p : Program} {l : Launch} {e : Env} {s : State} {m : MethodId} {args : Array Value} {below : List Frame} {meth : Method} {c : Code} {E : zE} {d : Nat} {Q : zQ} (hd1 : 1 ≤ d) (B : zB p s m args c E mX11_shardRow.1.cls mX11_shardRow.2.1 mX11_shardRow.2.2.1) (hr : meth.sig.returnType = mX11_shardRow.2.2.2) (hlk : meth.locks = false) : zLk (zG p l e (zrm d) s m args below meth c E mX11_shardRow.2.2.1 0 0 (MQ below (zQc E Q) args s 0 0 (zaA E))) 82 (b_X11_shardRow_82 d (zG p l e (zrm d) s m args below meth c E mX11_shardRow.2.2.1 0 0 (MQ below (zQc E Q) args s 0 0 (zaA E))) Q) := by
  unfold b_X11_shardRow_82
  exact lk_vret B hr hlk dX11_shardRow_82
set_option maxRecDepth 20000 in
theorem k_X11_shardRow_76 {p : Program} {l : Launch} {e : Env} {s : State} {m : MethodId} {args : Array Value} {below : List Frame} {meth : Method} {c : Code} {E : zE} {d : Nat} {Q : zQ} (hd1 : 1 ≤ d) (B : zB p s m args c E mX11_shardRow.1.cls mX11_shardRow.2.1 mX11_shardRow.2.2.1) (hr : meth.sig.returnType = mX11_shardRow.2.2.2) (hlk : meth.locks = false) : zLk (zG p l e (zrm d) s m args below meth c E mX11_shardRow.2.2.1 0 0 (MQ below (zQc E Q) args s 0 0 (zaA E))) 76 (b_X11_shardRow_76 d (zG p l e (zrm d) s m args below meth c E mX11_shardRow.2.2.1 0 0 (MQ below (zQc E Q) args s 0 0 (zaA E))) Q) := by
  unfold b_X11_shardRow_76
  exact lk_inc B dX11_shardRow_76 (by decide) (lk_goto B dX11_shardRow_79 (by decide) (fun _ _ _ h => h))
set_option maxRecDepth 20000 in
theorem k_X11_shardRow_46 {p : Program} {l : Launch} {e : Env} {s : State} {m : MethodId} {args : Array Value} {below : List Frame} {meth : Method} {c : Code} {E : zE} {d : Nat} {Q : zQ} (hd1 : 1 ≤ d) (B : zB p s m args c E mX11_shardRow.1.cls mX11_shardRow.2.1 mX11_shardRow.2.2.1) (hr : meth.sig.returnType = mX11_shardRow.2.2.2) (hlk : meth.locks = false) : zLk (zG p l e (zrm d) s m args below meth c E mX11_shardRow.2.2.1 0 0 (MQ below (zQc E Q) args s 0 0 (zaA E))) 46 (b_X11_shardRow_46 d (zG p l e (zrm d) s m args below meth c E mX11_shardRow.2.2.1 0 0 (MQ below (zQc E Q) args s 0 0 (zaA E))) Q) := by
  unfold b_X11_shardRow_46
  exact lk_aln B dX11_shardRow_46 rfl (lk_gf (T := TX11) B cl_X11 (by decide) in_X11 zw_811 dX11_shardRow_47 (lk_c B dX11_shardRow_50 (lk_dup2 B dX11_shardRow_51 (lk_iald B dX11_shardRow_52 (lk_c B dX11_shardRow_53 (lk_iln B dX11_shardRow_54 rfl (lk_shl B dX11_shardRow_55 (lk_or B dX11_shardRow_56 (lk_iast B dX11_shardRow_57 (lk_aln B dX11_shardRow_58 rfl (lk_aln B dX11_shardRow_59 rfl (lk_gf (T := TX11) B cl_X11 (by decide) in_X11 zw_828 dX11_shardRow_60 (lk_iln B dX11_shardRow_63 rfl (lk_c B dX11_shardRow_64 (lk_add B dX11_shardRow_65 (lk_calls (M := mX11_first) B (zhR hd1 (by decide)) ⟨Nat.zero_le _, Nat.zero_le _⟩ (zw4 zw_1045 zw_1043 zw_1044 zw_58) (by decide +kernel) dX11_shardRow_66 (lk_il B dX11_shardRow_69 (lk_add B dX11_shardRow_71 (lk_iald B dX11_shardRow_72 (lk_callv (M := mX11_addTwo) (T := TX11) (N := 41) B (zhR hd1 (by decide)) ⟨Nat.zero_le _, Nat.zero_le _⟩ cl_X11 (zw5 zw_1019 zw_1016 zw_1018 zw_33 zw_58) (by decide +kernel) dX11_shardRow_73 (k_X11_shardRow_76 hd1 B hr hlk)))))))))))))))))))))
set_option maxRecDepth 20000 in
theorem k_X11_shardRow_43 {p : Program} {l : Launch} {e : Env} {s : State} {m : MethodId} {args : Array Value} {below : List Frame} {meth : Method} {c : Code} {E : zE} {d : Nat} {Q : zQ} (hd1 : 1 ≤ d) (B : zB p s m args c E mX11_shardRow.1.cls mX11_shardRow.2.1 mX11_shardRow.2.2.1) (hr : meth.sig.returnType = mX11_shardRow.2.2.2) (hlk : meth.locks = false) : zLk (zG p l e (zrm d) s m args below meth c E mX11_shardRow.2.2.1 0 0 (MQ below (zQc E Q) args s 0 0 (zaA E))) 43 (b_X11_shardRow_43 d (zG p l e (zrm d) s m args below meth c E mX11_shardRow.2.2.1 0 0 (MQ below (zQc E Q) args s 0 0 (zaA E))) Q) := by
  unfold b_X11_shardRow_43
  exact lk_goto B dX11_shardRow_43 (by decide) (k_X11_shardRow_76 hd1 B hr hlk)
set_option maxRecDepth 20000 in
theorem k_X11_shardRow_22 {p : Program} {l : Launch} {e : Env} {s : State} {m : MethodId} {args : Array Value} {below : List Frame} {meth : Method} {c : Code} {E : zE} {d : Nat} {Q : zQ} (hd1 : 1 ≤ d) (B : zB p s m args c E mX11_shardRow.1.cls mX11_shardRow.2.1 mX11_shardRow.2.2.1) (hr : meth.sig.returnType = mX11_shardRow.2.2.2) (hlk : meth.locks = false) : zLk (zG p l e (zrm d) s m args below meth c E mX11_shardRow.2.2.1 0 0 (MQ below (zQc E Q) args s 0 0 (zaA E))) 22 (b_X11_shardRow_22 d (zG p l e (zrm d) s m args below meth c E mX11_shardRow.2.2.1 0 0 (MQ below (zQc E Q) args s 0 0 (zaA E))) Q) := by
  unfold b_X11_shardRow_22
  exact lk_iln B dX11_shardRow_22 rfl (lk_iln B dX11_shardRow_23 rfl (lk_c B dX11_shardRow_24 (lk_iln B dX11_shardRow_25 rfl (lk_mul B dX11_shardRow_26 (lk_shl B dX11_shardRow_27 (lk_or B dX11_shardRow_28 (lk_is B dX11_shardRow_29 (by decide) (lk_aln B dX11_shardRow_31 rfl (lk_iln B dX11_shardRow_32 rfl (lk_c B dX11_shardRow_33 (lk_add B dX11_shardRow_34 (lk_il B dX11_shardRow_35 (lk_callv (M := mX11_countOf) (T := TX11) (N := 41) B (zhR hd1 (by decide)) ⟨Nat.zero_le _, Nat.zero_le _⟩ cl_X11 (zw5 zw_1031 zw_1028 zw_1030 zw_35 zw_58) (by decide +kernel) dX11_shardRow_37 (lk_zne B dX11_shardRow_40 (by decide) (k_X11_shardRow_46 hd1 B hr hlk) (k_X11_shardRow_43 hd1 B hr hlk)))))))))))))))
set_option maxRecDepth 20000 in
theorem k_X11_shardRow_17 {p : Program} {l : Launch} {e : Env} {s : State} {m : MethodId} {args : Array Value} {below : List Frame} {meth : Method} {c : Code} {E : zE} {d : Nat} {Q : zQ} (hd1 : 1 ≤ d) (B : zB p s m args c E mX11_shardRow.1.cls mX11_shardRow.2.1 mX11_shardRow.2.2.1) (hr : meth.sig.returnType = mX11_shardRow.2.2.2) (hlk : meth.locks = false) : zLk (zG p l e (zrm d) s m args below meth c E mX11_shardRow.2.2.1 0 0 (MQ below (zQc E Q) args s 0 0 (zaA E))) 17 (b_X11_shardRow_17 d (zG p l e (zrm d) s m args below meth c E mX11_shardRow.2.2.1 0 0 (MQ below (zQc E Q) args s 0 0 (zaA E))) Q) := by
  unfold b_X11_shardRow_17
  exact lk_iln B dX11_shardRow_17 rfl (lk_c B dX11_shardRow_18 (lk_ige B dX11_shardRow_19 (by decide) (k_X11_shardRow_82 hd1 B hr hlk) (k_X11_shardRow_22 hd1 B hr hlk)))
def S_X11_shardRow (d : Nat) (G : Nat → zK) (Q : zQ) : Prop := zLk G 0 (b_X11_shardRow_0 d G Q) ∧ zLk G 17 (b_X11_shardRow_17 d G Q)
theorem s_X11_shardRow_0 {d : Nat} {G : Nat → zK} {Q : zQ} (h : S_X11_shardRow d G Q) {ls st : List zV} {μ : zM} (k : b_X11_shardRow_0 d G Q ls st μ) : G 0 ls st μ := h.1 ls st μ k
theorem s_X11_shardRow_17 {d : Nat} {G : Nat → zK} {Q : zQ} (h : S_X11_shardRow d G Q) {ls st : List zV} {μ : zM} (k : b_X11_shardRow_17 d G Q ls st μ) : G 17 ls st μ := h.2 ls st μ k
theorem of_X11_shardRow {d : Nat} {a0 a1 a2 : zV} {μ : zM} {Q : zQ} (hd1 : 1 ≤ d) (h : ∀ G : Nat → zK, S_X11_shardRow d G Q → G 0 [a0, a1, a2, .inr none, .inr none] [] μ) : zCt d mX11_shardRow [a0, a1, a2] μ Q := zCt.mk (by decide) (Nat.le_of_ble_eq_true rfl) (fun p l e s m args below meth c E B hr hlk => h _ ⟨k_X11_shardRow_0 hd1 B hr hlk, k_X11_shardRow_17 hd1 B hr hlk⟩)
theorem dX11_folder_0 : decode cX11_folder 0 = .ok (.iload_n 1, 1) := by decide +kernel
theorem dX11_folder_1 : decode cX11_folder 1 = .ok (.invokestatic 132, 3) := by decide +kernel
theorem dX11_folder_4 : decode cX11_folder 4 = .ok (.ifCond .ne 5, 3) := by decide +kernel
theorem dX11_folder_7 : decode cX11_folder 7 = .ok (.iconst (-1), 1) := by decide +kernel
theorem dX11_folder_8 : decode cX11_folder 8 = .ok (.ireturn, 1) := by decide +kernel
theorem dX11_folder_9 : decode cX11_folder 9 = .ok (.aload_n 0, 1) := by decide +kernel
theorem dX11_folder_10 : decode cX11_folder 10 = .ok (.iconst 0, 1) := by decide +kernel
theorem dX11_folder_11 : decode cX11_folder 11 = .ok (.putfield 161, 3) := by decide +kernel
theorem dX11_folder_14 : decode cX11_folder 14 = .ok (.aload_n 0, 1) := by decide +kernel
theorem dX11_folder_15 : decode cX11_folder 15 = .ok (.iconst 0, 1) := by decide +kernel
theorem dX11_folder_16 : decode cX11_folder 16 = .ok (.putfield 157, 3) := by decide +kernel
theorem dX11_folder_19 : decode cX11_folder 19 = .ok (.iconst 3, 1) := by decide +kernel
theorem dX11_folder_20 : decode cX11_folder 20 = .ok (.istore_n 2, 1) := by decide +kernel
theorem dX11_folder_21 : decode cX11_folder 21 = .ok (.iload_n 2, 1) := by decide +kernel
theorem dX11_folder_22 : decode cX11_folder 22 = .ok (.ifCond .lt 117, 3) := by decide +kernel
theorem dX11_folder_25 : decode cX11_folder 25 = .ok (.iconst 0, 1) := by decide +kernel
theorem dX11_folder_26 : decode cX11_folder 26 = .ok (.istore_n 3, 1) := by decide +kernel
theorem dX11_folder_27 : decode cX11_folder 27 = .ok (.iload_n 3, 1) := by decide +kernel
theorem dX11_folder_28 : decode cX11_folder 28 = .ok (.iconst 1, 1) := by decide +kernel
theorem dX11_folder_29 : decode cX11_folder 29 = .ok (.iconst 2, 1) := by decide +kernel
theorem dX11_folder_30 : decode cX11_folder 30 = .ok (.iload_n 2, 1) := by decide +kernel
theorem dX11_folder_31 : decode cX11_folder 31 = .ok (.imul, 1) := by decide +kernel
theorem dX11_folder_32 : decode cX11_folder 32 = .ok (.ishl, 1) := by decide +kernel
theorem dX11_folder_33 : decode cX11_folder 33 = .ok (.if_icmp .ge 100, 3) := by decide +kernel
theorem dX11_folder_36 : decode cX11_folder 36 = .ok (.aload_n 0, 1) := by decide +kernel
theorem dX11_folder_37 : decode cX11_folder 37 = .ok (.iload_n 2, 1) := by decide +kernel
theorem dX11_folder_38 : decode cX11_folder 38 = .ok (.iload_n 3, 1) := by decide +kernel
theorem dX11_folder_39 : decode cX11_folder 39 = .ok (.invokevirtual 184, 3) := by decide +kernel
theorem dX11_folder_42 : decode cX11_folder 42 = .ok (.istore 4, 2) := by decide +kernel
theorem dX11_folder_44 : decode cX11_folder 44 = .ok (.iload_n 2, 1) := by decide +kernel
theorem dX11_folder_45 : decode cX11_folder 45 = .ok (.ifCond .eq 30, 3) := by decide +kernel
theorem dX11_folder_48 : decode cX11_folder 48 = .ok (.iload 4, 2) := by decide +kernel
theorem dX11_folder_50 : decode cX11_folder 50 = .ok (.ifCond .le 29, 3) := by decide +kernel
theorem dX11_folder_53 : decode cX11_folder 53 = .ok (.aload_n 0, 1) := by decide +kernel
theorem dX11_folder_54 : decode cX11_folder 54 = .ok (.iload_n 2, 1) := by decide +kernel
theorem dX11_folder_55 : decode cX11_folder 55 = .ok (.iconst 1, 1) := by decide +kernel
theorem dX11_folder_56 : decode cX11_folder 56 = .ok (.isub, 1) := by decide +kernel
theorem dX11_folder_57 : decode cX11_folder 57 = .ok (.iload_n 3, 1) := by decide +kernel
theorem dX11_folder_58 : decode cX11_folder 58 = .ok (.iconst 1, 1) := by decide +kernel
theorem dX11_folder_59 : decode cX11_folder 59 = .ok (.iconst 2, 1) := by decide +kernel
theorem dX11_folder_60 : decode cX11_folder 60 = .ok (.iload_n 2, 1) := by decide +kernel
theorem dX11_folder_61 : decode cX11_folder 61 = .ok (.imul, 1) := by decide +kernel
theorem dX11_folder_62 : decode cX11_folder 62 = .ok (.iconst 2, 1) := by decide +kernel
theorem dX11_folder_63 : decode cX11_folder 63 = .ok (.isub, 1) := by decide +kernel
theorem dX11_folder_64 : decode cX11_folder 64 = .ok (.ishl, 1) := by decide +kernel
theorem dX11_folder_65 : decode cX11_folder 65 = .ok (.iconst 1, 1) := by decide +kernel
theorem dX11_folder_66 : decode cX11_folder 66 = .ok (.isub, 1) := by decide +kernel
theorem dX11_folder_67 : decode cX11_folder 67 = .ok (.iand, 1) := by decide +kernel
theorem dX11_folder_68 : decode cX11_folder 68 = .ok (.invokevirtual 184, 3) := by decide +kernel
theorem dX11_folder_71 : decode cX11_folder 71 = .ok (.iconst 4, 1) := by decide +kernel
theorem dX11_folder_72 : decode cX11_folder 72 = .ok (.if_icmp .le 7, 3) := by decide +kernel
theorem dX11_folder_75 : decode cX11_folder 75 = .ok (.iconst 1, 1) := by decide +kernel
theorem dX11_folder_76 : decode cX11_folder 76 = .ok (.goto 4, 3) := by decide +kernel
theorem dX11_folder_79 : decode cX11_folder 79 = .ok (.iconst 0, 1) := by decide +kernel
theorem dX11_folder_80 : decode cX11_folder 80 = .ok (.istore 5, 2) := by decide +kernel
theorem dX11_folder_82 : decode cX11_folder 82 = .ok (.iload 5, 2) := by decide +kernel
theorem dX11_folder_84 : decode cX11_folder 84 = .ok (.ifCond .ne 6, 3) := by decide +kernel
theorem dX11_folder_87 : decode cX11_folder 87 = .ok (.goto 40, 3) := by decide +kernel
theorem dX11_folder_90 : decode cX11_folder 90 = .ok (.iload 4, 2) := by decide +kernel
theorem dX11_folder_92 : decode cX11_folder 92 = .ok (.iconst 4, 1) := by decide +kernel
theorem dX11_folder_93 : decode cX11_folder 93 = .ok (.if_icmp .gt 12, 3) := by decide +kernel
theorem dX11_folder_96 : decode cX11_folder 96 = .ok (.aload_n 0, 1) := by decide +kernel
theorem dX11_folder_97 : decode cX11_folder 97 = .ok (.iload_n 2, 1) := by decide +kernel
theorem dX11_folder_98 : decode cX11_folder 98 = .ok (.iload_n 3, 1) := by decide +kernel
theorem dX11_folder_99 : decode cX11_folder 99 = .ok (.invokevirtual 190, 3) := by decide +kernel
theorem dX11_folder_102 : decode cX11_folder 102 = .ok (.goto 9, 3) := by decide +kernel
theorem dX11_folder_105 : decode cX11_folder 105 = .ok (.aload_n 0, 1) := by decide +kernel
theorem dX11_folder_106 : decode cX11_folder 106 = .ok (.iload_n 2, 1) := by decide +kernel
theorem dX11_folder_107 : decode cX11_folder 107 = .ok (.iload_n 3, 1) := by decide +kernel
theorem dX11_folder_108 : decode cX11_folder 108 = .ok (.invokevirtual 193, 3) := by decide +kernel
theorem dX11_folder_111 : decode cX11_folder 111 = .ok (.aload_n 0, 1) := by decide +kernel
theorem dX11_folder_112 : decode cX11_folder 112 = .ok (.getfield 101, 3) := by decide +kernel
theorem dX11_folder_115 : decode cX11_folder 115 = .ok (.iload_n 2, 1) := by decide +kernel
theorem dX11_folder_116 : decode cX11_folder 116 = .ok (.invokestatic 187, 3) := by decide +kernel
theorem dX11_folder_119 : decode cX11_folder 119 = .ok (.iload_n 3, 1) := by decide +kernel
theorem dX11_folder_120 : decode cX11_folder 120 = .ok (.iadd, 1) := by decide +kernel
theorem dX11_folder_121 : decode cX11_folder 121 = .ok (.aload_n 0, 1) := by decide +kernel
theorem dX11_folder_122 : decode cX11_folder 122 = .ok (.iload_n 1, 1) := by decide +kernel
theorem dX11_folder_123 : decode cX11_folder 123 = .ok (.invokevirtual 168, 3) := by decide +kernel
theorem dX11_folder_126 : decode cX11_folder 126 = .ok (.iastore, 1) := by decide +kernel
theorem dX11_folder_127 : decode cX11_folder 127 = .ok (.iinc 3 1, 3) := by decide +kernel
theorem dX11_folder_130 : decode cX11_folder 130 = .ok (.goto (-103), 3) := by decide +kernel
theorem dX11_folder_133 : decode cX11_folder 133 = .ok (.iinc 2 (-1), 3) := by decide +kernel
theorem dX11_folder_136 : decode cX11_folder 136 = .ok (.goto (-115), 3) := by decide +kernel
theorem dX11_folder_139 : decode cX11_folder 139 = .ok (.aload_n 0, 1) := by decide +kernel
theorem dX11_folder_140 : decode cX11_folder 140 = .ok (.getfield 101, 3) := by decide +kernel
theorem dX11_folder_143 : decode cX11_folder 143 = .ok (.iconst 0, 1) := by decide +kernel
theorem dX11_folder_144 : decode cX11_folder 144 = .ok (.iaload, 1) := by decide +kernel
theorem dX11_folder_145 : decode cX11_folder 145 = .ok (.istore_n 2, 1) := by decide +kernel
theorem dX11_folder_146 : decode cX11_folder 146 = .ok (.aload_n 0, 1) := by decide +kernel
theorem dX11_folder_147 : decode cX11_folder 147 = .ok (.iload_n 1, 1) := by decide +kernel
theorem dX11_folder_148 : decode cX11_folder 148 = .ok (.invokevirtual 175, 3) := by decide +kernel
theorem dX11_folder_151 : decode cX11_folder 151 = .ok (.istore_n 3, 1) := by decide +kernel
theorem dX11_folder_152 : decode cX11_folder 152 = .ok (.iload_n 3, 1) := by decide +kernel
theorem dX11_folder_153 : decode cX11_folder 153 = .ok (.ifCond .ge 5, 3) := by decide +kernel
theorem dX11_folder_156 : decode cX11_folder 156 = .ok (.iload_n 3, 1) := by decide +kernel
theorem dX11_folder_157 : decode cX11_folder 157 = .ok (.ireturn, 1) := by decide +kernel
theorem dX11_folder_158 : decode cX11_folder 158 = .ok (.aload_n 0, 1) := by decide +kernel
theorem dX11_folder_159 : decode cX11_folder 159 = .ok (.iconst 0, 1) := by decide +kernel
theorem dX11_folder_160 : decode cX11_folder 160 = .ok (.putfield 108, 3) := by decide +kernel
theorem dX11_folder_163 : decode cX11_folder 163 = .ok (.iload_n 2, 1) := by decide +kernel
theorem dX11_folder_164 : decode cX11_folder 164 = .ok (.ireturn, 1) := by decide +kernel
def b_X11_folder_9 (d : Nat) (G : Nat → zK) (Q : zQ) : zK := o_al 0 <| o_c 0 <| o_pf 9 25 <| o_al 0 <| o_c 0 <| o_pz 9 26 <| o_c 3 <| o_is 2 <| G 21
def b_X11_folder_7 (d : Nat) (G : Nat → zK) (Q : zQ) : zK := o_c (-1) <| t_iret Q
def b_X11_folder_0 (d : Nat) (G : Nat → zK) (Q : zQ) : zK := o_il 1 <| o_call (zCt (d - 1) mX11_isStore) 1 <| t_zeq (b_X11_folder_7 d G Q) (b_X11_folder_9 d G Q)
def b_X11_folder_158 (d : Nat) (G : Nat → zK) (Q : zQ) : zK := o_al 0 <| o_c 0 <| o_pf 9 20 <| o_il 2 <| t_iret Q
def b_X11_folder_156 (d : Nat) (G : Nat → zK) (Q : zQ) : zK := o_il 3 <| t_iret Q
def b_X11_folder_139 (d : Nat) (G : Nat → zK) (Q : zQ) : zK := o_al 0 <| o_gf 9 40 <| o_c 0 <| o_iald <| o_is 2 <| o_al 0 <| o_il 1 <| o_callv (zCt (d - 1) mX11_admit) 9 2 <| o_is 3 <| o_il 3 <| t_zlt (b_X11_folder_156 d G Q) (b_X11_folder_158 d G Q)
def b_X11_folder_25 (d : Nat) (G : Nat → zK) (Q : zQ) : zK := o_c 0 <| o_is 3 <| G 27
def b_X11_folder_21 (d : Nat) (G : Nat → zK) (Q : zQ) : zK := o_il 2 <| t_zlt (b_X11_folder_139 d G Q) (b_X11_folder_25 d G Q)
def b_X11_folder_133 (d : Nat) (G : Nat → zK) (Q : zQ) : zK := o_inc 2 (-1) <| G 21
def b_X11_folder_75 (d : Nat) (G : Nat → zK) (Q : zQ) : zK := o_c 1 <| G 80
def b_X11_folder_79 (d : Nat) (G : Nat → zK) (Q : zQ) : zK := o_c 0 <| G 80
def b_X11_folder_53 (d : Nat) (G : Nat → zK) (Q : zQ) : zK := o_al 0 <| o_il 2 <| o_c 1 <| o_sub <| o_il 3 <| o_c 1 <| o_c 2 <| o_il 2 <| o_mul <| o_c 2 <| o_sub <| o_shl <| o_c 1 <| o_sub <| o_and <| o_callv (zCt (d - 1) mX11_countOf) 9 3 <| o_c 4 <| t_igt (b_X11_folder_75 d G Q) (b_X11_folder_79 d G Q)
def b_X11_folder_48 (d : Nat) (G : Nat → zK) (Q : zQ) : zK := o_il 4 <| t_zgt (b_X11_folder_53 d G Q) (b_X11_folder_79 d G Q)
def b_X11_folder_36 (d : Nat) (G : Nat → zK) (Q : zQ) : zK := o_al 0 <| o_il 2 <| o_il 3 <| o_callv (zCt (d - 1) mX11_countOf) 9 3 <| o_is 4 <| o_il 2 <| t_zeq (b_X11_folder_75 d G Q) (b_X11_folder_48 d G Q)
def b_X11_folder_27 (d : Nat) (G : Nat → zK) (Q : zQ) : zK := o_il 3 <| o_c 1 <| o_c 2 <| o_il 2 <| o_mul <| o_shl <| t_ilt (b_X11_folder_36 d G Q) (b_X11_folder_133 d G Q)
def b_X11_folder_127 (d : Nat) (G : Nat → zK) (Q : zQ) : zK := o_inc 3 1 <| G 27
def b_X11_folder_111 (d : Nat) (G : Nat → zK) (Q : zQ) : zK := o_al 0 <| o_gf 9 40 <| o_il 2 <| o_call (zCt (d - 1) mX11_first) 1 <| o_il 3 <| o_add <| o_al 0 <| o_il 1 <| o_callv (zCt (d - 1) mX11_stage) 9 2 <| o_iast <| b_X11_folder_127 d G Q
def b_X11_folder_105 (d : Nat) (G : Nat → zK) (Q : zQ) : zK := o_al 0 <| o_il 2 <| o_il 3 <| o_callv (zCt (d - 1) mX11_shardRow) 9 3 <| b_X11_folder_111 d G Q
def b_X11_folder_96 (d : Nat) (G : Nat → zK) (Q : zQ) : zK := o_al 0 <| o_il 2 <| o_il 3 <| o_callv (zCt (d - 1) mX11_folderRow) 9 3 <| b_X11_folder_111 d G Q
def b_X11_folder_90 (d : Nat) (G : Nat → zK) (Q : zQ) : zK := o_il 4 <| o_c 4 <| t_igt (b_X11_folder_105 d G Q) (b_X11_folder_96 d G Q)
def b_X11_folder_87 (d : Nat) (G : Nat → zK) (Q : zQ) : zK := b_X11_folder_127 d G Q
def b_X11_folder_80 (d : Nat) (G : Nat → zK) (Q : zQ) : zK := o_is 5 <| o_il 5 <| t_zeq (b_X11_folder_87 d G Q) (b_X11_folder_90 d G Q)
set_option maxRecDepth 20000 in
theorem k_X11_folder_9 {p : Program} {l : Launch} {e : Env} {s : State} {m : MethodId} {args : Array Value} {below : List Frame} {meth : Method} {c : Code} {E : zE} {d : Nat} {Q : zQ} (hd1 : 1 ≤ d) (B : zB p s m args c E mX11_folder.1.cls mX11_folder.2.1 mX11_folder.2.2.1) (hr : meth.sig.returnType = mX11_folder.2.2.2) (hlk : meth.locks = false) : zLk (zG p l e (zrm d) s m args below meth c E mX11_folder.2.2.1 0 0 (MQ below (zQc E Q) args s 0 0 (zaA E))) 9 (b_X11_folder_9 d (zG p l e (zrm d) s m args below meth c E mX11_folder.2.2.1 0 0 (MQ below (zQc E Q) args s 0 0 (zaA E))) Q) := by
  unfold b_X11_folder_9
  exact lk_aln B dX11_folder_9 rfl (lk_c B dX11_folder_10 (lk_pf (T := TX11) B cl_X11 (by decide) in_X11 tyX11_ok nmX11 zw_813 rfl (by decide +kernel) dX11_folder_11 (lk_aln B dX11_folder_14 rfl (lk_c B dX11_folder_15 (lk_pz (T := TX11) B cl_X11 (by decide) in_X11 tyX11_ok nmX11 zw_814 rfl (by decide +kernel) dX11_folder_16 (lk_c B dX11_folder_19 (lk_isn B dX11_folder_20 rfl (by decide) (fun _ _ _ h => h))))))))
set_option maxRecDepth 20000 in
theorem k_X11_folder_7 {p : Program} {l : Launch} {e : Env} {s : State} {m : MethodId} {args : Array Value} {below : List Frame} {meth : Method} {c : Code} {E : zE} {d : Nat} {Q : zQ} (hd1 : 1 ≤ d) (B : zB p s m args c E mX11_folder.1.cls mX11_folder.2.1 mX11_folder.2.2.1) (hr : meth.sig.returnType = mX11_folder.2.2.2) (hlk : meth.locks = false) : zLk (zG p l e (zrm d) s m args below meth c E mX11_folder.2.2.1 0 0 (MQ below (zQc E Q) args s 0 0 (zaA E))) 7 (b_X11_folder_7 d (zG p l e (zrm d) s m args below meth c E mX11_folder.2.2.1 0 0 (MQ below (zQc E Q) args s 0 0 (zaA E))) Q) := by
  unfold b_X11_folder_7
  exact lk_c B dX11_folder_7 (lk_iret B hr hlk dX11_folder_8)
set_option maxRecDepth 20000 in
theorem k_X11_folder_0 {p : Program} {l : Launch} {e : Env} {s : State} {m : MethodId} {args : Array Value} {below : List Frame} {meth : Method} {c : Code} {E : zE} {d : Nat} {Q : zQ} (hd1 : 1 ≤ d) (B : zB p s m args c E mX11_folder.1.cls mX11_folder.2.1 mX11_folder.2.2.1) (hr : meth.sig.returnType = mX11_folder.2.2.2) (hlk : meth.locks = false) : zLk (zG p l e (zrm d) s m args below meth c E mX11_folder.2.2.1 0 0 (MQ below (zQc E Q) args s 0 0 (zaA E))) 0 (b_X11_folder_0 d (zG p l e (zrm d) s m args below meth c E mX11_folder.2.2.1 0 0 (MQ below (zQc E Q) args s 0 0 (zaA E))) Q) := by
  unfold b_X11_folder_0
  exact lk_iln B dX11_folder_0 rfl (lk_calls (M := mX11_isStore) B (zhR hd1 (by decide)) ⟨Nat.zero_le _, Nat.zero_le _⟩ (zw4 zw_944 zw_942 zw_943 zw_58) (by decide +kernel) dX11_folder_1 (lk_zne B dX11_folder_4 (by decide) (k_X11_folder_9 hd1 B hr hlk) (k_X11_folder_7 hd1 B hr hlk)))
set_option maxRecDepth 20000 in
theorem k_X11_folder_158 {p : Program} {l : Launch} {e : Env} {s : State} {m : MethodId} {args : Array Value} {below : List Frame} {meth : Method} {c : Code} {E : zE} {d : Nat} {Q : zQ} (hd1 : 1 ≤ d) (B : zB p s m args c E mX11_folder.1.cls mX11_folder.2.1 mX11_folder.2.2.1) (hr : meth.sig.returnType = mX11_folder.2.2.2) (hlk : meth.locks = false) : zLk (zG p l e (zrm d) s m args below meth c E mX11_folder.2.2.1 0 0 (MQ below (zQc E Q) args s 0 0 (zaA E))) 158 (b_X11_folder_158 d (zG p l e (zrm d) s m args below meth c E mX11_folder.2.2.1 0 0 (MQ below (zQc E Q) args s 0 0 (zaA E))) Q) := by
  unfold b_X11_folder_158
  exact lk_aln B dX11_folder_158 rfl (lk_c B dX11_folder_159 (lk_pf (T := TX11) B cl_X11 (by decide) in_X11 tyX11_ok nmX11 zw_808 rfl (by decide +kernel) dX11_folder_160 (lk_iln B dX11_folder_163 rfl (lk_iret B hr hlk dX11_folder_164))))
set_option maxRecDepth 20000 in
theorem k_X11_folder_156 {p : Program} {l : Launch} {e : Env} {s : State} {m : MethodId} {args : Array Value} {below : List Frame} {meth : Method} {c : Code} {E : zE} {d : Nat} {Q : zQ} (hd1 : 1 ≤ d) (B : zB p s m args c E mX11_folder.1.cls mX11_folder.2.1 mX11_folder.2.2.1) (hr : meth.sig.returnType = mX11_folder.2.2.2) (hlk : meth.locks = false) : zLk (zG p l e (zrm d) s m args below meth c E mX11_folder.2.2.1 0 0 (MQ below (zQc E Q) args s 0 0 (zaA E))) 156 (b_X11_folder_156 d (zG p l e (zrm d) s m args below meth c E mX11_folder.2.2.1 0 0 (MQ below (zQc E Q) args s 0 0 (zaA E))) Q) := by
  unfold b_X11_folder_156
  exact lk_iln B dX11_folder_156 rfl (lk_iret B hr hlk dX11_folder_157)
set_option maxRecDepth 20000 in
theorem k_X11_folder_139 {p : Program} {l : Launch} {e : Env} {s : State} {m : MethodId} {args : Array Value} {below : List Frame} {meth : Method} {c : Code} {E : zE} {d : Nat} {Q : zQ} (hd1 : 1 ≤ d) (B : zB p s m args c E mX11_folder.1.cls mX11_folder.2.1 mX11_folder.2.2.1) (hr : meth.sig.returnType = mX11_folder.2.2.2) (hlk : meth.locks = false) : zLk (zG p l e (zrm d) s m args below meth c E mX11_folder.2.2.1 0 0 (MQ below (zQc E Q) args s 0 0 (zaA E))) 139 (b_X11_folder_139 d (zG p l e (zrm d) s m args below meth c E mX11_folder.2.2.1 0 0 (MQ below (zQc E Q) args s 0 0 (zaA E))) Q) := by
  unfold b_X11_folder_139
  exact lk_aln B dX11_folder_139 rfl (lk_gf (T := TX11) B cl_X11 (by decide) in_X11 zw_828 dX11_folder_140 (lk_c B dX11_folder_143 (lk_iald B dX11_folder_144 (lk_isn B dX11_folder_145 rfl (by decide) (lk_aln B dX11_folder_146 rfl (lk_iln B dX11_folder_147 rfl (lk_callv (M := mX11_admit) (T := TX11) (N := 41) B (zhR hd1 (by decide)) ⟨Nat.zero_le _, Nat.zero_le _⟩ cl_X11 (zw5 zw_1023 zw_1020 zw_1022 zw_34 zw_58) (by decide +kernel) dX11_folder_148 (lk_isn B dX11_folder_151 rfl (by decide) (lk_iln B dX11_folder_152 rfl (lk_zge B dX11_folder_153 (by decide) (k_X11_folder_158 hd1 B hr hlk) (k_X11_folder_156 hd1 B hr hlk)))))))))))
set_option maxRecDepth 20000 in
theorem k_X11_folder_25 {p : Program} {l : Launch} {e : Env} {s : State} {m : MethodId} {args : Array Value} {below : List Frame} {meth : Method} {c : Code} {E : zE} {d : Nat} {Q : zQ} (hd1 : 1 ≤ d) (B : zB p s m args c E mX11_folder.1.cls mX11_folder.2.1 mX11_folder.2.2.1) (hr : meth.sig.returnType = mX11_folder.2.2.2) (hlk : meth.locks = false) : zLk (zG p l e (zrm d) s m args below meth c E mX11_folder.2.2.1 0 0 (MQ below (zQc E Q) args s 0 0 (zaA E))) 25 (b_X11_folder_25 d (zG p l e (zrm d) s m args below meth c E mX11_folder.2.2.1 0 0 (MQ below (zQc E Q) args s 0 0 (zaA E))) Q) := by
  unfold b_X11_folder_25
  exact lk_c B dX11_folder_25 (lk_isn B dX11_folder_26 rfl (by decide) (fun _ _ _ h => h))
set_option maxRecDepth 20000 in
theorem k_X11_folder_21 {p : Program} {l : Launch} {e : Env} {s : State} {m : MethodId} {args : Array Value} {below : List Frame} {meth : Method} {c : Code} {E : zE} {d : Nat} {Q : zQ} (hd1 : 1 ≤ d) (B : zB p s m args c E mX11_folder.1.cls mX11_folder.2.1 mX11_folder.2.2.1) (hr : meth.sig.returnType = mX11_folder.2.2.2) (hlk : meth.locks = false) : zLk (zG p l e (zrm d) s m args below meth c E mX11_folder.2.2.1 0 0 (MQ below (zQc E Q) args s 0 0 (zaA E))) 21 (b_X11_folder_21 d (zG p l e (zrm d) s m args below meth c E mX11_folder.2.2.1 0 0 (MQ below (zQc E Q) args s 0 0 (zaA E))) Q) := by
  unfold b_X11_folder_21
  exact lk_iln B dX11_folder_21 rfl (lk_zlt B dX11_folder_22 (by decide) (k_X11_folder_139 hd1 B hr hlk) (k_X11_folder_25 hd1 B hr hlk))
set_option maxRecDepth 20000 in
theorem k_X11_folder_133 {p : Program} {l : Launch} {e : Env} {s : State} {m : MethodId} {args : Array Value} {below : List Frame} {meth : Method} {c : Code} {E : zE} {d : Nat} {Q : zQ} (hd1 : 1 ≤ d) (B : zB p s m args c E mX11_folder.1.cls mX11_folder.2.1 mX11_folder.2.2.1) (hr : meth.sig.returnType = mX11_folder.2.2.2) (hlk : meth.locks = false) : zLk (zG p l e (zrm d) s m args below meth c E mX11_folder.2.2.1 0 0 (MQ below (zQc E Q) args s 0 0 (zaA E))) 133 (b_X11_folder_133 d (zG p l e (zrm d) s m args below meth c E mX11_folder.2.2.1 0 0 (MQ below (zQc E Q) args s 0 0 (zaA E))) Q) := by
  unfold b_X11_folder_133
  exact lk_inc B dX11_folder_133 (by decide) (lk_goto B dX11_folder_136 (by decide) (fun _ _ _ h => h))
set_option maxRecDepth 20000 in
theorem k_X11_folder_75 {p : Program} {l : Launch} {e : Env} {s : State} {m : MethodId} {args : Array Value} {below : List Frame} {meth : Method} {c : Code} {E : zE} {d : Nat} {Q : zQ} (hd1 : 1 ≤ d) (B : zB p s m args c E mX11_folder.1.cls mX11_folder.2.1 mX11_folder.2.2.1) (hr : meth.sig.returnType = mX11_folder.2.2.2) (hlk : meth.locks = false) : zLk (zG p l e (zrm d) s m args below meth c E mX11_folder.2.2.1 0 0 (MQ below (zQc E Q) args s 0 0 (zaA E))) 75 (b_X11_folder_75 d (zG p l e (zrm d) s m args below meth c E mX11_folder.2.2.1 0 0 (MQ below (zQc E Q) args s 0 0 (zaA E))) Q) := by
  unfold b_X11_folder_75
  exact lk_c B dX11_folder_75 (lk_goto B dX11_folder_76 (by decide) (fun _ _ _ h => h))
set_option maxRecDepth 20000 in
theorem k_X11_folder_79 {p : Program} {l : Launch} {e : Env} {s : State} {m : MethodId} {args : Array Value} {below : List Frame} {meth : Method} {c : Code} {E : zE} {d : Nat} {Q : zQ} (hd1 : 1 ≤ d) (B : zB p s m args c E mX11_folder.1.cls mX11_folder.2.1 mX11_folder.2.2.1) (hr : meth.sig.returnType = mX11_folder.2.2.2) (hlk : meth.locks = false) : zLk (zG p l e (zrm d) s m args below meth c E mX11_folder.2.2.1 0 0 (MQ below (zQc E Q) args s 0 0 (zaA E))) 79 (b_X11_folder_79 d (zG p l e (zrm d) s m args below meth c E mX11_folder.2.2.1 0 0 (MQ below (zQc E Q) args s 0 0 (zaA E))) Q) := by
  unfold b_X11_folder_79
  exact lk_c B dX11_folder_79 (fun _ _ _ h => h)
set_option maxRecDepth 20000 in
theorem k_X11_folder_53 {p : Program} {l : Launch} {e : Env} {s : State} {m : MethodId} {args : Array Value} {below : List Frame} {meth : Method} {c : Code} {E : zE} {d : Nat} {Q : zQ} (hd1 : 1 ≤ d) (B : zB p s m args c E mX11_folder.1.cls mX11_folder.2.1 mX11_folder.2.2.1) (hr : meth.sig.returnType = mX11_folder.2.2.2) (hlk : meth.locks = false) : zLk (zG p l e (zrm d) s m args below meth c E mX11_folder.2.2.1 0 0 (MQ below (zQc E Q) args s 0 0 (zaA E))) 53 (b_X11_folder_53 d (zG p l e (zrm d) s m args below meth c E mX11_folder.2.2.1 0 0 (MQ below (zQc E Q) args s 0 0 (zaA E))) Q) := by
  unfold b_X11_folder_53
  exact lk_aln B dX11_folder_53 rfl (lk_iln B dX11_folder_54 rfl (lk_c B dX11_folder_55 (lk_sub B dX11_folder_56 (lk_iln B dX11_folder_57 rfl (lk_c B dX11_folder_58 (lk_c B dX11_folder_59 (lk_iln B dX11_folder_60 rfl (lk_mul B dX11_folder_61 (lk_c B dX11_folder_62 (lk_sub B dX11_folder_63 (lk_shl B dX11_folder_64 (lk_c B dX11_folder_65 (lk_sub B dX11_folder_66 (lk_and B dX11_folder_67 (lk_callv (M := mX11_countOf) (T := TX11) (N := 41) B (zhR hd1 (by decide)) ⟨Nat.zero_le _, Nat.zero_le _⟩ cl_X11 (zw5 zw_1031 zw_1028 zw_1030 zw_35 zw_58) (by decide +kernel) dX11_folder_68 (lk_c B dX11_folder_71 (lk_ile B dX11_folder_72 (by decide) (k_X11_folder_79 hd1 B hr hlk) (k_X11_folder_75 hd1 B hr hlk))))))))))))))))))
set_option maxRecDepth 20000 in
theorem k_X11_folder_48 {p : Program} {l : Launch} {e : Env} {s : State} {m : MethodId} {args : Array Value} {below : List Frame} {meth : Method} {c : Code} {E : zE} {d : Nat} {Q : zQ} (hd1 : 1 ≤ d) (B : zB p s m args c E mX11_folder.1.cls mX11_folder.2.1 mX11_folder.2.2.1) (hr : meth.sig.returnType = mX11_folder.2.2.2) (hlk : meth.locks = false) : zLk (zG p l e (zrm d) s m args below meth c E mX11_folder.2.2.1 0 0 (MQ below (zQc E Q) args s 0 0 (zaA E))) 48 (b_X11_folder_48 d (zG p l e (zrm d) s m args below meth c E mX11_folder.2.2.1 0 0 (MQ below (zQc E Q) args s 0 0 (zaA E))) Q) := by
  unfold b_X11_folder_48
  exact lk_il B dX11_folder_48 (lk_zle B dX11_folder_50 (by decide) (k_X11_folder_79 hd1 B hr hlk) (k_X11_folder_53 hd1 B hr hlk))
set_option maxRecDepth 20000 in
theorem k_X11_folder_36 {p : Program} {l : Launch} {e : Env} {s : State} {m : MethodId} {args : Array Value} {below : List Frame} {meth : Method} {c : Code} {E : zE} {d : Nat} {Q : zQ} (hd1 : 1 ≤ d) (B : zB p s m args c E mX11_folder.1.cls mX11_folder.2.1 mX11_folder.2.2.1) (hr : meth.sig.returnType = mX11_folder.2.2.2) (hlk : meth.locks = false) : zLk (zG p l e (zrm d) s m args below meth c E mX11_folder.2.2.1 0 0 (MQ below (zQc E Q) args s 0 0 (zaA E))) 36 (b_X11_folder_36 d (zG p l e (zrm d) s m args below meth c E mX11_folder.2.2.1 0 0 (MQ below (zQc E Q) args s 0 0 (zaA E))) Q) := by
  unfold b_X11_folder_36
  exact lk_aln B dX11_folder_36 rfl (lk_iln B dX11_folder_37 rfl (lk_iln B dX11_folder_38 rfl (lk_callv (M := mX11_countOf) (T := TX11) (N := 41) B (zhR hd1 (by decide)) ⟨Nat.zero_le _, Nat.zero_le _⟩ cl_X11 (zw5 zw_1031 zw_1028 zw_1030 zw_35 zw_58) (by decide +kernel) dX11_folder_39 (lk_is B dX11_folder_42 (by decide) (lk_iln B dX11_folder_44 rfl (lk_zeq B dX11_folder_45 (by decide) (k_X11_folder_75 hd1 B hr hlk) (k_X11_folder_48 hd1 B hr hlk)))))))
set_option maxRecDepth 20000 in
theorem k_X11_folder_27 {p : Program} {l : Launch} {e : Env} {s : State} {m : MethodId} {args : Array Value} {below : List Frame} {meth : Method} {c : Code} {E : zE} {d : Nat} {Q : zQ} (hd1 : 1 ≤ d) (B : zB p s m args c E mX11_folder.1.cls mX11_folder.2.1 mX11_folder.2.2.1) (hr : meth.sig.returnType = mX11_folder.2.2.2) (hlk : meth.locks = false) : zLk (zG p l e (zrm d) s m args below meth c E mX11_folder.2.2.1 0 0 (MQ below (zQc E Q) args s 0 0 (zaA E))) 27 (b_X11_folder_27 d (zG p l e (zrm d) s m args below meth c E mX11_folder.2.2.1 0 0 (MQ below (zQc E Q) args s 0 0 (zaA E))) Q) := by
  unfold b_X11_folder_27
  exact lk_iln B dX11_folder_27 rfl (lk_c B dX11_folder_28 (lk_c B dX11_folder_29 (lk_iln B dX11_folder_30 rfl (lk_mul B dX11_folder_31 (lk_shl B dX11_folder_32 (lk_ige B dX11_folder_33 (by decide) (k_X11_folder_133 hd1 B hr hlk) (k_X11_folder_36 hd1 B hr hlk)))))))
set_option maxRecDepth 20000 in
theorem k_X11_folder_127 {p : Program} {l : Launch} {e : Env} {s : State} {m : MethodId} {args : Array Value} {below : List Frame} {meth : Method} {c : Code} {E : zE} {d : Nat} {Q : zQ} (hd1 : 1 ≤ d) (B : zB p s m args c E mX11_folder.1.cls mX11_folder.2.1 mX11_folder.2.2.1) (hr : meth.sig.returnType = mX11_folder.2.2.2) (hlk : meth.locks = false) : zLk (zG p l e (zrm d) s m args below meth c E mX11_folder.2.2.1 0 0 (MQ below (zQc E Q) args s 0 0 (zaA E))) 127 (b_X11_folder_127 d (zG p l e (zrm d) s m args below meth c E mX11_folder.2.2.1 0 0 (MQ below (zQc E Q) args s 0 0 (zaA E))) Q) := by
  unfold b_X11_folder_127
  exact lk_inc B dX11_folder_127 (by decide) (lk_goto B dX11_folder_130 (by decide) (fun _ _ _ h => h))
set_option maxRecDepth 20000 in
theorem k_X11_folder_111 {p : Program} {l : Launch} {e : Env} {s : State} {m : MethodId} {args : Array Value} {below : List Frame} {meth : Method} {c : Code} {E : zE} {d : Nat} {Q : zQ} (hd1 : 1 ≤ d) (B : zB p s m args c E mX11_folder.1.cls mX11_folder.2.1 mX11_folder.2.2.1) (hr : meth.sig.returnType = mX11_folder.2.2.2) (hlk : meth.locks = false) : zLk (zG p l e (zrm d) s m args below meth c E mX11_folder.2.2.1 0 0 (MQ below (zQc E Q) args s 0 0 (zaA E))) 111 (b_X11_folder_111 d (zG p l e (zrm d) s m args below meth c E mX11_folder.2.2.1 0 0 (MQ below (zQc E Q) args s 0 0 (zaA E))) Q) := by
  unfold b_X11_folder_111
  exact lk_aln B dX11_folder_111 rfl (lk_gf (T := TX11) B cl_X11 (by decide) in_X11 zw_828 dX11_folder_112 (lk_iln B dX11_folder_115 rfl (lk_calls (M := mX11_first) B (zhR hd1 (by decide)) ⟨Nat.zero_le _, Nat.zero_le _⟩ (zw4 zw_1045 zw_1043 zw_1044 zw_58) (by decide +kernel) dX11_folder_116 (lk_iln B dX11_folder_119 rfl (lk_add B dX11_folder_120 (lk_aln B dX11_folder_121 rfl (lk_iln B dX11_folder_122 rfl (lk_callv (M := mX11_stage) (T := TX11) (N := 41) B (zhR hd1 (by decide)) ⟨Nat.zero_le _, Nat.zero_le _⟩ cl_X11 (zw5 zw_1011 zw_1008 zw_1010 zw_31 zw_58) (by decide +kernel) dX11_folder_123 (lk_iast B dX11_folder_126 (k_X11_folder_127 hd1 B hr hlk))))))))))
set_option maxRecDepth 20000 in
theorem k_X11_folder_105 {p : Program} {l : Launch} {e : Env} {s : State} {m : MethodId} {args : Array Value} {below : List Frame} {meth : Method} {c : Code} {E : zE} {d : Nat} {Q : zQ} (hd1 : 1 ≤ d) (B : zB p s m args c E mX11_folder.1.cls mX11_folder.2.1 mX11_folder.2.2.1) (hr : meth.sig.returnType = mX11_folder.2.2.2) (hlk : meth.locks = false) : zLk (zG p l e (zrm d) s m args below meth c E mX11_folder.2.2.1 0 0 (MQ below (zQc E Q) args s 0 0 (zaA E))) 105 (b_X11_folder_105 d (zG p l e (zrm d) s m args below meth c E mX11_folder.2.2.1 0 0 (MQ below (zQc E Q) args s 0 0 (zaA E))) Q) := by
  unfold b_X11_folder_105
  exact lk_aln B dX11_folder_105 rfl (lk_iln B dX11_folder_106 rfl (lk_iln B dX11_folder_107 rfl (lk_callv (M := mX11_shardRow) (T := TX11) (N := 41) B (zhR hd1 (by decide)) ⟨Nat.zero_le _, Nat.zero_le _⟩ cl_X11 (zw5 zw_1042 zw_1039 zw_1041 zw_37 zw_58) (by decide +kernel) dX11_folder_108 (k_X11_folder_111 hd1 B hr hlk))))
set_option maxRecDepth 20000 in
theorem k_X11_folder_96 {p : Program} {l : Launch} {e : Env} {s : State} {m : MethodId} {args : Array Value} {below : List Frame} {meth : Method} {c : Code} {E : zE} {d : Nat} {Q : zQ} (hd1 : 1 ≤ d) (B : zB p s m args c E mX11_folder.1.cls mX11_folder.2.1 mX11_folder.2.2.1) (hr : meth.sig.returnType = mX11_folder.2.2.2) (hlk : meth.locks = false) : zLk (zG p l e (zrm d) s m args below meth c E mX11_folder.2.2.1 0 0 (MQ below (zQc E Q) args s 0 0 (zaA E))) 96 (b_X11_folder_96 d (zG p l e (zrm d) s m args below meth c E mX11_folder.2.2.1 0 0 (MQ below (zQc E Q) args s 0 0 (zaA E))) Q) := by
  unfold b_X11_folder_96
  exact lk_aln B dX11_folder_96 rfl (lk_iln B dX11_folder_97 rfl (lk_iln B dX11_folder_98 rfl (lk_callv (M := mX11_folderRow) (T := TX11) (N := 41) B (zhR hd1 (by decide)) ⟨Nat.zero_le _, Nat.zero_le _⟩ cl_X11 (zw5 zw_1038 zw_1035 zw_1037 zw_36 zw_58) (by decide +kernel) dX11_folder_99 (lk_goto B dX11_folder_102 (by decide) (k_X11_folder_111 hd1 B hr hlk)))))
set_option maxRecDepth 20000 in
theorem k_X11_folder_90 {p : Program} {l : Launch} {e : Env} {s : State} {m : MethodId} {args : Array Value} {below : List Frame} {meth : Method} {c : Code} {E : zE} {d : Nat} {Q : zQ} (hd1 : 1 ≤ d) (B : zB p s m args c E mX11_folder.1.cls mX11_folder.2.1 mX11_folder.2.2.1) (hr : meth.sig.returnType = mX11_folder.2.2.2) (hlk : meth.locks = false) : zLk (zG p l e (zrm d) s m args below meth c E mX11_folder.2.2.1 0 0 (MQ below (zQc E Q) args s 0 0 (zaA E))) 90 (b_X11_folder_90 d (zG p l e (zrm d) s m args below meth c E mX11_folder.2.2.1 0 0 (MQ below (zQc E Q) args s 0 0 (zaA E))) Q) := by
  unfold b_X11_folder_90
  exact lk_il B dX11_folder_90 (lk_c B dX11_folder_92 (lk_igt B dX11_folder_93 (by decide) (k_X11_folder_105 hd1 B hr hlk) (k_X11_folder_96 hd1 B hr hlk)))
set_option maxRecDepth 20000 in
theorem k_X11_folder_87 {p : Program} {l : Launch} {e : Env} {s : State} {m : MethodId} {args : Array Value} {below : List Frame} {meth : Method} {c : Code} {E : zE} {d : Nat} {Q : zQ} (hd1 : 1 ≤ d) (B : zB p s m args c E mX11_folder.1.cls mX11_folder.2.1 mX11_folder.2.2.1) (hr : meth.sig.returnType = mX11_folder.2.2.2) (hlk : meth.locks = false) : zLk (zG p l e (zrm d) s m args below meth c E mX11_folder.2.2.1 0 0 (MQ below (zQc E Q) args s 0 0 (zaA E))) 87 (b_X11_folder_87 d (zG p l e (zrm d) s m args below meth c E mX11_folder.2.2.1 0 0 (MQ below (zQc E Q) args s 0 0 (zaA E))) Q) := by
  unfold b_X11_folder_87
  exact lk_goto B dX11_folder_87 (by decide) (k_X11_folder_127 hd1 B hr hlk)
set_option maxRecDepth 20000 in
theorem k_X11_folder_80 {p : Program} {l : Launch} {e : Env} {s : State} {m : MethodId} {args : Array Value} {below : List Frame} {meth : Method} {c : Code} {E : zE} {d : Nat} {Q : zQ} (hd1 : 1 ≤ d) (B : zB p s m args c E mX11_folder.1.cls mX11_folder.2.1 mX11_folder.2.2.1) (hr : meth.sig.returnType = mX11_folder.2.2.2) (hlk : meth.locks = false) : zLk (zG p l e (zrm d) s m args below meth c E mX11_folder.2.2.1 0 0 (MQ below (zQc E Q) args s 0 0 (zaA E))) 80 (b_X11_folder_80 d (zG p l e (zrm d) s m args below meth c E mX11_folder.2.2.1 0 0 (MQ below (zQc E Q) args s 0 0 (zaA E))) Q) := by
  unfold b_X11_folder_80
  exact lk_is B dX11_folder_80 (by decide) (lk_il B dX11_folder_82 (lk_zne B dX11_folder_84 (by decide) (k_X11_folder_90 hd1 B hr hlk) (k_X11_folder_87 hd1 B hr hlk)))
def S_X11_folder (d : Nat) (G : Nat → zK) (Q : zQ) : Prop := zLk G 0 (b_X11_folder_0 d G Q) ∧ zLk G 21 (b_X11_folder_21 d G Q) ∧ zLk G 27 (b_X11_folder_27 d G Q) ∧ zLk G 80 (b_X11_folder_80 d G Q)
theorem s_X11_folder_0 {d : Nat} {G : Nat → zK} {Q : zQ} (h : S_X11_folder d G Q) {ls st : List zV} {μ : zM} (k : b_X11_folder_0 d G Q ls st μ) : G 0 ls st μ := h.1 ls st μ k
theorem s_X11_folder_21 {d : Nat} {G : Nat → zK} {Q : zQ} (h : S_X11_folder d G Q) {ls st : List zV} {μ : zM} (k : b_X11_folder_21 d G Q ls st μ) : G 21 ls st μ := h.2.1 ls st μ k
theorem s_X11_folder_27 {d : Nat} {G : Nat → zK} {Q : zQ} (h : S_X11_folder d G Q) {ls st : List zV} {μ : zM} (k : b_X11_folder_27 d G Q ls st μ) : G 27 ls st μ := h.2.2.1 ls st μ k
theorem s_X11_folder_80 {d : Nat} {G : Nat → zK} {Q : zQ} (h : S_X11_folder d G Q) {ls st : List zV} {μ : zM} (k : b_X11_folder_80 d G Q ls st μ) : G 80 ls st μ := h.2.2.2 ls st μ k
theorem of_X11_folder {d : Nat} {a0 a1 : zV} {μ : zM} {Q : zQ} (hd1 : 1 ≤ d) (h : ∀ G : Nat → zK, S_X11_folder d G Q → G 0 [a0, a1, .inr none, .inr none, .inr none, .inr none] [] μ) : zCt d mX11_folder [a0, a1] μ Q := zCt.mk (by decide) (Nat.le_of_ble_eq_true rfl) (fun p l e s m args below meth c E B hr hlk => h _ ⟨k_X11_folder_0 hd1 B hr hlk, k_X11_folder_21 hd1 B hr hlk, k_X11_folder_27 hd1 B hr hlk, k_X11_folder_80 hd1 B hr hlk⟩)
theorem dX11_cell_0 : decode cX11_cell 0 = .ok (.aload_n 0, 1) := by decide +kernel
theorem dX11_cell_1 : decode cX11_cell 1 = .ok (.getfield 19, 3) := by decide +kernel
theorem dX11_cell_4 : decode cX11_cell 4 = .ok (.bipush 18, 2) := by decide +kernel
theorem dX11_cell_6 : decode cX11_cell 6 = .ok (.iload_n 1, 1) := by decide +kernel
theorem dX11_cell_7 : decode cX11_cell 7 = .ok (.imul, 1) := by decide +kernel
theorem dX11_cell_8 : decode cX11_cell 8 = .ok (.iload_n 2, 1) := by decide +kernel
theorem dX11_cell_9 : decode cX11_cell 9 = .ok (.iadd, 1) := by decide +kernel
theorem dX11_cell_10 : decode cX11_cell 10 = .ok (.iaload, 1) := by decide +kernel
theorem dX11_cell_11 : decode cX11_cell 11 = .ok (.ireturn, 1) := by decide +kernel
def b_X11_cell_0 (d : Nat) (G : Nat → zK) (Q : zQ) : zK := o_al 0 <| o_gf 9 3 <| o_c 18 <| o_il 1 <| o_mul <| o_il 2 <| o_add <| o_iald <| t_iret Q
set_option maxRecDepth 20000 in
theorem k_X11_cell_0 {p : Program} {l : Launch} {e : Env} {s : State} {m : MethodId} {args : Array Value} {below : List Frame} {meth : Method} {c : Code} {E : zE} {d : Nat} {Q : zQ} (B : zB p s m args c E mX11_cell.1.cls mX11_cell.2.1 mX11_cell.2.2.1) (hr : meth.sig.returnType = mX11_cell.2.2.2) (hlk : meth.locks = false) : zLk (zG p l e (zrm d) s m args below meth c E mX11_cell.2.2.1 0 0 (MQ below (zQc E Q) args s 0 0 (zaA E))) 0 (b_X11_cell_0 d (zG p l e (zrm d) s m args below meth c E mX11_cell.2.2.1 0 0 (MQ below (zQc E Q) args s 0 0 (zaA E))) Q) := by
  unfold b_X11_cell_0
  exact lk_aln B dX11_cell_0 rfl (lk_gf (T := TX11) B cl_X11 (by decide) in_X11 zw_791 dX11_cell_1 (lk_b B dX11_cell_4 rfl (lk_iln B dX11_cell_6 rfl (lk_mul B dX11_cell_7 (lk_iln B dX11_cell_8 rfl (lk_add B dX11_cell_9 (lk_iald B dX11_cell_10 (lk_iret B hr hlk dX11_cell_11))))))))
def S_X11_cell (d : Nat) (G : Nat → zK) (Q : zQ) : Prop := zLk G 0 (b_X11_cell_0 d G Q)
theorem s_X11_cell_0 {d : Nat} {G : Nat → zK} {Q : zQ} (h : S_X11_cell d G Q) {ls st : List zV} {μ : zM} (k : b_X11_cell_0 d G Q ls st μ) : G 0 ls st μ := h ls st μ k
theorem of_X11_cell {d : Nat} {a0 a1 a2 : zV} {μ : zM} {Q : zQ} (h : ∀ G : Nat → zK, S_X11_cell d G Q → G 0 [a0, a1, a2] [] μ) : zCt d mX11_cell [a0, a1, a2] μ Q := zCt.mk (by decide) (Nat.le_of_ble_eq_true rfl) (fun p l e s m args below meth c E B hr hlk => h _ (k_X11_cell_0 B hr hlk))
theorem dX11_pair_0 : decode cX11_pair 0 = .ok (.aload_n 0, 1) := by decide +kernel
theorem dX11_pair_1 : decode cX11_pair 1 = .ok (.iload_n 1, 1) := by decide +kernel
theorem dX11_pair_2 : decode cX11_pair 2 = .ok (.iload_n 2, 1) := by decide +kernel
theorem dX11_pair_3 : decode cX11_pair 3 = .ok (.invokevirtual 196, 3) := by decide +kernel
theorem dX11_pair_6 : decode cX11_pair 6 = .ok (.sipush 256, 3) := by decide +kernel
theorem dX11_pair_9 : decode cX11_pair 9 = .ok (.aload_n 0, 1) := by decide +kernel
theorem dX11_pair_10 : decode cX11_pair 10 = .ok (.iload_n 1, 1) := by decide +kernel
theorem dX11_pair_11 : decode cX11_pair 11 = .ok (.iload_n 2, 1) := by decide +kernel
theorem dX11_pair_12 : decode cX11_pair 12 = .ok (.iconst 1, 1) := by decide +kernel
theorem dX11_pair_13 : decode cX11_pair 13 = .ok (.iadd, 1) := by decide +kernel
theorem dX11_pair_14 : decode cX11_pair 14 = .ok (.invokevirtual 196, 3) := by decide +kernel
theorem dX11_pair_17 : decode cX11_pair 17 = .ok (.imul, 1) := by decide +kernel
theorem dX11_pair_18 : decode cX11_pair 18 = .ok (.iadd, 1) := by decide +kernel
theorem dX11_pair_19 : decode cX11_pair 19 = .ok (.ireturn, 1) := by decide +kernel
def b_X11_pair_0 (d : Nat) (G : Nat → zK) (Q : zQ) : zK := o_al 0 <| o_il 1 <| o_il 2 <| o_callv (zCt (d - 1) mX11_cell) 9 3 <| o_c 256 <| o_al 0 <| o_il 1 <| o_il 2 <| o_c 1 <| o_add <| o_callv (zCt (d - 1) mX11_cell) 9 3 <| o_mul <| o_add <| t_iret Q
set_option maxRecDepth 20000 in
theorem k_X11_pair_0 {p : Program} {l : Launch} {e : Env} {s : State} {m : MethodId} {args : Array Value} {below : List Frame} {meth : Method} {c : Code} {E : zE} {d : Nat} {Q : zQ} (hd1 : 1 ≤ d) (B : zB p s m args c E mX11_pair.1.cls mX11_pair.2.1 mX11_pair.2.2.1) (hr : meth.sig.returnType = mX11_pair.2.2.2) (hlk : meth.locks = false) : zLk (zG p l e (zrm d) s m args below meth c E mX11_pair.2.2.1 0 0 (MQ below (zQc E Q) args s 0 0 (zaA E))) 0 (b_X11_pair_0 d (zG p l e (zrm d) s m args below meth c E mX11_pair.2.2.1 0 0 (MQ below (zQc E Q) args s 0 0 (zaA E))) Q) := by
  unfold b_X11_pair_0
  exact lk_aln B dX11_pair_0 rfl (lk_iln B dX11_pair_1 rfl (lk_iln B dX11_pair_2 rfl (lk_callv (M := mX11_cell) (T := TX11) (N := 41) B (zhR hd1 (by decide)) ⟨Nat.zero_le _, Nat.zero_le _⟩ cl_X11 (zw5 zw_995 zw_992 zw_994 zw_28 zw_58) (by decide +kernel) dX11_pair_3 (lk_s B dX11_pair_6 rfl (lk_aln B dX11_pair_9 rfl (lk_iln B dX11_pair_10 rfl (lk_iln B dX11_pair_11 rfl (lk_c B dX11_pair_12 (lk_add B dX11_pair_13 (lk_callv (M := mX11_cell) (T := TX11) (N := 41) B (zhR hd1 (by decide)) ⟨Nat.zero_le _, Nat.zero_le _⟩ cl_X11 (zw5 zw_995 zw_992 zw_994 zw_28 zw_58) (by decide +kernel) dX11_pair_14 (lk_mul B dX11_pair_17 (lk_add B dX11_pair_18 (lk_iret B hr hlk dX11_pair_19)))))))))))))
def S_X11_pair (d : Nat) (G : Nat → zK) (Q : zQ) : Prop := zLk G 0 (b_X11_pair_0 d G Q)
theorem s_X11_pair_0 {d : Nat} {G : Nat → zK} {Q : zQ} (h : S_X11_pair d G Q) {ls st : List zV} {μ : zM} (k : b_X11_pair_0 d G Q ls st μ) : G 0 ls st μ := h ls st μ k
theorem of_X11_pair {d : Nat} {a0 a1 a2 : zV} {μ : zM} {Q : zQ} (hd1 : 1 ≤ d) (h : ∀ G : Nat → zK, S_X11_pair d G Q → G 0 [a0, a1, a2] [] μ) : zCt d mX11_pair [a0, a1, a2] μ Q := zCt.mk (by decide) (Nat.le_of_ble_eq_true rfl) (fun p l e s m args below meth c E B hr hlk => h _ (k_X11_pair_0 hd1 B hr hlk))
theorem dX11_blockAt_0 : decode cX11_blockAt 0 = .ok (.iload_n 1, 1) := by decide +kernel
theorem dX11_blockAt_1 : decode cX11_blockAt 1 = .ok (.invokestatic 132, 3) := by decide +kernel
theorem dX11_blockAt_4 : decode cX11_blockAt 4 = .ok (.ifCond .eq 12, 3) := by decide +kernel
theorem dX11_blockAt_7 : decode cX11_blockAt 7 = .ok (.aload_n 0, 1) := by decide +kernel
theorem dX11_blockAt_8 : decode cX11_blockAt 8 = .ok (.iload_n 1, 1) := by decide +kernel
theorem dX11_blockAt_9 : decode cX11_blockAt 9 = .ok (.iload_n 2, 1) := by decide +kernel
theorem dX11_blockAt_10 : decode cX11_blockAt 10 = .ok (.invokevirtual 144, 3) := by decide +kernel
theorem dX11_blockAt_13 : decode cX11_blockAt 13 = .ok (.goto 4, 3) := by decide +kernel
theorem dX11_blockAt_16 : decode cX11_blockAt 16 = .ok (.iconst (-1), 1) := by decide +kernel
theorem dX11_blockAt_17 : decode cX11_blockAt 17 = .ok (.ireturn, 1) := by decide +kernel
def b_X11_blockAt_17 (d : Nat) (G : Nat → zK) (Q : zQ) : zK := t_iret Q
def b_X11_blockAt_16 (d : Nat) (G : Nat → zK) (Q : zQ) : zK := o_c (-1) <| b_X11_blockAt_17 d G Q
def b_X11_blockAt_7 (d : Nat) (G : Nat → zK) (Q : zQ) : zK := o_al 0 <| o_il 1 <| o_il 2 <| o_callv (zCt (d - 1) mX11_where) 9 3 <| b_X11_blockAt_17 d G Q
def b_X11_blockAt_0 (d : Nat) (G : Nat → zK) (Q : zQ) : zK := o_il 1 <| o_call (zCt (d - 1) mX11_isStore) 1 <| t_zeq (b_X11_blockAt_16 d G Q) (b_X11_blockAt_7 d G Q)
set_option maxRecDepth 20000 in
theorem k_X11_blockAt_17 {p : Program} {l : Launch} {e : Env} {s : State} {m : MethodId} {args : Array Value} {below : List Frame} {meth : Method} {c : Code} {E : zE} {d : Nat} {Q : zQ} (hd1 : 1 ≤ d) (B : zB p s m args c E mX11_blockAt.1.cls mX11_blockAt.2.1 mX11_blockAt.2.2.1) (hr : meth.sig.returnType = mX11_blockAt.2.2.2) (hlk : meth.locks = false) : zLk (zG p l e (zrm d) s m args below meth c E mX11_blockAt.2.2.1 0 0 (MQ below (zQc E Q) args s 0 0 (zaA E))) 17 (b_X11_blockAt_17 d (zG p l e (zrm d) s m args below meth c E mX11_blockAt.2.2.1 0 0 (MQ below (zQc E Q) args s 0 0 (zaA E))) Q) := by
  unfold b_X11_blockAt_17
  exact lk_iret B hr hlk dX11_blockAt_17
set_option maxRecDepth 20000 in
theorem k_X11_blockAt_16 {p : Program} {l : Launch} {e : Env} {s : State} {m : MethodId} {args : Array Value} {below : List Frame} {meth : Method} {c : Code} {E : zE} {d : Nat} {Q : zQ} (hd1 : 1 ≤ d) (B : zB p s m args c E mX11_blockAt.1.cls mX11_blockAt.2.1 mX11_blockAt.2.2.1) (hr : meth.sig.returnType = mX11_blockAt.2.2.2) (hlk : meth.locks = false) : zLk (zG p l e (zrm d) s m args below meth c E mX11_blockAt.2.2.1 0 0 (MQ below (zQc E Q) args s 0 0 (zaA E))) 16 (b_X11_blockAt_16 d (zG p l e (zrm d) s m args below meth c E mX11_blockAt.2.2.1 0 0 (MQ below (zQc E Q) args s 0 0 (zaA E))) Q) := by
  unfold b_X11_blockAt_16
  exact lk_c B dX11_blockAt_16 (k_X11_blockAt_17 hd1 B hr hlk)
set_option maxRecDepth 20000 in
theorem k_X11_blockAt_7 {p : Program} {l : Launch} {e : Env} {s : State} {m : MethodId} {args : Array Value} {below : List Frame} {meth : Method} {c : Code} {E : zE} {d : Nat} {Q : zQ} (hd1 : 1 ≤ d) (B : zB p s m args c E mX11_blockAt.1.cls mX11_blockAt.2.1 mX11_blockAt.2.2.1) (hr : meth.sig.returnType = mX11_blockAt.2.2.2) (hlk : meth.locks = false) : zLk (zG p l e (zrm d) s m args below meth c E mX11_blockAt.2.2.1 0 0 (MQ below (zQc E Q) args s 0 0 (zaA E))) 7 (b_X11_blockAt_7 d (zG p l e (zrm d) s m args below meth c E mX11_blockAt.2.2.1 0 0 (MQ below (zQc E Q) args s 0 0 (zaA E))) Q) := by
  unfold b_X11_blockAt_7
  exact lk_aln B dX11_blockAt_7 rfl (lk_iln B dX11_blockAt_8 rfl (lk_iln B dX11_blockAt_9 rfl (lk_callv (M := mX11_where) (T := TX11) (N := 41) B (zhR hd1 (by decide)) ⟨Nat.zero_le _, Nat.zero_le _⟩ cl_X11 (zw5 zw_963 zw_960 zw_962 zw_20 zw_58) (by decide +kernel) dX11_blockAt_10 (lk_goto B dX11_blockAt_13 (by decide) (k_X11_blockAt_17 hd1 B hr hlk)))))
set_option maxRecDepth 20000 in
theorem k_X11_blockAt_0 {p : Program} {l : Launch} {e : Env} {s : State} {m : MethodId} {args : Array Value} {below : List Frame} {meth : Method} {c : Code} {E : zE} {d : Nat} {Q : zQ} (hd1 : 1 ≤ d) (B : zB p s m args c E mX11_blockAt.1.cls mX11_blockAt.2.1 mX11_blockAt.2.2.1) (hr : meth.sig.returnType = mX11_blockAt.2.2.2) (hlk : meth.locks = false) : zLk (zG p l e (zrm d) s m args below meth c E mX11_blockAt.2.2.1 0 0 (MQ below (zQc E Q) args s 0 0 (zaA E))) 0 (b_X11_blockAt_0 d (zG p l e (zrm d) s m args below meth c E mX11_blockAt.2.2.1 0 0 (MQ below (zQc E Q) args s 0 0 (zaA E))) Q) := by
  unfold b_X11_blockAt_0
  exact lk_iln B dX11_blockAt_0 rfl (lk_calls (M := mX11_isStore) B (zhR hd1 (by decide)) ⟨Nat.zero_le _, Nat.zero_le _⟩ (zw4 zw_944 zw_942 zw_943 zw_58) (by decide +kernel) dX11_blockAt_1 (lk_zeq B dX11_blockAt_4 (by decide) (k_X11_blockAt_16 hd1 B hr hlk) (k_X11_blockAt_7 hd1 B hr hlk)))
def S_X11_blockAt (d : Nat) (G : Nat → zK) (Q : zQ) : Prop := zLk G 0 (b_X11_blockAt_0 d G Q)
theorem s_X11_blockAt_0 {d : Nat} {G : Nat → zK} {Q : zQ} (h : S_X11_blockAt d G Q) {ls st : List zV} {μ : zM} (k : b_X11_blockAt_0 d G Q ls st μ) : G 0 ls st μ := h ls st μ k
theorem of_X11_blockAt {d : Nat} {a0 a1 a2 : zV} {μ : zM} {Q : zQ} (hd1 : 1 ≤ d) (h : ∀ G : Nat → zK, S_X11_blockAt d G Q → G 0 [a0, a1, a2] [] μ) : zCt d mX11_blockAt [a0, a1, a2] μ Q := zCt.mk (by decide) (Nat.le_of_ble_eq_true rfl) (fun p l e s m args below meth c E B hr hlk => h _ (k_X11_blockAt_0 hd1 B hr hlk))
theorem dX11_bytes_0 : decode cX11_bytes 0 = .ok (.aload_n 0, 1) := by decide +kernel
theorem dX11_bytes_1 : decode cX11_bytes 1 = .ok (.iload_n 1, 1) := by decide +kernel
theorem dX11_bytes_2 : decode cX11_bytes 2 = .ok (.iload_n 2, 1) := by decide +kernel
theorem dX11_bytes_3 : decode cX11_bytes 3 = .ok (.invokevirtual 199, 3) := by decide +kernel
theorem dX11_bytes_6 : decode cX11_bytes 6 = .ok (.istore_n 3, 1) := by decide +kernel
theorem dX11_bytes_7 : decode cX11_bytes 7 = .ok (.iload_n 3, 1) := by decide +kernel
theorem dX11_bytes_8 : decode cX11_bytes 8 = .ok (.ifCond .ge 7, 3) := by decide +kernel
theorem dX11_bytes_11 : decode cX11_bytes 11 = .ok (.iconst (-1), 1) := by decide +kernel
theorem dX11_bytes_12 : decode cX11_bytes 12 = .ok (.goto 9, 3) := by decide +kernel
theorem dX11_bytes_15 : decode cX11_bytes 15 = .ok (.aload_n 0, 1) := by decide +kernel
theorem dX11_bytes_16 : decode cX11_bytes 16 = .ok (.getfield 16, 3) := by decide +kernel
theorem dX11_bytes_19 : decode cX11_bytes 19 = .ok (.iload_n 3, 1) := by decide +kernel
theorem dX11_bytes_20 : decode cX11_bytes 20 = .ok (.iaload, 1) := by decide +kernel
theorem dX11_bytes_21 : decode cX11_bytes 21 = .ok (.ireturn, 1) := by decide +kernel
def b_X11_bytes_21 (d : Nat) (G : Nat → zK) (Q : zQ) : zK := t_iret Q
def b_X11_bytes_15 (d : Nat) (G : Nat → zK) (Q : zQ) : zK := o_al 0 <| o_gf 9 2 <| o_il 3 <| o_iald <| b_X11_bytes_21 d G Q
def b_X11_bytes_11 (d : Nat) (G : Nat → zK) (Q : zQ) : zK := o_c (-1) <| b_X11_bytes_21 d G Q
def b_X11_bytes_0 (d : Nat) (G : Nat → zK) (Q : zQ) : zK := o_al 0 <| o_il 1 <| o_il 2 <| o_callv (zCt (d - 1) mX11_blockAt) 9 3 <| o_is 3 <| o_il 3 <| t_zlt (b_X11_bytes_11 d G Q) (b_X11_bytes_15 d G Q)
set_option maxRecDepth 20000 in
theorem k_X11_bytes_21 {p : Program} {l : Launch} {e : Env} {s : State} {m : MethodId} {args : Array Value} {below : List Frame} {meth : Method} {c : Code} {E : zE} {d : Nat} {Q : zQ} (hd1 : 1 ≤ d) (B : zB p s m args c E mX11_bytes.1.cls mX11_bytes.2.1 mX11_bytes.2.2.1) (hr : meth.sig.returnType = mX11_bytes.2.2.2) (hlk : meth.locks = false) : zLk (zG p l e (zrm d) s m args below meth c E mX11_bytes.2.2.1 0 0 (MQ below (zQc E Q) args s 0 0 (zaA E))) 21 (b_X11_bytes_21 d (zG p l e (zrm d) s m args below meth c E mX11_bytes.2.2.1 0 0 (MQ below (zQc E Q) args s 0 0 (zaA E))) Q) := by
  unfold b_X11_bytes_21
  exact lk_iret B hr hlk dX11_bytes_21
set_option maxRecDepth 20000 in
theorem k_X11_bytes_15 {p : Program} {l : Launch} {e : Env} {s : State} {m : MethodId} {args : Array Value} {below : List Frame} {meth : Method} {c : Code} {E : zE} {d : Nat} {Q : zQ} (hd1 : 1 ≤ d) (B : zB p s m args c E mX11_bytes.1.cls mX11_bytes.2.1 mX11_bytes.2.2.1) (hr : meth.sig.returnType = mX11_bytes.2.2.2) (hlk : meth.locks = false) : zLk (zG p l e (zrm d) s m args below meth c E mX11_bytes.2.2.1 0 0 (MQ below (zQc E Q) args s 0 0 (zaA E))) 15 (b_X11_bytes_15 d (zG p l e (zrm d) s m args below meth c E mX11_bytes.2.2.1 0 0 (MQ below (zQc E Q) args s 0 0 (zaA E))) Q) := by
  unfold b_X11_bytes_15
  exact lk_aln B dX11_bytes_15 rfl (lk_gf (T := TX11) B cl_X11 (by decide) in_X11 zw_790 dX11_bytes_16 (lk_iln B dX11_bytes_19 rfl (lk_iald B dX11_bytes_20 (k_X11_bytes_21 hd1 B hr hlk))))
set_option maxRecDepth 20000 in
theorem k_X11_bytes_11 {p : Program} {l : Launch} {e : Env} {s : State} {m : MethodId} {args : Array Value} {below : List Frame} {meth : Method} {c : Code} {E : zE} {d : Nat} {Q : zQ} (hd1 : 1 ≤ d) (B : zB p s m args c E mX11_bytes.1.cls mX11_bytes.2.1 mX11_bytes.2.2.1) (hr : meth.sig.returnType = mX11_bytes.2.2.2) (hlk : meth.locks = false) : zLk (zG p l e (zrm d) s m args below meth c E mX11_bytes.2.2.1 0 0 (MQ below (zQc E Q) args s 0 0 (zaA E))) 11 (b_X11_bytes_11 d (zG p l e (zrm d) s m args below meth c E mX11_bytes.2.2.1 0 0 (MQ below (zQc E Q) args s 0 0 (zaA E))) Q) := by
  unfold b_X11_bytes_11
  exact lk_c B dX11_bytes_11 (lk_goto B dX11_bytes_12 (by decide) (k_X11_bytes_21 hd1 B hr hlk))
set_option maxRecDepth 20000 in
theorem k_X11_bytes_0 {p : Program} {l : Launch} {e : Env} {s : State} {m : MethodId} {args : Array Value} {below : List Frame} {meth : Method} {c : Code} {E : zE} {d : Nat} {Q : zQ} (hd1 : 1 ≤ d) (B : zB p s m args c E mX11_bytes.1.cls mX11_bytes.2.1 mX11_bytes.2.2.1) (hr : meth.sig.returnType = mX11_bytes.2.2.2) (hlk : meth.locks = false) : zLk (zG p l e (zrm d) s m args below meth c E mX11_bytes.2.2.1 0 0 (MQ below (zQc E Q) args s 0 0 (zaA E))) 0 (b_X11_bytes_0 d (zG p l e (zrm d) s m args below meth c E mX11_bytes.2.2.1 0 0 (MQ below (zQc E Q) args s 0 0 (zaA E))) Q) := by
  unfold b_X11_bytes_0
  exact lk_aln B dX11_bytes_0 rfl (lk_iln B dX11_bytes_1 rfl (lk_iln B dX11_bytes_2 rfl (lk_callv (M := mX11_blockAt) (T := TX11) (N := 41) B (zhR hd1 (by decide)) ⟨Nat.zero_le _, Nat.zero_le _⟩ cl_X11 (zw5 zw_1053 zw_1050 zw_1052 zw_38 zw_58) (by decide +kernel) dX11_bytes_3 (lk_isn B dX11_bytes_6 rfl (by decide) (lk_iln B dX11_bytes_7 rfl (lk_zge B dX11_bytes_8 (by decide) (k_X11_bytes_15 hd1 B hr hlk) (k_X11_bytes_11 hd1 B hr hlk)))))))
def S_X11_bytes (d : Nat) (G : Nat → zK) (Q : zQ) : Prop := zLk G 0 (b_X11_bytes_0 d G Q)
theorem s_X11_bytes_0 {d : Nat} {G : Nat → zK} {Q : zQ} (h : S_X11_bytes d G Q) {ls st : List zV} {μ : zM} (k : b_X11_bytes_0 d G Q ls st μ) : G 0 ls st μ := h ls st μ k
theorem of_X11_bytes {d : Nat} {a0 a1 a2 : zV} {μ : zM} {Q : zQ} (hd1 : 1 ≤ d) (h : ∀ G : Nat → zK, S_X11_bytes d G Q → G 0 [a0, a1, a2, .inr none] [] μ) : zCt d mX11_bytes [a0, a1, a2] μ Q := zCt.mk (by decide) (Nat.le_of_ble_eq_true rfl) (fun p l e s m args below meth c E B hr hlk => h _ (k_X11_bytes_0 hd1 B hr hlk))
theorem dX11_raw_0 : decode cX11_raw 0 = .ok (.aload_n 0, 1) := by decide +kernel
theorem dX11_raw_1 : decode cX11_raw 1 = .ok (.iload_n 1, 1) := by decide +kernel
theorem dX11_raw_2 : decode cX11_raw 2 = .ok (.iload_n 2, 1) := by decide +kernel
theorem dX11_raw_3 : decode cX11_raw 3 = .ok (.invokevirtual 199, 3) := by decide +kernel
theorem dX11_raw_6 : decode cX11_raw 6 = .ok (.istore 4, 2) := by decide +kernel
theorem dX11_raw_8 : decode cX11_raw 8 = .ok (.iload 4, 2) := by decide +kernel
theorem dX11_raw_10 : decode cX11_raw 10 = .ok (.ifCond .lt 18, 3) := by decide +kernel
theorem dX11_raw_13 : decode cX11_raw 13 = .ok (.iload_n 3, 1) := by decide +kernel
theorem dX11_raw_14 : decode cX11_raw 14 = .ok (.ifCond .lt 14, 3) := by decide +kernel
theorem dX11_raw_17 : decode cX11_raw 17 = .ok (.iload_n 3, 1) := by decide +kernel
theorem dX11_raw_18 : decode cX11_raw 18 = .ok (.aload_n 0, 1) := by decide +kernel
theorem dX11_raw_19 : decode cX11_raw 19 = .ok (.getfield 16, 3) := by decide +kernel
theorem dX11_raw_22 : decode cX11_raw 22 = .ok (.iload 4, 2) := by decide +kernel
theorem dX11_raw_24 : decode cX11_raw 24 = .ok (.iaload, 1) := by decide +kernel
theorem dX11_raw_25 : decode cX11_raw 25 = .ok (.if_icmp .lt 7, 3) := by decide +kernel
theorem dX11_raw_28 : decode cX11_raw 28 = .ok (.iconst (-1), 1) := by decide +kernel
theorem dX11_raw_29 : decode cX11_raw 29 = .ok (.goto 10, 3) := by decide +kernel
theorem dX11_raw_32 : decode cX11_raw 32 = .ok (.aload_n 0, 1) := by decide +kernel
theorem dX11_raw_33 : decode cX11_raw 33 = .ok (.iload 4, 2) := by decide +kernel
theorem dX11_raw_35 : decode cX11_raw 35 = .ok (.iload_n 3, 1) := by decide +kernel
theorem dX11_raw_36 : decode cX11_raw 36 = .ok (.invokevirtual 196, 3) := by decide +kernel
theorem dX11_raw_39 : decode cX11_raw 39 = .ok (.ireturn, 1) := by decide +kernel
def b_X11_raw_39 (d : Nat) (G : Nat → zK) (Q : zQ) : zK := t_iret Q
def b_X11_raw_28 (d : Nat) (G : Nat → zK) (Q : zQ) : zK := o_c (-1) <| b_X11_raw_39 d G Q
def b_X11_raw_32 (d : Nat) (G : Nat → zK) (Q : zQ) : zK := o_al 0 <| o_il 4 <| o_il 3 <| o_callv (zCt (d - 1) mX11_cell) 9 3 <| b_X11_raw_39 d G Q
def b_X11_raw_17 (d : Nat) (G : Nat → zK) (Q : zQ) : zK := o_il 3 <| o_al 0 <| o_gf 9 2 <| o_il 4 <| o_iald <| t_ilt (b_X11_raw_32 d G Q) (b_X11_raw_28 d G Q)
def b_X11_raw_13 (d : Nat) (G : Nat → zK) (Q : zQ) : zK := o_il 3 <| t_zlt (b_X11_raw_28 d G Q) (b_X11_raw_17 d G Q)
def b_X11_raw_0 (d : Nat) (G : Nat → zK) (Q : zQ) : zK := o_al 0 <| o_il 1 <| o_il 2 <| o_callv (zCt (d - 1) mX11_blockAt) 9 3 <| o_is 4 <| o_il 4 <| t_zlt (b_X11_raw_28 d G Q) (b_X11_raw_13 d G Q)
set_option maxRecDepth 20000 in
theorem k_X11_raw_39 {p : Program} {l : Launch} {e : Env} {s : State} {m : MethodId} {args : Array Value} {below : List Frame} {meth : Method} {c : Code} {E : zE} {d : Nat} {Q : zQ} (hd1 : 1 ≤ d) (B : zB p s m args c E mX11_raw.1.cls mX11_raw.2.1 mX11_raw.2.2.1) (hr : meth.sig.returnType = mX11_raw.2.2.2) (hlk : meth.locks = false) : zLk (zG p l e (zrm d) s m args below meth c E mX11_raw.2.2.1 0 0 (MQ below (zQc E Q) args s 0 0 (zaA E))) 39 (b_X11_raw_39 d (zG p l e (zrm d) s m args below meth c E mX11_raw.2.2.1 0 0 (MQ below (zQc E Q) args s 0 0 (zaA E))) Q) := by
  unfold b_X11_raw_39
  exact lk_iret B hr hlk dX11_raw_39
set_option maxRecDepth 20000 in
theorem k_X11_raw_28 {p : Program} {l : Launch} {e : Env} {s : State} {m : MethodId} {args : Array Value} {below : List Frame} {meth : Method} {c : Code} {E : zE} {d : Nat} {Q : zQ} (hd1 : 1 ≤ d) (B : zB p s m args c E mX11_raw.1.cls mX11_raw.2.1 mX11_raw.2.2.1) (hr : meth.sig.returnType = mX11_raw.2.2.2) (hlk : meth.locks = false) : zLk (zG p l e (zrm d) s m args below meth c E mX11_raw.2.2.1 0 0 (MQ below (zQc E Q) args s 0 0 (zaA E))) 28 (b_X11_raw_28 d (zG p l e (zrm d) s m args below meth c E mX11_raw.2.2.1 0 0 (MQ below (zQc E Q) args s 0 0 (zaA E))) Q) := by
  unfold b_X11_raw_28
  exact lk_c B dX11_raw_28 (lk_goto B dX11_raw_29 (by decide) (k_X11_raw_39 hd1 B hr hlk))
set_option maxRecDepth 20000 in
theorem k_X11_raw_32 {p : Program} {l : Launch} {e : Env} {s : State} {m : MethodId} {args : Array Value} {below : List Frame} {meth : Method} {c : Code} {E : zE} {d : Nat} {Q : zQ} (hd1 : 1 ≤ d) (B : zB p s m args c E mX11_raw.1.cls mX11_raw.2.1 mX11_raw.2.2.1) (hr : meth.sig.returnType = mX11_raw.2.2.2) (hlk : meth.locks = false) : zLk (zG p l e (zrm d) s m args below meth c E mX11_raw.2.2.1 0 0 (MQ below (zQc E Q) args s 0 0 (zaA E))) 32 (b_X11_raw_32 d (zG p l e (zrm d) s m args below meth c E mX11_raw.2.2.1 0 0 (MQ below (zQc E Q) args s 0 0 (zaA E))) Q) := by
  unfold b_X11_raw_32
  exact lk_aln B dX11_raw_32 rfl (lk_il B dX11_raw_33 (lk_iln B dX11_raw_35 rfl (lk_callv (M := mX11_cell) (T := TX11) (N := 41) B (zhR hd1 (by decide)) ⟨Nat.zero_le _, Nat.zero_le _⟩ cl_X11 (zw5 zw_995 zw_992 zw_994 zw_28 zw_58) (by decide +kernel) dX11_raw_36 (k_X11_raw_39 hd1 B hr hlk))))
set_option maxRecDepth 20000 in
theorem k_X11_raw_17 {p : Program} {l : Launch} {e : Env} {s : State} {m : MethodId} {args : Array Value} {below : List Frame} {meth : Method} {c : Code} {E : zE} {d : Nat} {Q : zQ} (hd1 : 1 ≤ d) (B : zB p s m args c E mX11_raw.1.cls mX11_raw.2.1 mX11_raw.2.2.1) (hr : meth.sig.returnType = mX11_raw.2.2.2) (hlk : meth.locks = false) : zLk (zG p l e (zrm d) s m args below meth c E mX11_raw.2.2.1 0 0 (MQ below (zQc E Q) args s 0 0 (zaA E))) 17 (b_X11_raw_17 d (zG p l e (zrm d) s m args below meth c E mX11_raw.2.2.1 0 0 (MQ below (zQc E Q) args s 0 0 (zaA E))) Q) := by
  unfold b_X11_raw_17
  exact lk_iln B dX11_raw_17 rfl (lk_aln B dX11_raw_18 rfl (lk_gf (T := TX11) B cl_X11 (by decide) in_X11 zw_790 dX11_raw_19 (lk_il B dX11_raw_22 (lk_iald B dX11_raw_24 (lk_ilt B dX11_raw_25 (by decide) (k_X11_raw_32 hd1 B hr hlk) (k_X11_raw_28 hd1 B hr hlk))))))
set_option maxRecDepth 20000 in
theorem k_X11_raw_13 {p : Program} {l : Launch} {e : Env} {s : State} {m : MethodId} {args : Array Value} {below : List Frame} {meth : Method} {c : Code} {E : zE} {d : Nat} {Q : zQ} (hd1 : 1 ≤ d) (B : zB p s m args c E mX11_raw.1.cls mX11_raw.2.1 mX11_raw.2.2.1) (hr : meth.sig.returnType = mX11_raw.2.2.2) (hlk : meth.locks = false) : zLk (zG p l e (zrm d) s m args below meth c E mX11_raw.2.2.1 0 0 (MQ below (zQc E Q) args s 0 0 (zaA E))) 13 (b_X11_raw_13 d (zG p l e (zrm d) s m args below meth c E mX11_raw.2.2.1 0 0 (MQ below (zQc E Q) args s 0 0 (zaA E))) Q) := by
  unfold b_X11_raw_13
  exact lk_iln B dX11_raw_13 rfl (lk_zlt B dX11_raw_14 (by decide) (k_X11_raw_28 hd1 B hr hlk) (k_X11_raw_17 hd1 B hr hlk))
set_option maxRecDepth 20000 in
theorem k_X11_raw_0 {p : Program} {l : Launch} {e : Env} {s : State} {m : MethodId} {args : Array Value} {below : List Frame} {meth : Method} {c : Code} {E : zE} {d : Nat} {Q : zQ} (hd1 : 1 ≤ d) (B : zB p s m args c E mX11_raw.1.cls mX11_raw.2.1 mX11_raw.2.2.1) (hr : meth.sig.returnType = mX11_raw.2.2.2) (hlk : meth.locks = false) : zLk (zG p l e (zrm d) s m args below meth c E mX11_raw.2.2.1 0 0 (MQ below (zQc E Q) args s 0 0 (zaA E))) 0 (b_X11_raw_0 d (zG p l e (zrm d) s m args below meth c E mX11_raw.2.2.1 0 0 (MQ below (zQc E Q) args s 0 0 (zaA E))) Q) := by
  unfold b_X11_raw_0
  exact lk_aln B dX11_raw_0 rfl (lk_iln B dX11_raw_1 rfl (lk_iln B dX11_raw_2 rfl (lk_callv (M := mX11_blockAt) (T := TX11) (N := 41) B (zhR hd1 (by decide)) ⟨Nat.zero_le _, Nat.zero_le _⟩ cl_X11 (zw5 zw_1053 zw_1050 zw_1052 zw_38 zw_58) (by decide +kernel) dX11_raw_3 (lk_is B dX11_raw_6 (by decide) (lk_il B dX11_raw_8 (lk_zlt B dX11_raw_10 (by decide) (k_X11_raw_28 hd1 B hr hlk) (k_X11_raw_13 hd1 B hr hlk)))))))
def S_X11_raw (d : Nat) (G : Nat → zK) (Q : zQ) : Prop := zLk G 0 (b_X11_raw_0 d G Q)
theorem s_X11_raw_0 {d : Nat} {G : Nat → zK} {Q : zQ} (h : S_X11_raw d G Q) {ls st : List zV} {μ : zM} (k : b_X11_raw_0 d G Q ls st μ) : G 0 ls st μ := h ls st μ k
theorem of_X11_raw {d : Nat} {a0 a1 a2 a3 : zV} {μ : zM} {Q : zQ} (hd1 : 1 ≤ d) (h : ∀ G : Nat → zK, S_X11_raw d G Q → G 0 [a0, a1, a2, a3, .inr none] [] μ) : zCt d mX11_raw [a0, a1, a2, a3] μ Q := zCt.mk (by decide) (Nat.le_of_ble_eq_true rfl) (fun p l e s m args below meth c E B hr hlk => h _ (k_X11_raw_0 hd1 B hr hlk))
theorem dX11_lengthOf_0 : decode cX11_lengthOf 0 = .ok (.aload_n 0, 1) := by decide +kernel
theorem dX11_lengthOf_1 : decode cX11_lengthOf 1 = .ok (.iload_n 1, 1) := by decide +kernel
theorem dX11_lengthOf_2 : decode cX11_lengthOf 2 = .ok (.iconst 0, 1) := by decide +kernel
theorem dX11_lengthOf_3 : decode cX11_lengthOf 3 = .ok (.invokevirtual 196, 3) := by decide +kernel
theorem dX11_lengthOf_6 : decode cX11_lengthOf 6 = .ok (.ifCond .ne 12, 3) := by decide +kernel
theorem dX11_lengthOf_9 : decode cX11_lengthOf 9 = .ok (.aload_n 0, 1) := by decide +kernel
theorem dX11_lengthOf_10 : decode cX11_lengthOf 10 = .ok (.getfield 16, 3) := by decide +kernel
theorem dX11_lengthOf_13 : decode cX11_lengthOf 13 = .ok (.iload_n 1, 1) := by decide +kernel
theorem dX11_lengthOf_14 : decode cX11_lengthOf 14 = .ok (.iaload, 1) := by decide +kernel
theorem dX11_lengthOf_15 : decode cX11_lengthOf 15 = .ok (.iconst 1, 1) := by decide +kernel
theorem dX11_lengthOf_16 : decode cX11_lengthOf 16 = .ok (.isub, 1) := by decide +kernel
theorem dX11_lengthOf_17 : decode cX11_lengthOf 17 = .ok (.ireturn, 1) := by decide +kernel
theorem dX11_lengthOf_18 : decode cX11_lengthOf 18 = .ok (.aload_n 0, 1) := by decide +kernel
theorem dX11_lengthOf_19 : decode cX11_lengthOf 19 = .ok (.iload_n 1, 1) := by decide +kernel
theorem dX11_lengthOf_20 : decode cX11_lengthOf 20 = .ok (.iconst 0, 1) := by decide +kernel
theorem dX11_lengthOf_21 : decode cX11_lengthOf 21 = .ok (.invokevirtual 196, 3) := by decide +kernel
theorem dX11_lengthOf_24 : decode cX11_lengthOf 24 = .ok (.iconst 1, 1) := by decide +kernel
theorem dX11_lengthOf_25 : decode cX11_lengthOf 25 = .ok (.if_icmp .le 5, 3) := by decide +kernel
theorem dX11_lengthOf_28 : decode cX11_lengthOf 28 = .ok (.iconst (-1), 1) := by decide +kernel
theorem dX11_lengthOf_29 : decode cX11_lengthOf 29 = .ok (.ireturn, 1) := by decide +kernel
theorem dX11_lengthOf_30 : decode cX11_lengthOf 30 = .ok (.iconst 0, 1) := by decide +kernel
theorem dX11_lengthOf_31 : decode cX11_lengthOf 31 = .ok (.istore_n 2, 1) := by decide +kernel
theorem dX11_lengthOf_32 : decode cX11_lengthOf 32 = .ok (.iconst 0, 1) := by decide +kernel
theorem dX11_lengthOf_33 : decode cX11_lengthOf 33 = .ok (.istore_n 3, 1) := by decide +kernel
theorem dX11_lengthOf_34 : decode cX11_lengthOf 34 = .ok (.iload_n 3, 1) := by decide +kernel
theorem dX11_lengthOf_35 : decode cX11_lengthOf 35 = .ok (.aload_n 0, 1) := by decide +kernel
theorem dX11_lengthOf_36 : decode cX11_lengthOf 36 = .ok (.iload_n 1, 1) := by decide +kernel
theorem dX11_lengthOf_37 : decode cX11_lengthOf 37 = .ok (.iconst 1, 1) := by decide +kernel
theorem dX11_lengthOf_38 : decode cX11_lengthOf 38 = .ok (.invokevirtual 196, 3) := by decide +kernel
theorem dX11_lengthOf_41 : decode cX11_lengthOf 41 = .ok (.if_icmp .ge 22, 3) := by decide +kernel
theorem dX11_lengthOf_44 : decode cX11_lengthOf 44 = .ok (.iload_n 2, 1) := by decide +kernel
theorem dX11_lengthOf_45 : decode cX11_lengthOf 45 = .ok (.aload_n 0, 1) := by decide +kernel
theorem dX11_lengthOf_46 : decode cX11_lengthOf 46 = .ok (.iload_n 1, 1) := by decide +kernel
theorem dX11_lengthOf_47 : decode cX11_lengthOf 47 = .ok (.iconst 2, 1) := by decide +kernel
theorem dX11_lengthOf_48 : decode cX11_lengthOf 48 = .ok (.iconst 4, 1) := by decide +kernel
theorem dX11_lengthOf_49 : decode cX11_lengthOf 49 = .ok (.iload_n 3, 1) := by decide +kernel
theorem dX11_lengthOf_50 : decode cX11_lengthOf 50 = .ok (.imul, 1) := by decide +kernel
theorem dX11_lengthOf_51 : decode cX11_lengthOf 51 = .ok (.iadd, 1) := by decide +kernel
theorem dX11_lengthOf_52 : decode cX11_lengthOf 52 = .ok (.invokevirtual 202, 3) := by decide +kernel
theorem dX11_lengthOf_55 : decode cX11_lengthOf 55 = .ok (.iadd, 1) := by decide +kernel
theorem dX11_lengthOf_56 : decode cX11_lengthOf 56 = .ok (.istore_n 2, 1) := by decide +kernel
theorem dX11_lengthOf_57 : decode cX11_lengthOf 57 = .ok (.iinc 3 1, 3) := by decide +kernel
theorem dX11_lengthOf_60 : decode cX11_lengthOf 60 = .ok (.goto (-26), 3) := by decide +kernel
theorem dX11_lengthOf_63 : decode cX11_lengthOf 63 = .ok (.iload_n 2, 1) := by decide +kernel
theorem dX11_lengthOf_64 : decode cX11_lengthOf 64 = .ok (.ireturn, 1) := by decide +kernel
def b_X11_lengthOf_30 (d : Nat) (G : Nat → zK) (Q : zQ) : zK := o_c 0 <| o_is 2 <| o_c 0 <| o_is 3 <| G 34
def b_X11_lengthOf_28 (d : Nat) (G : Nat → zK) (Q : zQ) : zK := o_c (-1) <| t_iret Q
def b_X11_lengthOf_18 (d : Nat) (G : Nat → zK) (Q : zQ) : zK := o_al 0 <| o_il 1 <| o_c 0 <| o_callv (zCt (d - 1) mX11_cell) 9 3 <| o_c 1 <| t_igt (b_X11_lengthOf_28 d G Q) (b_X11_lengthOf_30 d G Q)
def b_X11_lengthOf_9 (d : Nat) (G : Nat → zK) (Q : zQ) : zK := o_al 0 <| o_gf 9 2 <| o_il 1 <| o_iald <| o_c 1 <| o_sub <| t_iret Q
def b_X11_lengthOf_0 (d : Nat) (G : Nat → zK) (Q : zQ) : zK := o_al 0 <| o_il 1 <| o_c 0 <| o_callv (zCt (d - 1) mX11_cell) 9 3 <| t_zeq (b_X11_lengthOf_9 d G Q) (b_X11_lengthOf_18 d G Q)
def b_X11_lengthOf_63 (d : Nat) (G : Nat → zK) (Q : zQ) : zK := o_il 2 <| t_iret Q
def b_X11_lengthOf_44 (d : Nat) (G : Nat → zK) (Q : zQ) : zK := o_il 2 <| o_al 0 <| o_il 1 <| o_c 2 <| o_c 4 <| o_il 3 <| o_mul <| o_add <| o_callv (zCt (d - 1) mX11_pair) 9 3 <| o_add <| o_is 2 <| o_inc 3 1 <| G 34
def b_X11_lengthOf_34 (d : Nat) (G : Nat → zK) (Q : zQ) : zK := o_il 3 <| o_al 0 <| o_il 1 <| o_c 1 <| o_callv (zCt (d - 1) mX11_cell) 9 3 <| t_ilt (b_X11_lengthOf_44 d G Q) (b_X11_lengthOf_63 d G Q)
set_option maxRecDepth 20000 in
theorem k_X11_lengthOf_30 {p : Program} {l : Launch} {e : Env} {s : State} {m : MethodId} {args : Array Value} {below : List Frame} {meth : Method} {c : Code} {E : zE} {d : Nat} {Q : zQ} (hd1 : 1 ≤ d) (B : zB p s m args c E mX11_lengthOf.1.cls mX11_lengthOf.2.1 mX11_lengthOf.2.2.1) (hr : meth.sig.returnType = mX11_lengthOf.2.2.2) (hlk : meth.locks = false) : zLk (zG p l e (zrm d) s m args below meth c E mX11_lengthOf.2.2.1 0 0 (MQ below (zQc E Q) args s 0 0 (zaA E))) 30 (b_X11_lengthOf_30 d (zG p l e (zrm d) s m args below meth c E mX11_lengthOf.2.2.1 0 0 (MQ below (zQc E Q) args s 0 0 (zaA E))) Q) := by
  unfold b_X11_lengthOf_30
  exact lk_c B dX11_lengthOf_30 (lk_isn B dX11_lengthOf_31 rfl (by decide) (lk_c B dX11_lengthOf_32 (lk_isn B dX11_lengthOf_33 rfl (by decide) (fun _ _ _ h => h))))
set_option maxRecDepth 20000 in
theorem k_X11_lengthOf_28 {p : Program} {l : Launch} {e : Env} {s : State} {m : MethodId} {args : Array Value} {below : List Frame} {meth : Method} {c : Code} {E : zE} {d : Nat} {Q : zQ} (hd1 : 1 ≤ d) (B : zB p s m args c E mX11_lengthOf.1.cls mX11_lengthOf.2.1 mX11_lengthOf.2.2.1) (hr : meth.sig.returnType = mX11_lengthOf.2.2.2) (hlk : meth.locks = false) : zLk (zG p l e (zrm d) s m args below meth c E mX11_lengthOf.2.2.1 0 0 (MQ below (zQc E Q) args s 0 0 (zaA E))) 28 (b_X11_lengthOf_28 d (zG p l e (zrm d) s m args below meth c E mX11_lengthOf.2.2.1 0 0 (MQ below (zQc E Q) args s 0 0 (zaA E))) Q) := by
  unfold b_X11_lengthOf_28
  exact lk_c B dX11_lengthOf_28 (lk_iret B hr hlk dX11_lengthOf_29)
set_option maxRecDepth 20000 in
theorem k_X11_lengthOf_18 {p : Program} {l : Launch} {e : Env} {s : State} {m : MethodId} {args : Array Value} {below : List Frame} {meth : Method} {c : Code} {E : zE} {d : Nat} {Q : zQ} (hd1 : 1 ≤ d) (B : zB p s m args c E mX11_lengthOf.1.cls mX11_lengthOf.2.1 mX11_lengthOf.2.2.1) (hr : meth.sig.returnType = mX11_lengthOf.2.2.2) (hlk : meth.locks = false) : zLk (zG p l e (zrm d) s m args below meth c E mX11_lengthOf.2.2.1 0 0 (MQ below (zQc E Q) args s 0 0 (zaA E))) 18 (b_X11_lengthOf_18 d (zG p l e (zrm d) s m args below meth c E mX11_lengthOf.2.2.1 0 0 (MQ below (zQc E Q) args s 0 0 (zaA E))) Q) := by
  unfold b_X11_lengthOf_18
  exact lk_aln B dX11_lengthOf_18 rfl (lk_iln B dX11_lengthOf_19 rfl (lk_c B dX11_lengthOf_20 (lk_callv (M := mX11_cell) (T := TX11) (N := 41) B (zhR hd1 (by decide)) ⟨Nat.zero_le _, Nat.zero_le _⟩ cl_X11 (zw5 zw_995 zw_992 zw_994 zw_28 zw_58) (by decide +kernel) dX11_lengthOf_21 (lk_c B dX11_lengthOf_24 (lk_ile B dX11_lengthOf_25 (by decide) (k_X11_lengthOf_30 hd1 B hr hlk) (k_X11_lengthOf_28 hd1 B hr hlk))))))
set_option maxRecDepth 20000 in
theorem k_X11_lengthOf_9 {p : Program} {l : Launch} {e : Env} {s : State} {m : MethodId} {args : Array Value} {below : List Frame} {meth : Method} {c : Code} {E : zE} {d : Nat} {Q : zQ} (hd1 : 1 ≤ d) (B : zB p s m args c E mX11_lengthOf.1.cls mX11_lengthOf.2.1 mX11_lengthOf.2.2.1) (hr : meth.sig.returnType = mX11_lengthOf.2.2.2) (hlk : meth.locks = false) : zLk (zG p l e (zrm d) s m args below meth c E mX11_lengthOf.2.2.1 0 0 (MQ below (zQc E Q) args s 0 0 (zaA E))) 9 (b_X11_lengthOf_9 d (zG p l e (zrm d) s m args below meth c E mX11_lengthOf.2.2.1 0 0 (MQ below (zQc E Q) args s 0 0 (zaA E))) Q) := by
  unfold b_X11_lengthOf_9
  exact lk_aln B dX11_lengthOf_9 rfl (lk_gf (T := TX11) B cl_X11 (by decide) in_X11 zw_790 dX11_lengthOf_10 (lk_iln B dX11_lengthOf_13 rfl (lk_iald B dX11_lengthOf_14 (lk_c B dX11_lengthOf_15 (lk_sub B dX11_lengthOf_16 (lk_iret B hr hlk dX11_lengthOf_17))))))
set_option maxRecDepth 20000 in
theorem k_X11_lengthOf_0 {p : Program} {l : Launch} {e : Env} {s : State} {m : MethodId} {args : Array Value} {below : List Frame} {meth : Method} {c : Code} {E : zE} {d : Nat} {Q : zQ} (hd1 : 1 ≤ d) (B : zB p s m args c E mX11_lengthOf.1.cls mX11_lengthOf.2.1 mX11_lengthOf.2.2.1) (hr : meth.sig.returnType = mX11_lengthOf.2.2.2) (hlk : meth.locks = false) : zLk (zG p l e (zrm d) s m args below meth c E mX11_lengthOf.2.2.1 0 0 (MQ below (zQc E Q) args s 0 0 (zaA E))) 0 (b_X11_lengthOf_0 d (zG p l e (zrm d) s m args below meth c E mX11_lengthOf.2.2.1 0 0 (MQ below (zQc E Q) args s 0 0 (zaA E))) Q) := by
  unfold b_X11_lengthOf_0
  exact lk_aln B dX11_lengthOf_0 rfl (lk_iln B dX11_lengthOf_1 rfl (lk_c B dX11_lengthOf_2 (lk_callv (M := mX11_cell) (T := TX11) (N := 41) B (zhR hd1 (by decide)) ⟨Nat.zero_le _, Nat.zero_le _⟩ cl_X11 (zw5 zw_995 zw_992 zw_994 zw_28 zw_58) (by decide +kernel) dX11_lengthOf_3 (lk_zne B dX11_lengthOf_6 (by decide) (k_X11_lengthOf_18 hd1 B hr hlk) (k_X11_lengthOf_9 hd1 B hr hlk)))))
set_option maxRecDepth 20000 in
theorem k_X11_lengthOf_63 {p : Program} {l : Launch} {e : Env} {s : State} {m : MethodId} {args : Array Value} {below : List Frame} {meth : Method} {c : Code} {E : zE} {d : Nat} {Q : zQ} (hd1 : 1 ≤ d) (B : zB p s m args c E mX11_lengthOf.1.cls mX11_lengthOf.2.1 mX11_lengthOf.2.2.1) (hr : meth.sig.returnType = mX11_lengthOf.2.2.2) (hlk : meth.locks = false) : zLk (zG p l e (zrm d) s m args below meth c E mX11_lengthOf.2.2.1 0 0 (MQ below (zQc E Q) args s 0 0 (zaA E))) 63 (b_X11_lengthOf_63 d (zG p l e (zrm d) s m args below meth c E mX11_lengthOf.2.2.1 0 0 (MQ below (zQc E Q) args s 0 0 (zaA E))) Q) := by
  unfold b_X11_lengthOf_63
  exact lk_iln B dX11_lengthOf_63 rfl (lk_iret B hr hlk dX11_lengthOf_64)
set_option maxRecDepth 20000 in
theorem k_X11_lengthOf_44 {p : Program} {l : Launch} {e : Env} {s : State} {m : MethodId} {args : Array Value} {below : List Frame} {meth : Method} {c : Code} {E : zE} {d : Nat} {Q : zQ} (hd1 : 1 ≤ d) (B : zB p s m args c E mX11_lengthOf.1.cls mX11_lengthOf.2.1 mX11_lengthOf.2.2.1) (hr : meth.sig.returnType = mX11_lengthOf.2.2.2) (hlk : meth.locks = false) : zLk (zG p l e (zrm d) s m args below meth c E mX11_lengthOf.2.2.1 0 0 (MQ below (zQc E Q) args s 0 0 (zaA E))) 44 (b_X11_lengthOf_44 d (zG p l e (zrm d) s m args below meth c E mX11_lengthOf.2.2.1 0 0 (MQ below (zQc E Q) args s 0 0 (zaA E))) Q) := by
  unfold b_X11_lengthOf_44
  exact lk_iln B dX11_lengthOf_44 rfl (lk_aln B dX11_lengthOf_45 rfl (lk_iln B dX11_lengthOf_46 rfl (lk_c B dX11_lengthOf_47 (lk_c B dX11_lengthOf_48 (lk_iln B dX11_lengthOf_49 rfl (lk_mul B dX11_lengthOf_50 (lk_add B dX11_lengthOf_51 (lk_callv (M := mX11_pair) (T := TX11) (N := 41) B (zhR hd1 (by decide)) ⟨Nat.zero_le _, Nat.zero_le _⟩ cl_X11 (zw5 zw_999 zw_996 zw_998 zw_29 zw_58) (by decide +kernel) dX11_lengthOf_52 (lk_add B dX11_lengthOf_55 (lk_isn B dX11_lengthOf_56 rfl (by decide) (lk_inc B dX11_lengthOf_57 (by decide) (lk_goto B dX11_lengthOf_60 (by decide) (fun _ _ _ h => h)))))))))))))
set_option maxRecDepth 20000 in
theorem k_X11_lengthOf_34 {p : Program} {l : Launch} {e : Env} {s : State} {m : MethodId} {args : Array Value} {below : List Frame} {meth : Method} {c : Code} {E : zE} {d : Nat} {Q : zQ} (hd1 : 1 ≤ d) (B : zB p s m args c E mX11_lengthOf.1.cls mX11_lengthOf.2.1 mX11_lengthOf.2.2.1) (hr : meth.sig.returnType = mX11_lengthOf.2.2.2) (hlk : meth.locks = false) : zLk (zG p l e (zrm d) s m args below meth c E mX11_lengthOf.2.2.1 0 0 (MQ below (zQc E Q) args s 0 0 (zaA E))) 34 (b_X11_lengthOf_34 d (zG p l e (zrm d) s m args below meth c E mX11_lengthOf.2.2.1 0 0 (MQ below (zQc E Q) args s 0 0 (zaA E))) Q) := by
  unfold b_X11_lengthOf_34
  exact lk_iln B dX11_lengthOf_34 rfl (lk_aln B dX11_lengthOf_35 rfl (lk_iln B dX11_lengthOf_36 rfl (lk_c B dX11_lengthOf_37 (lk_callv (M := mX11_cell) (T := TX11) (N := 41) B (zhR hd1 (by decide)) ⟨Nat.zero_le _, Nat.zero_le _⟩ cl_X11 (zw5 zw_995 zw_992 zw_994 zw_28 zw_58) (by decide +kernel) dX11_lengthOf_38 (lk_ige B dX11_lengthOf_41 (by decide) (k_X11_lengthOf_63 hd1 B hr hlk) (k_X11_lengthOf_44 hd1 B hr hlk))))))
def S_X11_lengthOf (d : Nat) (G : Nat → zK) (Q : zQ) : Prop := zLk G 0 (b_X11_lengthOf_0 d G Q) ∧ zLk G 34 (b_X11_lengthOf_34 d G Q)
theorem s_X11_lengthOf_0 {d : Nat} {G : Nat → zK} {Q : zQ} (h : S_X11_lengthOf d G Q) {ls st : List zV} {μ : zM} (k : b_X11_lengthOf_0 d G Q ls st μ) : G 0 ls st μ := h.1 ls st μ k
theorem s_X11_lengthOf_34 {d : Nat} {G : Nat → zK} {Q : zQ} (h : S_X11_lengthOf d G Q) {ls st : List zV} {μ : zM} (k : b_X11_lengthOf_34 d G Q ls st μ) : G 34 ls st μ := h.2 ls st μ k
theorem of_X11_lengthOf {d : Nat} {a0 a1 : zV} {μ : zM} {Q : zQ} (hd1 : 1 ≤ d) (h : ∀ G : Nat → zK, S_X11_lengthOf d G Q → G 0 [a0, a1, .inr none, .inr none] [] μ) : zCt d mX11_lengthOf [a0, a1] μ Q := zCt.mk (by decide) (Nat.le_of_ble_eq_true rfl) (fun p l e s m args below meth c E B hr hlk => h _ ⟨k_X11_lengthOf_0 hd1 B hr hlk, k_X11_lengthOf_34 hd1 B hr hlk⟩)
theorem dX11_length_0 : decode cX11_length 0 = .ok (.aload_n 0, 1) := by decide +kernel
theorem dX11_length_1 : decode cX11_length 1 = .ok (.iload_n 1, 1) := by decide +kernel
theorem dX11_length_2 : decode cX11_length 2 = .ok (.iload_n 2, 1) := by decide +kernel
theorem dX11_length_3 : decode cX11_length 3 = .ok (.invokevirtual 199, 3) := by decide +kernel
theorem dX11_length_6 : decode cX11_length 6 = .ok (.istore_n 3, 1) := by decide +kernel
theorem dX11_length_7 : decode cX11_length 7 = .ok (.iload_n 3, 1) := by decide +kernel
theorem dX11_length_8 : decode cX11_length 8 = .ok (.ifCond .ge 7, 3) := by decide +kernel
theorem dX11_length_11 : decode cX11_length 11 = .ok (.iconst (-1), 1) := by decide +kernel
theorem dX11_length_12 : decode cX11_length 12 = .ok (.goto 8, 3) := by decide +kernel
theorem dX11_length_15 : decode cX11_length 15 = .ok (.aload_n 0, 1) := by decide +kernel
theorem dX11_length_16 : decode cX11_length 16 = .ok (.iload_n 3, 1) := by decide +kernel
theorem dX11_length_17 : decode cX11_length 17 = .ok (.invokevirtual 205, 3) := by decide +kernel
theorem dX11_length_20 : decode cX11_length 20 = .ok (.ireturn, 1) := by decide +kernel
def b_X11_length_20 (d : Nat) (G : Nat → zK) (Q : zQ) : zK := t_iret Q
def b_X11_length_15 (d : Nat) (G : Nat → zK) (Q : zQ) : zK := o_al 0 <| o_il 3 <| o_callv (zCt (d - 1) mX11_lengthOf) 9 2 <| b_X11_length_20 d G Q
def b_X11_length_11 (d : Nat) (G : Nat → zK) (Q : zQ) : zK := o_c (-1) <| b_X11_length_20 d G Q
def b_X11_length_0 (d : Nat) (G : Nat → zK) (Q : zQ) : zK := o_al 0 <| o_il 1 <| o_il 2 <| o_callv (zCt (d - 1) mX11_blockAt) 9 3 <| o_is 3 <| o_il 3 <| t_zlt (b_X11_length_11 d G Q) (b_X11_length_15 d G Q)
set_option maxRecDepth 20000 in
theorem k_X11_length_20 {p : Program} {l : Launch} {e : Env} {s : State} {m : MethodId} {args : Array Value} {below : List Frame} {meth : Method} {c : Code} {E : zE} {d : Nat} {Q : zQ} (hd1 : 1 ≤ d) (B : zB p s m args c E mX11_length.1.cls mX11_length.2.1 mX11_length.2.2.1) (hr : meth.sig.returnType = mX11_length.2.2.2) (hlk : meth.locks = false) : zLk (zG p l e (zrm d) s m args below meth c E mX11_length.2.2.1 0 0 (MQ below (zQc E Q) args s 0 0 (zaA E))) 20 (b_X11_length_20 d (zG p l e (zrm d) s m args below meth c E mX11_length.2.2.1 0 0 (MQ below (zQc E Q) args s 0 0 (zaA E))) Q) := by
  unfold b_X11_length_20
  exact lk_iret B hr hlk dX11_length_20
set_option maxRecDepth 20000 in
theorem k_X11_length_15 {p : Program} {l : Launch} {e : Env} {s : State} {m : MethodId} {args : Array Value} {below : List Frame} {meth : Method} {c : Code} {E : zE} {d : Nat} {Q : zQ} (hd1 : 1 ≤ d) (B : zB p s m args c E mX11_length.1.cls mX11_length.2.1 mX11_length.2.2.1) (hr : meth.sig.returnType = mX11_length.2.2.2) (hlk : meth.locks = false) : zLk (zG p l e (zrm d) s m args below meth c E mX11_length.2.2.1 0 0 (MQ below (zQc E Q) args s 0 0 (zaA E))) 15 (b_X11_length_15 d (zG p l e (zrm d) s m args below meth c E mX11_length.2.2.1 0 0 (MQ below (zQc E Q) args s 0 0 (zaA E))) Q) := by
  unfold b_X11_length_15
  exact lk_aln B dX11_length_15 rfl (lk_iln B dX11_length_16 rfl (lk_callv (M := mX11_lengthOf) (T := TX11) (N := 41) B (zhR hd1 (by decide)) ⟨Nat.zero_le _, Nat.zero_le _⟩ cl_X11 (zw5 zw_1065 zw_1062 zw_1064 zw_39 zw_58) (by decide +kernel) dX11_length_17 (k_X11_length_20 hd1 B hr hlk)))
set_option maxRecDepth 20000 in
theorem k_X11_length_11 {p : Program} {l : Launch} {e : Env} {s : State} {m : MethodId} {args : Array Value} {below : List Frame} {meth : Method} {c : Code} {E : zE} {d : Nat} {Q : zQ} (hd1 : 1 ≤ d) (B : zB p s m args c E mX11_length.1.cls mX11_length.2.1 mX11_length.2.2.1) (hr : meth.sig.returnType = mX11_length.2.2.2) (hlk : meth.locks = false) : zLk (zG p l e (zrm d) s m args below meth c E mX11_length.2.2.1 0 0 (MQ below (zQc E Q) args s 0 0 (zaA E))) 11 (b_X11_length_11 d (zG p l e (zrm d) s m args below meth c E mX11_length.2.2.1 0 0 (MQ below (zQc E Q) args s 0 0 (zaA E))) Q) := by
  unfold b_X11_length_11
  exact lk_c B dX11_length_11 (lk_goto B dX11_length_12 (by decide) (k_X11_length_20 hd1 B hr hlk))
set_option maxRecDepth 20000 in
theorem k_X11_length_0 {p : Program} {l : Launch} {e : Env} {s : State} {m : MethodId} {args : Array Value} {below : List Frame} {meth : Method} {c : Code} {E : zE} {d : Nat} {Q : zQ} (hd1 : 1 ≤ d) (B : zB p s m args c E mX11_length.1.cls mX11_length.2.1 mX11_length.2.2.1) (hr : meth.sig.returnType = mX11_length.2.2.2) (hlk : meth.locks = false) : zLk (zG p l e (zrm d) s m args below meth c E mX11_length.2.2.1 0 0 (MQ below (zQc E Q) args s 0 0 (zaA E))) 0 (b_X11_length_0 d (zG p l e (zrm d) s m args below meth c E mX11_length.2.2.1 0 0 (MQ below (zQc E Q) args s 0 0 (zaA E))) Q) := by
  unfold b_X11_length_0
  exact lk_aln B dX11_length_0 rfl (lk_iln B dX11_length_1 rfl (lk_iln B dX11_length_2 rfl (lk_callv (M := mX11_blockAt) (T := TX11) (N := 41) B (zhR hd1 (by decide)) ⟨Nat.zero_le _, Nat.zero_le _⟩ cl_X11 (zw5 zw_1053 zw_1050 zw_1052 zw_38 zw_58) (by decide +kernel) dX11_length_3 (lk_isn B dX11_length_6 rfl (by decide) (lk_iln B dX11_length_7 rfl (lk_zge B dX11_length_8 (by decide) (k_X11_length_15 hd1 B hr hlk) (k_X11_length_11 hd1 B hr hlk)))))))
def S_X11_length (d : Nat) (G : Nat → zK) (Q : zQ) : Prop := zLk G 0 (b_X11_length_0 d G Q)
theorem s_X11_length_0 {d : Nat} {G : Nat → zK} {Q : zQ} (h : S_X11_length d G Q) {ls st : List zV} {μ : zM} (k : b_X11_length_0 d G Q ls st μ) : G 0 ls st μ := h ls st μ k
theorem of_X11_length {d : Nat} {a0 a1 a2 : zV} {μ : zM} {Q : zQ} (hd1 : 1 ≤ d) (h : ∀ G : Nat → zK, S_X11_length d G Q → G 0 [a0, a1, a2, .inr none] [] μ) : zCt d mX11_length [a0, a1, a2] μ Q := zCt.mk (by decide) (Nat.le_of_ble_eq_true rfl) (fun p l e s m args below meth c E B hr hlk => h _ (k_X11_length_0 hd1 B hr hlk))
theorem dX11_read_0 : decode cX11_read 0 = .ok (.aload_n 0, 1) := by decide +kernel
theorem dX11_read_1 : decode cX11_read 1 = .ok (.iload_n 1, 1) := by decide +kernel
theorem dX11_read_2 : decode cX11_read 2 = .ok (.iload_n 2, 1) := by decide +kernel
theorem dX11_read_3 : decode cX11_read 3 = .ok (.invokevirtual 199, 3) := by decide +kernel
theorem dX11_read_6 : decode cX11_read 6 = .ok (.istore 4, 2) := by decide +kernel
theorem dX11_read_8 : decode cX11_read 8 = .ok (.iload 4, 2) := by decide +kernel
theorem dX11_read_10 : decode cX11_read 10 = .ok (.ifCond .lt 17, 3) := by decide +kernel
theorem dX11_read_13 : decode cX11_read 13 = .ok (.iload_n 3, 1) := by decide +kernel
theorem dX11_read_14 : decode cX11_read 14 = .ok (.ifCond .lt 13, 3) := by decide +kernel
theorem dX11_read_17 : decode cX11_read 17 = .ok (.iload_n 3, 1) := by decide +kernel
theorem dX11_read_18 : decode cX11_read 18 = .ok (.aload_n 0, 1) := by decide +kernel
theorem dX11_read_19 : decode cX11_read 19 = .ok (.iload 4, 2) := by decide +kernel
theorem dX11_read_21 : decode cX11_read 21 = .ok (.invokevirtual 205, 3) := by decide +kernel
theorem dX11_read_24 : decode cX11_read 24 = .ok (.if_icmp .lt 5, 3) := by decide +kernel
theorem dX11_read_27 : decode cX11_read 27 = .ok (.iconst (-1), 1) := by decide +kernel
theorem dX11_read_28 : decode cX11_read 28 = .ok (.ireturn, 1) := by decide +kernel
theorem dX11_read_29 : decode cX11_read 29 = .ok (.iload_n 3, 1) := by decide +kernel
theorem dX11_read_30 : decode cX11_read 30 = .ok (.istore 5, 2) := by decide +kernel
theorem dX11_read_32 : decode cX11_read 32 = .ok (.iconst 0, 1) := by decide +kernel
theorem dX11_read_33 : decode cX11_read 33 = .ok (.istore 6, 2) := by decide +kernel
theorem dX11_read_35 : decode cX11_read 35 = .ok (.iload 6, 2) := by decide +kernel
theorem dX11_read_37 : decode cX11_read 37 = .ok (.bipush 10, 2) := by decide +kernel
theorem dX11_read_39 : decode cX11_read 39 = .ok (.if_icmp .gt 125, 3) := by decide +kernel
theorem dX11_read_42 : decode cX11_read 42 = .ok (.aload_n 0, 1) := by decide +kernel
theorem dX11_read_43 : decode cX11_read 43 = .ok (.iload 4, 2) := by decide +kernel
theorem dX11_read_45 : decode cX11_read 45 = .ok (.iconst 0, 1) := by decide +kernel
theorem dX11_read_46 : decode cX11_read 46 = .ok (.invokevirtual 196, 3) := by decide +kernel
theorem dX11_read_49 : decode cX11_read 49 = .ok (.ifCond .ne 14, 3) := by decide +kernel
theorem dX11_read_52 : decode cX11_read 52 = .ok (.aload_n 0, 1) := by decide +kernel
theorem dX11_read_53 : decode cX11_read 53 = .ok (.iload 4, 2) := by decide +kernel
theorem dX11_read_55 : decode cX11_read 55 = .ok (.iconst 1, 1) := by decide +kernel
theorem dX11_read_56 : decode cX11_read 56 = .ok (.iload 5, 2) := by decide +kernel
theorem dX11_read_58 : decode cX11_read 58 = .ok (.iadd, 1) := by decide +kernel
theorem dX11_read_59 : decode cX11_read 59 = .ok (.invokevirtual 196, 3) := by decide +kernel
theorem dX11_read_62 : decode cX11_read 62 = .ok (.ireturn, 1) := by decide +kernel
theorem dX11_read_63 : decode cX11_read 63 = .ok (.iconst 0, 1) := by decide +kernel
theorem dX11_read_64 : decode cX11_read 64 = .ok (.istore 7, 2) := by decide +kernel
theorem dX11_read_66 : decode cX11_read 66 = .ok (.iload 5, 2) := by decide +kernel
theorem dX11_read_68 : decode cX11_read 68 = .ok (.aload_n 0, 1) := by decide +kernel
theorem dX11_read_69 : decode cX11_read 69 = .ok (.iload 4, 2) := by decide +kernel
theorem dX11_read_71 : decode cX11_read 71 = .ok (.iconst 2, 1) := by decide +kernel
theorem dX11_read_72 : decode cX11_read 72 = .ok (.iconst 4, 1) := by decide +kernel
theorem dX11_read_73 : decode cX11_read 73 = .ok (.iload 7, 2) := by decide +kernel
theorem dX11_read_75 : decode cX11_read 75 = .ok (.imul, 1) := by decide +kernel
theorem dX11_read_76 : decode cX11_read 76 = .ok (.iadd, 1) := by decide +kernel
theorem dX11_read_77 : decode cX11_read 77 = .ok (.invokevirtual 202, 3) := by decide +kernel
theorem dX11_read_80 : decode cX11_read 80 = .ok (.if_icmp .lt 26, 3) := by decide +kernel
theorem dX11_read_83 : decode cX11_read 83 = .ok (.iload 5, 2) := by decide +kernel
theorem dX11_read_85 : decode cX11_read 85 = .ok (.aload_n 0, 1) := by decide +kernel
theorem dX11_read_86 : decode cX11_read 86 = .ok (.iload 4, 2) := by decide +kernel
theorem dX11_read_88 : decode cX11_read 88 = .ok (.iconst 2, 1) := by decide +kernel
theorem dX11_read_89 : decode cX11_read 89 = .ok (.iconst 4, 1) := by decide +kernel
theorem dX11_read_90 : decode cX11_read 90 = .ok (.iload 7, 2) := by decide +kernel
theorem dX11_read_92 : decode cX11_read 92 = .ok (.imul, 1) := by decide +kernel
theorem dX11_read_93 : decode cX11_read 93 = .ok (.iadd, 1) := by decide +kernel
theorem dX11_read_94 : decode cX11_read 94 = .ok (.invokevirtual 202, 3) := by decide +kernel
theorem dX11_read_97 : decode cX11_read 97 = .ok (.isub, 1) := by decide +kernel
theorem dX11_read_98 : decode cX11_read 98 = .ok (.istore 5, 2) := by decide +kernel
theorem dX11_read_100 : decode cX11_read 100 = .ok (.iinc 7 1, 3) := by decide +kernel
theorem dX11_read_103 : decode cX11_read 103 = .ok (.goto (-37), 3) := by decide +kernel
theorem dX11_read_106 : decode cX11_read 106 = .ok (.aload_n 0, 1) := by decide +kernel
theorem dX11_read_107 : decode cX11_read 107 = .ok (.iload 4, 2) := by decide +kernel
theorem dX11_read_109 : decode cX11_read 109 = .ok (.iconst 2, 1) := by decide +kernel
theorem dX11_read_110 : decode cX11_read 110 = .ok (.iconst 4, 1) := by decide +kernel
theorem dX11_read_111 : decode cX11_read 111 = .ok (.iload 7, 2) := by decide +kernel
theorem dX11_read_113 : decode cX11_read 113 = .ok (.imul, 1) := by decide +kernel
theorem dX11_read_114 : decode cX11_read 114 = .ok (.iadd, 1) := by decide +kernel
theorem dX11_read_115 : decode cX11_read 115 = .ok (.invokevirtual 202, 3) := by decide +kernel
theorem dX11_read_118 : decode cX11_read 118 = .ok (.istore 8, 2) := by decide +kernel
theorem dX11_read_120 : decode cX11_read 120 = .ok (.aload_n 0, 1) := by decide +kernel
theorem dX11_read_121 : decode cX11_read 121 = .ok (.iload_n 1, 1) := by decide +kernel
theorem dX11_read_122 : decode cX11_read 122 = .ok (.aload_n 0, 1) := by decide +kernel
theorem dX11_read_123 : decode cX11_read 123 = .ok (.iload 4, 2) := by decide +kernel
theorem dX11_read_125 : decode cX11_read 125 = .ok (.iconst 4, 1) := by decide +kernel
theorem dX11_read_126 : decode cX11_read 126 = .ok (.iconst 4, 1) := by decide +kernel
theorem dX11_read_127 : decode cX11_read 127 = .ok (.iload 7, 2) := by decide +kernel
theorem dX11_read_129 : decode cX11_read 129 = .ok (.imul, 1) := by decide +kernel
theorem dX11_read_130 : decode cX11_read 130 = .ok (.iadd, 1) := by decide +kernel
theorem dX11_read_131 : decode cX11_read 131 = .ok (.invokevirtual 202, 3) := by decide +kernel
theorem dX11_read_134 : decode cX11_read 134 = .ok (.invokevirtual 144, 3) := by decide +kernel
theorem dX11_read_137 : decode cX11_read 137 = .ok (.istore 4, 2) := by decide +kernel
theorem dX11_read_139 : decode cX11_read 139 = .ok (.iload 4, 2) := by decide +kernel
theorem dX11_read_141 : decode cX11_read 141 = .ok (.ifCond .lt 14, 3) := by decide +kernel
theorem dX11_read_144 : decode cX11_read 144 = .ok (.aload_n 0, 1) := by decide +kernel
theorem dX11_read_145 : decode cX11_read 145 = .ok (.iload 4, 2) := by decide +kernel
theorem dX11_read_147 : decode cX11_read 147 = .ok (.invokevirtual 205, 3) := by decide +kernel
theorem dX11_read_150 : decode cX11_read 150 = .ok (.iload 8, 2) := by decide +kernel
theorem dX11_read_152 : decode cX11_read 152 = .ok (.if_icmp .eq 6, 3) := by decide +kernel
theorem dX11_read_155 : decode cX11_read 155 = .ok (.bipush (-2), 2) := by decide +kernel
theorem dX11_read_157 : decode cX11_read 157 = .ok (.ireturn, 1) := by decide +kernel
theorem dX11_read_158 : decode cX11_read 158 = .ok (.iinc 6 1, 3) := by decide +kernel
theorem dX11_read_161 : decode cX11_read 161 = .ok (.goto (-126), 3) := by decide +kernel
theorem dX11_read_164 : decode cX11_read 164 = .ok (.bipush (-2), 2) := by decide +kernel
theorem dX11_read_166 : decode cX11_read 166 = .ok (.ireturn, 1) := by decide +kernel
def b_X11_read_27 (d : Nat) (G : Nat → zK) (Q : zQ) : zK := o_c (-1) <| t_iret Q
def b_X11_read_29 (d : Nat) (G : Nat → zK) (Q : zQ) : zK := o_il 3 <| o_is 5 <| o_c 0 <| o_is 6 <| G 35
def b_X11_read_17 (d : Nat) (G : Nat → zK) (Q : zQ) : zK := o_il 3 <| o_al 0 <| o_il 4 <| o_callv (zCt (d - 1) mX11_lengthOf) 9 2 <| t_ilt (b_X11_read_29 d G Q) (b_X11_read_27 d G Q)
def b_X11_read_13 (d : Nat) (G : Nat → zK) (Q : zQ) : zK := o_il 3 <| t_zlt (b_X11_read_27 d G Q) (b_X11_read_17 d G Q)
def b_X11_read_0 (d : Nat) (G : Nat → zK) (Q : zQ) : zK := o_al 0 <| o_il 1 <| o_il 2 <| o_callv (zCt (d - 1) mX11_blockAt) 9 3 <| o_is 4 <| o_il 4 <| t_zlt (b_X11_read_27 d G Q) (b_X11_read_13 d G Q)
def b_X11_read_164 (d : Nat) (G : Nat → zK) (Q : zQ) : zK := o_c (-2) <| t_iret Q
def b_X11_read_63 (d : Nat) (G : Nat → zK) (Q : zQ) : zK := o_c 0 <| o_is 7 <| G 66
def b_X11_read_52 (d : Nat) (G : Nat → zK) (Q : zQ) : zK := o_al 0 <| o_il 4 <| o_c 1 <| o_il 5 <| o_add <| o_callv (zCt (d - 1) mX11_cell) 9 3 <| t_iret Q
def b_X11_read_42 (d : Nat) (G : Nat → zK) (Q : zQ) : zK := o_al 0 <| o_il 4 <| o_c 0 <| o_callv (zCt (d - 1) mX11_cell) 9 3 <| t_zeq (b_X11_read_52 d G Q) (b_X11_read_63 d G Q)
def b_X11_read_35 (d : Nat) (G : Nat → zK) (Q : zQ) : zK := o_il 6 <| o_c 10 <| t_igt (b_X11_read_164 d G Q) (b_X11_read_42 d G Q)
def b_X11_read_155 (d : Nat) (G : Nat → zK) (Q : zQ) : zK := o_c (-2) <| t_iret Q
def b_X11_read_158 (d : Nat) (G : Nat → zK) (Q : zQ) : zK := o_inc 6 1 <| G 35
def b_X11_read_144 (d : Nat) (G : Nat → zK) (Q : zQ) : zK := o_al 0 <| o_il 4 <| o_callv (zCt (d - 1) mX11_lengthOf) 9 2 <| o_il 8 <| t_ieq (b_X11_read_158 d G Q) (b_X11_read_155 d G Q)
def b_X11_read_106 (d : Nat) (G : Nat → zK) (Q : zQ) : zK := o_al 0 <| o_il 4 <| o_c 2 <| o_c 4 <| o_il 7 <| o_mul <| o_add <| o_callv (zCt (d - 1) mX11_pair) 9 3 <| o_is 8 <| o_al 0 <| o_il 1 <| o_al 0 <| o_il 4 <| o_c 4 <| o_c 4 <| o_il 7 <| o_mul <| o_add <| o_callv (zCt (d - 1) mX11_pair) 9 3 <| o_callv (zCt (d - 1) mX11_where) 9 3 <| o_is 4 <| o_il 4 <| t_zlt (b_X11_read_155 d G Q) (b_X11_read_144 d G Q)
def b_X11_read_83 (d : Nat) (G : Nat → zK) (Q : zQ) : zK := o_il 5 <| o_al 0 <| o_il 4 <| o_c 2 <| o_c 4 <| o_il 7 <| o_mul <| o_add <| o_callv (zCt (d - 1) mX11_pair) 9 3 <| o_sub <| o_is 5 <| o_inc 7 1 <| G 66
def b_X11_read_66 (d : Nat) (G : Nat → zK) (Q : zQ) : zK := o_il 5 <| o_al 0 <| o_il 4 <| o_c 2 <| o_c 4 <| o_il 7 <| o_mul <| o_add <| o_callv (zCt (d - 1) mX11_pair) 9 3 <| t_ilt (b_X11_read_106 d G Q) (b_X11_read_83 d G Q)
set_option maxRecDepth 20000 in
theorem k_X11_read_27 {p : Program} {l : Launch} {e : Env} {s : State} {m : MethodId} {args : Array Value} {below : List Frame} {meth : Method} {c : Code} {E : zE} {d : Nat} {Q : zQ} (hd1 : 1 ≤ d) (B : zB p s m args c E mX11_read.1.cls mX11_read.2.1 mX11_read.2.2.1) (hr : meth.sig.returnType = mX11_read.2.2.2) (hlk : meth.locks = false) : zLk (zG p l e (zrm d) s m args below meth c E mX11_read.2.2.1 0 0 (MQ below (zQc E Q) args s 0 0 (zaA E))) 27 (b_X11_read_27 d (zG p l e (zrm d) s m args below meth c E mX11_read.2.2.1 0 0 (MQ below (zQc E Q) args s 0 0 (zaA E))) Q) := by
  unfold b_X11_read_27
  exact lk_c B dX11_read_27 (lk_iret B hr hlk dX11_read_28)
set_option maxRecDepth 20000 in
theorem k_X11_read_29 {p : Program} {l : Launch} {e : Env} {s : State} {m : MethodId} {args : Array Value} {below : List Frame} {meth : Method} {c : Code} {E : zE} {d : Nat} {Q : zQ} (hd1 : 1 ≤ d) (B : zB p s m args c E mX11_read.1.cls mX11_read.2.1 mX11_read.2.2.1) (hr : meth.sig.returnType = mX11_read.2.2.2) (hlk : meth.locks = false) : zLk (zG p l e (zrm d) s m args below meth c E mX11_read.2.2.1 0 0 (MQ below (zQc E Q) args s 0 0 (zaA E))) 29 (b_X11_read_29 d (zG p l e (zrm d) s m args below meth c E mX11_read.2.2.1 0 0 (MQ below (zQc E Q) args s 0 0 (zaA E))) Q) := by
  unfold b_X11_read_29
  exact lk_iln B dX11_read_29 rfl (lk_is B dX11_read_30 (by decide) (lk_c B dX11_read_32 (lk_is B dX11_read_33 (by decide) (fun _ _ _ h => h))))
set_option maxRecDepth 20000 in
theorem k_X11_read_17 {p : Program} {l : Launch} {e : Env} {s : State} {m : MethodId} {args : Array Value} {below : List Frame} {meth : Method} {c : Code} {E : zE} {d : Nat} {Q : zQ} (hd1 : 1 ≤ d) (B : zB p s m args c E mX11_read.1.cls mX11_read.2.1 mX11_read.2.2.1) (hr : meth.sig.returnType = mX11_read.2.2.2) (hlk : meth.locks = false) : zLk (zG p l e (zrm d) s m args below meth c E mX11_read.2.2.1 0 0 (MQ below (zQc E Q) args s 0 0 (zaA E))) 17 (b_X11_read_17 d (zG p l e (zrm d) s m args below meth c E mX11_read.2.2.1 0 0 (MQ below (zQc E Q) args s 0 0 (zaA E))) Q) := by
  unfold b_X11_read_17
  exact lk_iln B dX11_read_17 rfl (lk_aln B dX11_read_18 rfl (lk_il B dX11_read_19 (lk_callv (M := mX11_lengthOf) (T := TX11) (N := 41) B (zhR hd1 (by decide)) ⟨Nat.zero_le _, Nat.zero_le _⟩ cl_X11 (zw5 zw_1065 zw_1062 zw_1064 zw_39 zw_58) (by decide +kernel) dX11_read_21 (lk_ilt B dX11_read_24 (by decide) (k_X11_read_29 hd1 B hr hlk) (k_X11_read_27 hd1 B hr hlk)))))
set_option maxRecDepth 20000 in
theorem k_X11_read_13 {p : Program} {l : Launch} {e : Env} {s : State} {m : MethodId} {args : Array Value} {below : List Frame} {meth : Method} {c : Code} {E : zE} {d : Nat} {Q : zQ} (hd1 : 1 ≤ d) (B : zB p s m args c E mX11_read.1.cls mX11_read.2.1 mX11_read.2.2.1) (hr : meth.sig.returnType = mX11_read.2.2.2) (hlk : meth.locks = false) : zLk (zG p l e (zrm d) s m args below meth c E mX11_read.2.2.1 0 0 (MQ below (zQc E Q) args s 0 0 (zaA E))) 13 (b_X11_read_13 d (zG p l e (zrm d) s m args below meth c E mX11_read.2.2.1 0 0 (MQ below (zQc E Q) args s 0 0 (zaA E))) Q) := by
  unfold b_X11_read_13
  exact lk_iln B dX11_read_13 rfl (lk_zlt B dX11_read_14 (by decide) (k_X11_read_27 hd1 B hr hlk) (k_X11_read_17 hd1 B hr hlk))
set_option maxRecDepth 20000 in
theorem k_X11_read_0 {p : Program} {l : Launch} {e : Env} {s : State} {m : MethodId} {args : Array Value} {below : List Frame} {meth : Method} {c : Code} {E : zE} {d : Nat} {Q : zQ} (hd1 : 1 ≤ d) (B : zB p s m args c E mX11_read.1.cls mX11_read.2.1 mX11_read.2.2.1) (hr : meth.sig.returnType = mX11_read.2.2.2) (hlk : meth.locks = false) : zLk (zG p l e (zrm d) s m args below meth c E mX11_read.2.2.1 0 0 (MQ below (zQc E Q) args s 0 0 (zaA E))) 0 (b_X11_read_0 d (zG p l e (zrm d) s m args below meth c E mX11_read.2.2.1 0 0 (MQ below (zQc E Q) args s 0 0 (zaA E))) Q) := by
  unfold b_X11_read_0
  exact lk_aln B dX11_read_0 rfl (lk_iln B dX11_read_1 rfl (lk_iln B dX11_read_2 rfl (lk_callv (M := mX11_blockAt) (T := TX11) (N := 41) B (zhR hd1 (by decide)) ⟨Nat.zero_le _, Nat.zero_le _⟩ cl_X11 (zw5 zw_1053 zw_1050 zw_1052 zw_38 zw_58) (by decide +kernel) dX11_read_3 (lk_is B dX11_read_6 (by decide) (lk_il B dX11_read_8 (lk_zlt B dX11_read_10 (by decide) (k_X11_read_27 hd1 B hr hlk) (k_X11_read_13 hd1 B hr hlk)))))))
set_option maxRecDepth 20000 in
theorem k_X11_read_164 {p : Program} {l : Launch} {e : Env} {s : State} {m : MethodId} {args : Array Value} {below : List Frame} {meth : Method} {c : Code} {E : zE} {d : Nat} {Q : zQ} (hd1 : 1 ≤ d) (B : zB p s m args c E mX11_read.1.cls mX11_read.2.1 mX11_read.2.2.1) (hr : meth.sig.returnType = mX11_read.2.2.2) (hlk : meth.locks = false) : zLk (zG p l e (zrm d) s m args below meth c E mX11_read.2.2.1 0 0 (MQ below (zQc E Q) args s 0 0 (zaA E))) 164 (b_X11_read_164 d (zG p l e (zrm d) s m args below meth c E mX11_read.2.2.1 0 0 (MQ below (zQc E Q) args s 0 0 (zaA E))) Q) := by
  unfold b_X11_read_164
  exact lk_b B dX11_read_164 rfl (lk_iret B hr hlk dX11_read_166)
set_option maxRecDepth 20000 in
theorem k_X11_read_63 {p : Program} {l : Launch} {e : Env} {s : State} {m : MethodId} {args : Array Value} {below : List Frame} {meth : Method} {c : Code} {E : zE} {d : Nat} {Q : zQ} (hd1 : 1 ≤ d) (B : zB p s m args c E mX11_read.1.cls mX11_read.2.1 mX11_read.2.2.1) (hr : meth.sig.returnType = mX11_read.2.2.2) (hlk : meth.locks = false) : zLk (zG p l e (zrm d) s m args below meth c E mX11_read.2.2.1 0 0 (MQ below (zQc E Q) args s 0 0 (zaA E))) 63 (b_X11_read_63 d (zG p l e (zrm d) s m args below meth c E mX11_read.2.2.1 0 0 (MQ below (zQc E Q) args s 0 0 (zaA E))) Q) := by
  unfold b_X11_read_63
  exact lk_c B dX11_read_63 (lk_is B dX11_read_64 (by decide) (fun _ _ _ h => h))
set_option maxRecDepth 20000 in
theorem k_X11_read_52 {p : Program} {l : Launch} {e : Env} {s : State} {m : MethodId} {args : Array Value} {below : List Frame} {meth : Method} {c : Code} {E : zE} {d : Nat} {Q : zQ} (hd1 : 1 ≤ d) (B : zB p s m args c E mX11_read.1.cls mX11_read.2.1 mX11_read.2.2.1) (hr : meth.sig.returnType = mX11_read.2.2.2) (hlk : meth.locks = false) : zLk (zG p l e (zrm d) s m args below meth c E mX11_read.2.2.1 0 0 (MQ below (zQc E Q) args s 0 0 (zaA E))) 52 (b_X11_read_52 d (zG p l e (zrm d) s m args below meth c E mX11_read.2.2.1 0 0 (MQ below (zQc E Q) args s 0 0 (zaA E))) Q) := by
  unfold b_X11_read_52
  exact lk_aln B dX11_read_52 rfl (lk_il B dX11_read_53 (lk_c B dX11_read_55 (lk_il B dX11_read_56 (lk_add B dX11_read_58 (lk_callv (M := mX11_cell) (T := TX11) (N := 41) B (zhR hd1 (by decide)) ⟨Nat.zero_le _, Nat.zero_le _⟩ cl_X11 (zw5 zw_995 zw_992 zw_994 zw_28 zw_58) (by decide +kernel) dX11_read_59 (lk_iret B hr hlk dX11_read_62))))))
set_option maxRecDepth 20000 in
theorem k_X11_read_42 {p : Program} {l : Launch} {e : Env} {s : State} {m : MethodId} {args : Array Value} {below : List Frame} {meth : Method} {c : Code} {E : zE} {d : Nat} {Q : zQ} (hd1 : 1 ≤ d) (B : zB p s m args c E mX11_read.1.cls mX11_read.2.1 mX11_read.2.2.1) (hr : meth.sig.returnType = mX11_read.2.2.2) (hlk : meth.locks = false) : zLk (zG p l e (zrm d) s m args below meth c E mX11_read.2.2.1 0 0 (MQ below (zQc E Q) args s 0 0 (zaA E))) 42 (b_X11_read_42 d (zG p l e (zrm d) s m args below meth c E mX11_read.2.2.1 0 0 (MQ below (zQc E Q) args s 0 0 (zaA E))) Q) := by
  unfold b_X11_read_42
  exact lk_aln B dX11_read_42 rfl (lk_il B dX11_read_43 (lk_c B dX11_read_45 (lk_callv (M := mX11_cell) (T := TX11) (N := 41) B (zhR hd1 (by decide)) ⟨Nat.zero_le _, Nat.zero_le _⟩ cl_X11 (zw5 zw_995 zw_992 zw_994 zw_28 zw_58) (by decide +kernel) dX11_read_46 (lk_zne B dX11_read_49 (by decide) (k_X11_read_63 hd1 B hr hlk) (k_X11_read_52 hd1 B hr hlk)))))
set_option maxRecDepth 20000 in
theorem k_X11_read_35 {p : Program} {l : Launch} {e : Env} {s : State} {m : MethodId} {args : Array Value} {below : List Frame} {meth : Method} {c : Code} {E : zE} {d : Nat} {Q : zQ} (hd1 : 1 ≤ d) (B : zB p s m args c E mX11_read.1.cls mX11_read.2.1 mX11_read.2.2.1) (hr : meth.sig.returnType = mX11_read.2.2.2) (hlk : meth.locks = false) : zLk (zG p l e (zrm d) s m args below meth c E mX11_read.2.2.1 0 0 (MQ below (zQc E Q) args s 0 0 (zaA E))) 35 (b_X11_read_35 d (zG p l e (zrm d) s m args below meth c E mX11_read.2.2.1 0 0 (MQ below (zQc E Q) args s 0 0 (zaA E))) Q) := by
  unfold b_X11_read_35
  exact lk_il B dX11_read_35 (lk_b B dX11_read_37 rfl (lk_igt B dX11_read_39 (by decide) (k_X11_read_164 hd1 B hr hlk) (k_X11_read_42 hd1 B hr hlk)))
set_option maxRecDepth 20000 in
theorem k_X11_read_155 {p : Program} {l : Launch} {e : Env} {s : State} {m : MethodId} {args : Array Value} {below : List Frame} {meth : Method} {c : Code} {E : zE} {d : Nat} {Q : zQ} (hd1 : 1 ≤ d) (B : zB p s m args c E mX11_read.1.cls mX11_read.2.1 mX11_read.2.2.1) (hr : meth.sig.returnType = mX11_read.2.2.2) (hlk : meth.locks = false) : zLk (zG p l e (zrm d) s m args below meth c E mX11_read.2.2.1 0 0 (MQ below (zQc E Q) args s 0 0 (zaA E))) 155 (b_X11_read_155 d (zG p l e (zrm d) s m args below meth c E mX11_read.2.2.1 0 0 (MQ below (zQc E Q) args s 0 0 (zaA E))) Q) := by
  unfold b_X11_read_155
  exact lk_b B dX11_read_155 rfl (lk_iret B hr hlk dX11_read_157)
set_option maxRecDepth 20000 in
theorem k_X11_read_158 {p : Program} {l : Launch} {e : Env} {s : State} {m : MethodId} {args : Array Value} {below : List Frame} {meth : Method} {c : Code} {E : zE} {d : Nat} {Q : zQ} (hd1 : 1 ≤ d) (B : zB p s m args c E mX11_read.1.cls mX11_read.2.1 mX11_read.2.2.1) (hr : meth.sig.returnType = mX11_read.2.2.2) (hlk : meth.locks = false) : zLk (zG p l e (zrm d) s m args below meth c E mX11_read.2.2.1 0 0 (MQ below (zQc E Q) args s 0 0 (zaA E))) 158 (b_X11_read_158 d (zG p l e (zrm d) s m args below meth c E mX11_read.2.2.1 0 0 (MQ below (zQc E Q) args s 0 0 (zaA E))) Q) := by
  unfold b_X11_read_158
  exact lk_inc B dX11_read_158 (by decide) (lk_goto B dX11_read_161 (by decide) (fun _ _ _ h => h))
set_option maxRecDepth 20000 in
theorem k_X11_read_144 {p : Program} {l : Launch} {e : Env} {s : State} {m : MethodId} {args : Array Value} {below : List Frame} {meth : Method} {c : Code} {E : zE} {d : Nat} {Q : zQ} (hd1 : 1 ≤ d) (B : zB p s m args c E mX11_read.1.cls mX11_read.2.1 mX11_read.2.2.1) (hr : meth.sig.returnType = mX11_read.2.2.2) (hlk : meth.locks = false) : zLk (zG p l e (zrm d) s m args below meth c E mX11_read.2.2.1 0 0 (MQ below (zQc E Q) args s 0 0 (zaA E))) 144 (b_X11_read_144 d (zG p l e (zrm d) s m args below meth c E mX11_read.2.2.1 0 0 (MQ below (zQc E Q) args s 0 0 (zaA E))) Q) := by
  unfold b_X11_read_144
  exact lk_aln B dX11_read_144 rfl (lk_il B dX11_read_145 (lk_callv (M := mX11_lengthOf) (T := TX11) (N := 41) B (zhR hd1 (by decide)) ⟨Nat.zero_le _, Nat.zero_le _⟩ cl_X11 (zw5 zw_1065 zw_1062 zw_1064 zw_39 zw_58) (by decide +kernel) dX11_read_147 (lk_il B dX11_read_150 (lk_ieq B dX11_read_152 (by decide) (k_X11_read_158 hd1 B hr hlk) (k_X11_read_155 hd1 B hr hlk)))))
set_option maxRecDepth 20000 in
theorem k_X11_read_106 {p : Program} {l : Launch} {e : Env} {s : State} {m : MethodId} {args : Array Value} {below : List Frame} {meth : Method} {c : Code} {E : zE} {d : Nat} {Q : zQ} (hd1 : 1 ≤ d) (B : zB p s m args c E mX11_read.1.cls mX11_read.2.1 mX11_read.2.2.1) (hr : meth.sig.returnType = mX11_read.2.2.2) (hlk : meth.locks = false) : zLk (zG p l e (zrm d) s m args below meth c E mX11_read.2.2.1 0 0 (MQ below (zQc E Q) args s 0 0 (zaA E))) 106 (b_X11_read_106 d (zG p l e (zrm d) s m args below meth c E mX11_read.2.2.1 0 0 (MQ below (zQc E Q) args s 0 0 (zaA E))) Q) := by
  unfold b_X11_read_106
  exact lk_aln B dX11_read_106 rfl (lk_il B dX11_read_107 (lk_c B dX11_read_109 (lk_c B dX11_read_110 (lk_il B dX11_read_111 (lk_mul B dX11_read_113 (lk_add B dX11_read_114 (lk_callv (M := mX11_pair) (T := TX11) (N := 41) B (zhR hd1 (by decide)) ⟨Nat.zero_le _, Nat.zero_le _⟩ cl_X11 (zw5 zw_999 zw_996 zw_998 zw_29 zw_58) (by decide +kernel) dX11_read_115 (lk_is B dX11_read_118 (by decide) (lk_aln B dX11_read_120 rfl (lk_iln B dX11_read_121 rfl (lk_aln B dX11_read_122 rfl (lk_il B dX11_read_123 (lk_c B dX11_read_125 (lk_c B dX11_read_126 (lk_il B dX11_read_127 (lk_mul B dX11_read_129 (lk_add B dX11_read_130 (lk_callv (M := mX11_pair) (T := TX11) (N := 41) B (zhR hd1 (by decide)) ⟨Nat.zero_le _, Nat.zero_le _⟩ cl_X11 (zw5 zw_999 zw_996 zw_998 zw_29 zw_58) (by decide +kernel) dX11_read_131 (lk_callv (M := mX11_where) (T := TX11) (N := 41) B (zhR hd1 (by decide)) ⟨Nat.zero_le _, Nat.zero_le _⟩ cl_X11 (zw5 zw_963 zw_960 zw_962 zw_20 zw_58) (by decide +kernel) dX11_read_134 (lk_is B dX11_read_137 (by decide) (lk_il B dX11_read_139 (lk_zlt B dX11_read_141 (by decide) (k_X11_read_155 hd1 B hr hlk) (k_X11_read_144 hd1 B hr hlk)))))))))))))))))))))))
set_option maxRecDepth 20000 in
theorem k_X11_read_83 {p : Program} {l : Launch} {e : Env} {s : State} {m : MethodId} {args : Array Value} {below : List Frame} {meth : Method} {c : Code} {E : zE} {d : Nat} {Q : zQ} (hd1 : 1 ≤ d) (B : zB p s m args c E mX11_read.1.cls mX11_read.2.1 mX11_read.2.2.1) (hr : meth.sig.returnType = mX11_read.2.2.2) (hlk : meth.locks = false) : zLk (zG p l e (zrm d) s m args below meth c E mX11_read.2.2.1 0 0 (MQ below (zQc E Q) args s 0 0 (zaA E))) 83 (b_X11_read_83 d (zG p l e (zrm d) s m args below meth c E mX11_read.2.2.1 0 0 (MQ below (zQc E Q) args s 0 0 (zaA E))) Q) := by
  unfold b_X11_read_83
  exact lk_il B dX11_read_83 (lk_aln B dX11_read_85 rfl (lk_il B dX11_read_86 (lk_c B dX11_read_88 (lk_c B dX11_read_89 (lk_il B dX11_read_90 (lk_mul B dX11_read_92 (lk_add B dX11_read_93 (lk_callv (M := mX11_pair) (T := TX11) (N := 41) B (zhR hd1 (by decide)) ⟨Nat.zero_le _, Nat.zero_le _⟩ cl_X11 (zw5 zw_999 zw_996 zw_998 zw_29 zw_58) (by decide +kernel) dX11_read_94 (lk_sub B dX11_read_97 (lk_is B dX11_read_98 (by decide) (lk_inc B dX11_read_100 (by decide) (lk_goto B dX11_read_103 (by decide) (fun _ _ _ h => h)))))))))))))
set_option maxRecDepth 20000 in
theorem k_X11_read_66 {p : Program} {l : Launch} {e : Env} {s : State} {m : MethodId} {args : Array Value} {below : List Frame} {meth : Method} {c : Code} {E : zE} {d : Nat} {Q : zQ} (hd1 : 1 ≤ d) (B : zB p s m args c E mX11_read.1.cls mX11_read.2.1 mX11_read.2.2.1) (hr : meth.sig.returnType = mX11_read.2.2.2) (hlk : meth.locks = false) : zLk (zG p l e (zrm d) s m args below meth c E mX11_read.2.2.1 0 0 (MQ below (zQc E Q) args s 0 0 (zaA E))) 66 (b_X11_read_66 d (zG p l e (zrm d) s m args below meth c E mX11_read.2.2.1 0 0 (MQ below (zQc E Q) args s 0 0 (zaA E))) Q) := by
  unfold b_X11_read_66
  exact lk_il B dX11_read_66 (lk_aln B dX11_read_68 rfl (lk_il B dX11_read_69 (lk_c B dX11_read_71 (lk_c B dX11_read_72 (lk_il B dX11_read_73 (lk_mul B dX11_read_75 (lk_add B dX11_read_76 (lk_callv (M := mX11_pair) (T := TX11) (N := 41) B (zhR hd1 (by decide)) ⟨Nat.zero_le _, Nat.zero_le _⟩ cl_X11 (zw5 zw_999 zw_996 zw_998 zw_29 zw_58) (by decide +kernel) dX11_read_77 (lk_ilt B dX11_read_80 (by decide) (k_X11_read_106 hd1 B hr hlk) (k_X11_read_83 hd1 B hr hlk))))))))))
def S_X11_read (d : Nat) (G : Nat → zK) (Q : zQ) : Prop := zLk G 0 (b_X11_read_0 d G Q) ∧ zLk G 35 (b_X11_read_35 d G Q) ∧ zLk G 66 (b_X11_read_66 d G Q)
theorem s_X11_read_0 {d : Nat} {G : Nat → zK} {Q : zQ} (h : S_X11_read d G Q) {ls st : List zV} {μ : zM} (k : b_X11_read_0 d G Q ls st μ) : G 0 ls st μ := h.1 ls st μ k
theorem s_X11_read_35 {d : Nat} {G : Nat → zK} {Q : zQ} (h : S_X11_read d G Q) {ls st : List zV} {μ : zM} (k : b_X11_read_35 d G Q ls st μ) : G 35 ls st μ := h.2.1 ls st μ k
theorem s_X11_read_66 {d : Nat} {G : Nat → zK} {Q : zQ} (h : S_X11_read d G Q) {ls st : List zV} {μ : zM} (k : b_X11_read_66 d G Q ls st μ) : G 66 ls st μ := h.2.2 ls st μ k
theorem of_X11_read {d : Nat} {a0 a1 a2 a3 : zV} {μ : zM} {Q : zQ} (hd1 : 1 ≤ d) (h : ∀ G : Nat → zK, S_X11_read d G Q → G 0 [a0, a1, a2, a3, .inr none, .inr none, .inr none, .inr none, .inr none] [] μ) : zCt d mX11_read [a0, a1, a2, a3] μ Q := zCt.mk (by decide) (Nat.le_of_ble_eq_true rfl) (fun p l e s m args below meth c E B hr hlk => h _ ⟨k_X11_read_0 hd1 B hr hlk, k_X11_read_35 hd1 B hr hlk, k_X11_read_66 hd1 B hr hlk⟩)
theorem dX11_find_0 : decode cX11_find 0 = .ok (.aload_n 0, 1) := by decide +kernel
theorem dX11_find_1 : decode cX11_find 1 = .ok (.iload_n 1, 1) := by decide +kernel
theorem dX11_find_2 : decode cX11_find 2 = .ok (.iload_n 2, 1) := by decide +kernel
theorem dX11_find_3 : decode cX11_find 3 = .ok (.invokevirtual 199, 3) := by decide +kernel
theorem dX11_find_6 : decode cX11_find 6 = .ok (.istore 4, 2) := by decide +kernel
theorem dX11_find_8 : decode cX11_find 8 = .ok (.iload 4, 2) := by decide +kernel
theorem dX11_find_10 : decode cX11_find 10 = .ok (.ifCond .lt 14, 3) := by decide +kernel
theorem dX11_find_13 : decode cX11_find 13 = .ok (.aload_n 0, 1) := by decide +kernel
theorem dX11_find_14 : decode cX11_find 14 = .ok (.iload 4, 2) := by decide +kernel
theorem dX11_find_16 : decode cX11_find 16 = .ok (.iconst 0, 1) := by decide +kernel
theorem dX11_find_17 : decode cX11_find 17 = .ok (.invokevirtual 196, 3) := by decide +kernel
theorem dX11_find_20 : decode cX11_find 20 = .ok (.iconst 2, 1) := by decide +kernel
theorem dX11_find_21 : decode cX11_find 21 = .ok (.if_icmp .ge 5, 3) := by decide +kernel
theorem dX11_find_24 : decode cX11_find 24 = .ok (.iconst (-1), 1) := by decide +kernel
theorem dX11_find_25 : decode cX11_find 25 = .ok (.ireturn, 1) := by decide +kernel
theorem dX11_find_26 : decode cX11_find 26 = .ok (.iload_n 3, 1) := by decide +kernel
theorem dX11_find_27 : decode cX11_find 27 = .ok (.invokestatic 181, 3) := by decide +kernel
theorem dX11_find_30 : decode cX11_find 30 = .ok (.istore 5, 2) := by decide +kernel
theorem dX11_find_32 : decode cX11_find 32 = .ok (.iconst 0, 1) := by decide +kernel
theorem dX11_find_33 : decode cX11_find 33 = .ok (.istore 6, 2) := by decide +kernel
theorem dX11_find_35 : decode cX11_find 35 = .ok (.iload 6, 2) := by decide +kernel
theorem dX11_find_37 : decode cX11_find 37 = .ok (.iconst 5, 1) := by decide +kernel
theorem dX11_find_38 : decode cX11_find 38 = .ok (.if_icmp .ge 121, 3) := by decide +kernel
theorem dX11_find_41 : decode cX11_find 41 = .ok (.iload 4, 2) := by decide +kernel
theorem dX11_find_43 : decode cX11_find 43 = .ok (.ifCond .lt 14, 3) := by decide +kernel
theorem dX11_find_46 : decode cX11_find 46 = .ok (.aload_n 0, 1) := by decide +kernel
theorem dX11_find_47 : decode cX11_find 47 = .ok (.iload 4, 2) := by decide +kernel
theorem dX11_find_49 : decode cX11_find 49 = .ok (.iconst 0, 1) := by decide +kernel
theorem dX11_find_50 : decode cX11_find 50 = .ok (.invokevirtual 196, 3) := by decide +kernel
theorem dX11_find_53 : decode cX11_find 53 = .ok (.iconst 2, 1) := by decide +kernel
theorem dX11_find_54 : decode cX11_find 54 = .ok (.if_icmp .ge 6, 3) := by decide +kernel
theorem dX11_find_57 : decode cX11_find 57 = .ok (.bipush (-2), 2) := by decide +kernel
theorem dX11_find_59 : decode cX11_find 59 = .ok (.ireturn, 1) := by decide +kernel
theorem dX11_find_60 : decode cX11_find 60 = .ok (.aload_n 0, 1) := by decide +kernel
theorem dX11_find_61 : decode cX11_find 61 = .ok (.iload 4, 2) := by decide +kernel
theorem dX11_find_63 : decode cX11_find 63 = .ok (.iconst 0, 1) := by decide +kernel
theorem dX11_find_64 : decode cX11_find 64 = .ok (.invokevirtual 196, 3) := by decide +kernel
theorem dX11_find_67 : decode cX11_find 67 = .ok (.iconst 2, 1) := by decide +kernel
theorem dX11_find_68 : decode cX11_find 68 = .ok (.if_icmp .ne 11, 3) := by decide +kernel
theorem dX11_find_71 : decode cX11_find 71 = .ok (.aload_n 0, 1) := by decide +kernel
theorem dX11_find_72 : decode cX11_find 72 = .ok (.iload 4, 2) := by decide +kernel
theorem dX11_find_74 : decode cX11_find 74 = .ok (.iload_n 3, 1) := by decide +kernel
theorem dX11_find_75 : decode cX11_find 75 = .ok (.invokevirtual 208, 3) := by decide +kernel
theorem dX11_find_78 : decode cX11_find 78 = .ok (.ireturn, 1) := by decide +kernel
theorem dX11_find_79 : decode cX11_find 79 = .ok (.iload 6, 2) := by decide +kernel
theorem dX11_find_81 : decode cX11_find 81 = .ok (.iconst 4, 1) := by decide +kernel
theorem dX11_find_82 : decode cX11_find 82 = .ok (.if_icmp .ne 6, 3) := by decide +kernel
theorem dX11_find_85 : decode cX11_find 85 = .ok (.bipush (-2), 2) := by decide +kernel
theorem dX11_find_87 : decode cX11_find 87 = .ok (.ireturn, 1) := by decide +kernel
theorem dX11_find_88 : decode cX11_find 88 = .ok (.iload 5, 2) := by decide +kernel
theorem dX11_find_90 : decode cX11_find 90 = .ok (.iconst 2, 1) := by decide +kernel
theorem dX11_find_91 : decode cX11_find 91 = .ok (.iload 6, 2) := by decide +kernel
theorem dX11_find_93 : decode cX11_find 93 = .ok (.imul, 1) := by decide +kernel
theorem dX11_find_94 : decode cX11_find 94 = .ok (.ishr, 1) := by decide +kernel
theorem dX11_find_95 : decode cX11_find 95 = .ok (.iconst 3, 1) := by decide +kernel
theorem dX11_find_96 : decode cX11_find 96 = .ok (.iand, 1) := by decide +kernel
theorem dX11_find_97 : decode cX11_find 97 = .ok (.istore 7, 2) := by decide +kernel
theorem dX11_find_99 : decode cX11_find 99 = .ok (.aload_n 0, 1) := by decide +kernel
theorem dX11_find_100 : decode cX11_find 100 = .ok (.iload 4, 2) := by decide +kernel
theorem dX11_find_102 : decode cX11_find 102 = .ok (.iconst 1, 1) := by decide +kernel
theorem dX11_find_103 : decode cX11_find 103 = .ok (.invokevirtual 196, 3) := by decide +kernel
theorem dX11_find_106 : decode cX11_find 106 = .ok (.istore 8, 2) := by decide +kernel
theorem dX11_find_108 : decode cX11_find 108 = .ok (.iload 8, 2) := by decide +kernel
theorem dX11_find_110 : decode cX11_find 110 = .ok (.iload 7, 2) := by decide +kernel
theorem dX11_find_112 : decode cX11_find 112 = .ok (.ishr, 1) := by decide +kernel
theorem dX11_find_113 : decode cX11_find 113 = .ok (.iconst 1, 1) := by decide +kernel
theorem dX11_find_114 : decode cX11_find 114 = .ok (.iand, 1) := by decide +kernel
theorem dX11_find_115 : decode cX11_find 115 = .ok (.ifCond .ne 5, 3) := by decide +kernel
theorem dX11_find_118 : decode cX11_find 118 = .ok (.iconst (-1), 1) := by decide +kernel
theorem dX11_find_119 : decode cX11_find 119 = .ok (.ireturn, 1) := by decide +kernel
theorem dX11_find_120 : decode cX11_find 120 = .ok (.iload 8, 2) := by decide +kernel
theorem dX11_find_122 : decode cX11_find 122 = .ok (.iconst 1, 1) := by decide +kernel
theorem dX11_find_123 : decode cX11_find 123 = .ok (.iload 7, 2) := by decide +kernel
theorem dX11_find_125 : decode cX11_find 125 = .ok (.ishl, 1) := by decide +kernel
theorem dX11_find_126 : decode cX11_find 126 = .ok (.iconst 1, 1) := by decide +kernel
theorem dX11_find_127 : decode cX11_find 127 = .ok (.isub, 1) := by decide +kernel
theorem dX11_find_128 : decode cX11_find 128 = .ok (.iand, 1) := by decide +kernel
theorem dX11_find_129 : decode cX11_find 129 = .ok (.invokestatic 129, 3) := by decide +kernel
theorem dX11_find_132 : decode cX11_find 132 = .ok (.istore 9, 2) := by decide +kernel
theorem dX11_find_134 : decode cX11_find 134 = .ok (.aload_n 0, 1) := by decide +kernel
theorem dX11_find_135 : decode cX11_find 135 = .ok (.iload_n 1, 1) := by decide +kernel
theorem dX11_find_136 : decode cX11_find 136 = .ok (.aload_n 0, 1) := by decide +kernel
theorem dX11_find_137 : decode cX11_find 137 = .ok (.iload 4, 2) := by decide +kernel
theorem dX11_find_139 : decode cX11_find 139 = .ok (.iconst 2, 1) := by decide +kernel
theorem dX11_find_140 : decode cX11_find 140 = .ok (.iconst 2, 1) := by decide +kernel
theorem dX11_find_141 : decode cX11_find 141 = .ok (.iload 9, 2) := by decide +kernel
theorem dX11_find_143 : decode cX11_find 143 = .ok (.imul, 1) := by decide +kernel
theorem dX11_find_144 : decode cX11_find 144 = .ok (.iadd, 1) := by decide +kernel
theorem dX11_find_145 : decode cX11_find 145 = .ok (.invokevirtual 202, 3) := by decide +kernel
theorem dX11_find_148 : decode cX11_find 148 = .ok (.invokevirtual 144, 3) := by decide +kernel
theorem dX11_find_151 : decode cX11_find 151 = .ok (.istore 4, 2) := by decide +kernel
theorem dX11_find_153 : decode cX11_find 153 = .ok (.iinc 6 1, 3) := by decide +kernel
theorem dX11_find_156 : decode cX11_find 156 = .ok (.goto (-121), 3) := by decide +kernel
theorem dX11_find_159 : decode cX11_find 159 = .ok (.bipush (-2), 2) := by decide +kernel
theorem dX11_find_161 : decode cX11_find 161 = .ok (.ireturn, 1) := by decide +kernel
def b_X11_find_24 (d : Nat) (G : Nat → zK) (Q : zQ) : zK := o_c (-1) <| t_iret Q
def b_X11_find_26 (d : Nat) (G : Nat → zK) (Q : zQ) : zK := o_il 3 <| o_call (zCt (d - 1) mX11_hash) 1 <| o_is 5 <| o_c 0 <| o_is 6 <| G 35
def b_X11_find_13 (d : Nat) (G : Nat → zK) (Q : zQ) : zK := o_al 0 <| o_il 4 <| o_c 0 <| o_callv (zCt (d - 1) mX11_cell) 9 3 <| o_c 2 <| t_ilt (b_X11_find_24 d G Q) (b_X11_find_26 d G Q)
def b_X11_find_0 (d : Nat) (G : Nat → zK) (Q : zQ) : zK := o_al 0 <| o_il 1 <| o_il 2 <| o_callv (zCt (d - 1) mX11_blockAt) 9 3 <| o_is 4 <| o_il 4 <| t_zlt (b_X11_find_24 d G Q) (b_X11_find_13 d G Q)
def b_X11_find_159 (d : Nat) (G : Nat → zK) (Q : zQ) : zK := o_c (-2) <| t_iret Q
def b_X11_find_57 (d : Nat) (G : Nat → zK) (Q : zQ) : zK := o_c (-2) <| t_iret Q
def b_X11_find_120 (d : Nat) (G : Nat → zK) (Q : zQ) : zK := o_il 8 <| o_c 1 <| o_il 7 <| o_shl <| o_c 1 <| o_sub <| o_and <| o_call (zCt (d - 1) mX11_bits) 1 <| o_is 9 <| o_al 0 <| o_il 1 <| o_al 0 <| o_il 4 <| o_c 2 <| o_c 2 <| o_il 9 <| o_mul <| o_add <| o_callv (zCt (d - 1) mX11_pair) 9 3 <| o_callv (zCt (d - 1) mX11_where) 9 3 <| o_is 4 <| o_inc 6 1 <| G 35
def b_X11_find_118 (d : Nat) (G : Nat → zK) (Q : zQ) : zK := o_c (-1) <| t_iret Q
def b_X11_find_88 (d : Nat) (G : Nat → zK) (Q : zQ) : zK := o_il 5 <| o_c 2 <| o_il 6 <| o_mul <| o_shr <| o_c 3 <| o_and <| o_is 7 <| o_al 0 <| o_il 4 <| o_c 1 <| o_callv (zCt (d - 1) mX11_cell) 9 3 <| o_is 8 <| o_il 8 <| o_il 7 <| o_shr <| o_c 1 <| o_and <| t_zeq (b_X11_find_118 d G Q) (b_X11_find_120 d G Q)
def b_X11_find_85 (d : Nat) (G : Nat → zK) (Q : zQ) : zK := o_c (-2) <| t_iret Q
def b_X11_find_79 (d : Nat) (G : Nat → zK) (Q : zQ) : zK := o_il 6 <| o_c 4 <| t_ieq (b_X11_find_85 d G Q) (b_X11_find_88 d G Q)
def b_X11_find_71 (d : Nat) (G : Nat → zK) (Q : zQ) : zK := o_al 0 <| o_il 4 <| o_il 3 <| o_callv (zCt (d - 1) mX11_inFolder) 9 3 <| t_iret Q
def b_X11_find_60 (d : Nat) (G : Nat → zK) (Q : zQ) : zK := o_al 0 <| o_il 4 <| o_c 0 <| o_callv (zCt (d - 1) mX11_cell) 9 3 <| o_c 2 <| t_ieq (b_X11_find_71 d G Q) (b_X11_find_79 d G Q)
def b_X11_find_46 (d : Nat) (G : Nat → zK) (Q : zQ) : zK := o_al 0 <| o_il 4 <| o_c 0 <| o_callv (zCt (d - 1) mX11_cell) 9 3 <| o_c 2 <| t_ilt (b_X11_find_57 d G Q) (b_X11_find_60 d G Q)
def b_X11_find_41 (d : Nat) (G : Nat → zK) (Q : zQ) : zK := o_il 4 <| t_zlt (b_X11_find_57 d G Q) (b_X11_find_46 d G Q)
def b_X11_find_35 (d : Nat) (G : Nat → zK) (Q : zQ) : zK := o_il 6 <| o_c 5 <| t_ilt (b_X11_find_41 d G Q) (b_X11_find_159 d G Q)
set_option maxRecDepth 20000 in
theorem k_X11_find_24 {p : Program} {l : Launch} {e : Env} {s : State} {m : MethodId} {args : Array Value} {below : List Frame} {meth : Method} {c : Code} {E : zE} {d : Nat} {Q : zQ} (hd1 : 1 ≤ d) (B : zB p s m args c E mX11_find.1.cls mX11_find.2.1 mX11_find.2.2.1) (hr : meth.sig.returnType = mX11_find.2.2.2) (hlk : meth.locks = false) : zLk (zG p l e (zrm d) s m args below meth c E mX11_find.2.2.1 0 0 (MQ below (zQc E Q) args s 0 0 (zaA E))) 24 (b_X11_find_24 d (zG p l e (zrm d) s m args below meth c E mX11_find.2.2.1 0 0 (MQ below (zQc E Q) args s 0 0 (zaA E))) Q) := by
  unfold b_X11_find_24
  exact lk_c B dX11_find_24 (lk_iret B hr hlk dX11_find_25)
set_option maxRecDepth 20000 in
theorem k_X11_find_26 {p : Program} {l : Launch} {e : Env} {s : State} {m : MethodId} {args : Array Value} {below : List Frame} {meth : Method} {c : Code} {E : zE} {d : Nat} {Q : zQ} (hd1 : 1 ≤ d) (B : zB p s m args c E mX11_find.1.cls mX11_find.2.1 mX11_find.2.2.1) (hr : meth.sig.returnType = mX11_find.2.2.2) (hlk : meth.locks = false) : zLk (zG p l e (zrm d) s m args below meth c E mX11_find.2.2.1 0 0 (MQ below (zQc E Q) args s 0 0 (zaA E))) 26 (b_X11_find_26 d (zG p l e (zrm d) s m args below meth c E mX11_find.2.2.1 0 0 (MQ below (zQc E Q) args s 0 0 (zaA E))) Q) := by
  unfold b_X11_find_26
  exact lk_iln B dX11_find_26 rfl (lk_calls (M := mX11_hash) B (zhR hd1 (by decide)) ⟨Nat.zero_le _, Nat.zero_le _⟩ (zw4 zw_1034 zw_1032 zw_1033 zw_58) (by decide +kernel) dX11_find_27 (lk_is B dX11_find_30 (by decide) (lk_c B dX11_find_32 (lk_is B dX11_find_33 (by decide) (fun _ _ _ h => h)))))
set_option maxRecDepth 20000 in
theorem k_X11_find_13 {p : Program} {l : Launch} {e : Env} {s : State} {m : MethodId} {args : Array Value} {below : List Frame} {meth : Method} {c : Code} {E : zE} {d : Nat} {Q : zQ} (hd1 : 1 ≤ d) (B : zB p s m args c E mX11_find.1.cls mX11_find.2.1 mX11_find.2.2.1) (hr : meth.sig.returnType = mX11_find.2.2.2) (hlk : meth.locks = false) : zLk (zG p l e (zrm d) s m args below meth c E mX11_find.2.2.1 0 0 (MQ below (zQc E Q) args s 0 0 (zaA E))) 13 (b_X11_find_13 d (zG p l e (zrm d) s m args below meth c E mX11_find.2.2.1 0 0 (MQ below (zQc E Q) args s 0 0 (zaA E))) Q) := by
  unfold b_X11_find_13
  exact lk_aln B dX11_find_13 rfl (lk_il B dX11_find_14 (lk_c B dX11_find_16 (lk_callv (M := mX11_cell) (T := TX11) (N := 41) B (zhR hd1 (by decide)) ⟨Nat.zero_le _, Nat.zero_le _⟩ cl_X11 (zw5 zw_995 zw_992 zw_994 zw_28 zw_58) (by decide +kernel) dX11_find_17 (lk_c B dX11_find_20 (lk_ige B dX11_find_21 (by decide) (k_X11_find_26 hd1 B hr hlk) (k_X11_find_24 hd1 B hr hlk))))))
set_option maxRecDepth 20000 in
theorem k_X11_find_0 {p : Program} {l : Launch} {e : Env} {s : State} {m : MethodId} {args : Array Value} {below : List Frame} {meth : Method} {c : Code} {E : zE} {d : Nat} {Q : zQ} (hd1 : 1 ≤ d) (B : zB p s m args c E mX11_find.1.cls mX11_find.2.1 mX11_find.2.2.1) (hr : meth.sig.returnType = mX11_find.2.2.2) (hlk : meth.locks = false) : zLk (zG p l e (zrm d) s m args below meth c E mX11_find.2.2.1 0 0 (MQ below (zQc E Q) args s 0 0 (zaA E))) 0 (b_X11_find_0 d (zG p l e (zrm d) s m args below meth c E mX11_find.2.2.1 0 0 (MQ below (zQc E Q) args s 0 0 (zaA E))) Q) := by
  unfold b_X11_find_0
  exact lk_aln B dX11_find_0 rfl (lk_iln B dX11_find_1 rfl (lk_iln B dX11_find_2 rfl (lk_callv (M := mX11_blockAt) (T := TX11) (N := 41) B (zhR hd1 (by decide)) ⟨Nat.zero_le _, Nat.zero_le _⟩ cl_X11 (zw5 zw_1053 zw_1050 zw_1052 zw_38 zw_58) (by decide +kernel) dX11_find_3 (lk_is B dX11_find_6 (by decide) (lk_il B dX11_find_8 (lk_zlt B dX11_find_10 (by decide) (k_X11_find_24 hd1 B hr hlk) (k_X11_find_13 hd1 B hr hlk)))))))
set_option maxRecDepth 20000 in
theorem k_X11_find_159 {p : Program} {l : Launch} {e : Env} {s : State} {m : MethodId} {args : Array Value} {below : List Frame} {meth : Method} {c : Code} {E : zE} {d : Nat} {Q : zQ} (hd1 : 1 ≤ d) (B : zB p s m args c E mX11_find.1.cls mX11_find.2.1 mX11_find.2.2.1) (hr : meth.sig.returnType = mX11_find.2.2.2) (hlk : meth.locks = false) : zLk (zG p l e (zrm d) s m args below meth c E mX11_find.2.2.1 0 0 (MQ below (zQc E Q) args s 0 0 (zaA E))) 159 (b_X11_find_159 d (zG p l e (zrm d) s m args below meth c E mX11_find.2.2.1 0 0 (MQ below (zQc E Q) args s 0 0 (zaA E))) Q) := by
  unfold b_X11_find_159
  exact lk_b B dX11_find_159 rfl (lk_iret B hr hlk dX11_find_161)
set_option maxRecDepth 20000 in
theorem k_X11_find_57 {p : Program} {l : Launch} {e : Env} {s : State} {m : MethodId} {args : Array Value} {below : List Frame} {meth : Method} {c : Code} {E : zE} {d : Nat} {Q : zQ} (hd1 : 1 ≤ d) (B : zB p s m args c E mX11_find.1.cls mX11_find.2.1 mX11_find.2.2.1) (hr : meth.sig.returnType = mX11_find.2.2.2) (hlk : meth.locks = false) : zLk (zG p l e (zrm d) s m args below meth c E mX11_find.2.2.1 0 0 (MQ below (zQc E Q) args s 0 0 (zaA E))) 57 (b_X11_find_57 d (zG p l e (zrm d) s m args below meth c E mX11_find.2.2.1 0 0 (MQ below (zQc E Q) args s 0 0 (zaA E))) Q) := by
  unfold b_X11_find_57
  exact lk_b B dX11_find_57 rfl (lk_iret B hr hlk dX11_find_59)
set_option maxRecDepth 20000 in
theorem k_X11_find_120 {p : Program} {l : Launch} {e : Env} {s : State} {m : MethodId} {args : Array Value} {below : List Frame} {meth : Method} {c : Code} {E : zE} {d : Nat} {Q : zQ} (hd1 : 1 ≤ d) (B : zB p s m args c E mX11_find.1.cls mX11_find.2.1 mX11_find.2.2.1) (hr : meth.sig.returnType = mX11_find.2.2.2) (hlk : meth.locks = false) : zLk (zG p l e (zrm d) s m args below meth c E mX11_find.2.2.1 0 0 (MQ below (zQc E Q) args s 0 0 (zaA E))) 120 (b_X11_find_120 d (zG p l e (zrm d) s m args below meth c E mX11_find.2.2.1 0 0 (MQ below (zQc E Q) args s 0 0 (zaA E))) Q) := by
  unfold b_X11_find_120
  exact lk_il B dX11_find_120 (lk_c B dX11_find_122 (lk_il B dX11_find_123 (lk_shl B dX11_find_125 (lk_c B dX11_find_126 (lk_sub B dX11_find_127 (lk_and B dX11_find_128 (lk_calls (M := mX11_bits) B (zhR hd1 (by decide)) ⟨Nat.zero_le _, Nat.zero_le _⟩ (zw4 zw_955 zw_953 zw_954 zw_58) (by decide +kernel) dX11_find_129 (lk_is B dX11_find_132 (by decide) (lk_aln B dX11_find_134 rfl (lk_iln B dX11_find_135 rfl (lk_aln B dX11_find_136 rfl (lk_il B dX11_find_137 (lk_c B dX11_find_139 (lk_c B dX11_find_140 (lk_il B dX11_find_141 (lk_mul B dX11_find_143 (lk_add B dX11_find_144 (lk_callv (M := mX11_pair) (T := TX11) (N := 41) B (zhR hd1 (by decide)) ⟨Nat.zero_le _, Nat.zero_le _⟩ cl_X11 (zw5 zw_999 zw_996 zw_998 zw_29 zw_58) (by decide +kernel) dX11_find_145 (lk_callv (M := mX11_where) (T := TX11) (N := 41) B (zhR hd1 (by decide)) ⟨Nat.zero_le _, Nat.zero_le _⟩ cl_X11 (zw5 zw_963 zw_960 zw_962 zw_20 zw_58) (by decide +kernel) dX11_find_148 (lk_is B dX11_find_151 (by decide) (lk_inc B dX11_find_153 (by decide) (lk_goto B dX11_find_156 (by decide) (fun _ _ _ h => h)))))))))))))))))))))))
set_option maxRecDepth 20000 in
theorem k_X11_find_118 {p : Program} {l : Launch} {e : Env} {s : State} {m : MethodId} {args : Array Value} {below : List Frame} {meth : Method} {c : Code} {E : zE} {d : Nat} {Q : zQ} (hd1 : 1 ≤ d) (B : zB p s m args c E mX11_find.1.cls mX11_find.2.1 mX11_find.2.2.1) (hr : meth.sig.returnType = mX11_find.2.2.2) (hlk : meth.locks = false) : zLk (zG p l e (zrm d) s m args below meth c E mX11_find.2.2.1 0 0 (MQ below (zQc E Q) args s 0 0 (zaA E))) 118 (b_X11_find_118 d (zG p l e (zrm d) s m args below meth c E mX11_find.2.2.1 0 0 (MQ below (zQc E Q) args s 0 0 (zaA E))) Q) := by
  unfold b_X11_find_118
  exact lk_c B dX11_find_118 (lk_iret B hr hlk dX11_find_119)
set_option maxRecDepth 20000 in
theorem k_X11_find_88 {p : Program} {l : Launch} {e : Env} {s : State} {m : MethodId} {args : Array Value} {below : List Frame} {meth : Method} {c : Code} {E : zE} {d : Nat} {Q : zQ} (hd1 : 1 ≤ d) (B : zB p s m args c E mX11_find.1.cls mX11_find.2.1 mX11_find.2.2.1) (hr : meth.sig.returnType = mX11_find.2.2.2) (hlk : meth.locks = false) : zLk (zG p l e (zrm d) s m args below meth c E mX11_find.2.2.1 0 0 (MQ below (zQc E Q) args s 0 0 (zaA E))) 88 (b_X11_find_88 d (zG p l e (zrm d) s m args below meth c E mX11_find.2.2.1 0 0 (MQ below (zQc E Q) args s 0 0 (zaA E))) Q) := by
  unfold b_X11_find_88
  exact lk_il B dX11_find_88 (lk_c B dX11_find_90 (lk_il B dX11_find_91 (lk_mul B dX11_find_93 (lk_shr B dX11_find_94 (lk_c B dX11_find_95 (lk_and B dX11_find_96 (lk_is B dX11_find_97 (by decide) (lk_aln B dX11_find_99 rfl (lk_il B dX11_find_100 (lk_c B dX11_find_102 (lk_callv (M := mX11_cell) (T := TX11) (N := 41) B (zhR hd1 (by decide)) ⟨Nat.zero_le _, Nat.zero_le _⟩ cl_X11 (zw5 zw_995 zw_992 zw_994 zw_28 zw_58) (by decide +kernel) dX11_find_103 (lk_is B dX11_find_106 (by decide) (lk_il B dX11_find_108 (lk_il B dX11_find_110 (lk_shr B dX11_find_112 (lk_c B dX11_find_113 (lk_and B dX11_find_114 (lk_zne B dX11_find_115 (by decide) (k_X11_find_120 hd1 B hr hlk) (k_X11_find_118 hd1 B hr hlk)))))))))))))))))))
set_option maxRecDepth 20000 in
theorem k_X11_find_85 {p : Program} {l : Launch} {e : Env} {s : State} {m : MethodId} {args : Array Value} {below : List Frame} {meth : Method} {c : Code} {E : zE} {d : Nat} {Q : zQ} (hd1 : 1 ≤ d) (B : zB p s m args c E mX11_find.1.cls mX11_find.2.1 mX11_find.2.2.1) (hr : meth.sig.returnType = mX11_find.2.2.2) (hlk : meth.locks = false) : zLk (zG p l e (zrm d) s m args below meth c E mX11_find.2.2.1 0 0 (MQ below (zQc E Q) args s 0 0 (zaA E))) 85 (b_X11_find_85 d (zG p l e (zrm d) s m args below meth c E mX11_find.2.2.1 0 0 (MQ below (zQc E Q) args s 0 0 (zaA E))) Q) := by
  unfold b_X11_find_85
  exact lk_b B dX11_find_85 rfl (lk_iret B hr hlk dX11_find_87)
set_option maxRecDepth 20000 in
theorem k_X11_find_79 {p : Program} {l : Launch} {e : Env} {s : State} {m : MethodId} {args : Array Value} {below : List Frame} {meth : Method} {c : Code} {E : zE} {d : Nat} {Q : zQ} (hd1 : 1 ≤ d) (B : zB p s m args c E mX11_find.1.cls mX11_find.2.1 mX11_find.2.2.1) (hr : meth.sig.returnType = mX11_find.2.2.2) (hlk : meth.locks = false) : zLk (zG p l e (zrm d) s m args below meth c E mX11_find.2.2.1 0 0 (MQ below (zQc E Q) args s 0 0 (zaA E))) 79 (b_X11_find_79 d (zG p l e (zrm d) s m args below meth c E mX11_find.2.2.1 0 0 (MQ below (zQc E Q) args s 0 0 (zaA E))) Q) := by
  unfold b_X11_find_79
  exact lk_il B dX11_find_79 (lk_c B dX11_find_81 (lk_ine B dX11_find_82 (by decide) (k_X11_find_88 hd1 B hr hlk) (k_X11_find_85 hd1 B hr hlk)))
set_option maxRecDepth 20000 in
theorem k_X11_find_71 {p : Program} {l : Launch} {e : Env} {s : State} {m : MethodId} {args : Array Value} {below : List Frame} {meth : Method} {c : Code} {E : zE} {d : Nat} {Q : zQ} (hd1 : 1 ≤ d) (B : zB p s m args c E mX11_find.1.cls mX11_find.2.1 mX11_find.2.2.1) (hr : meth.sig.returnType = mX11_find.2.2.2) (hlk : meth.locks = false) : zLk (zG p l e (zrm d) s m args below meth c E mX11_find.2.2.1 0 0 (MQ below (zQc E Q) args s 0 0 (zaA E))) 71 (b_X11_find_71 d (zG p l e (zrm d) s m args below meth c E mX11_find.2.2.1 0 0 (MQ below (zQc E Q) args s 0 0 (zaA E))) Q) := by
  unfold b_X11_find_71
  exact lk_aln B dX11_find_71 rfl (lk_il B dX11_find_72 (lk_iln B dX11_find_74 rfl (lk_callv (M := mX11_inFolder) (T := TX11) (N := 41) B (zhR hd1 (by decide)) ⟨Nat.zero_le _, Nat.zero_le _⟩ cl_X11 (zw5 zw_1077 zw_1074 zw_1076 zw_40 zw_58) (by decide +kernel) dX11_find_75 (lk_iret B hr hlk dX11_find_78))))
set_option maxRecDepth 20000 in
theorem k_X11_find_60 {p : Program} {l : Launch} {e : Env} {s : State} {m : MethodId} {args : Array Value} {below : List Frame} {meth : Method} {c : Code} {E : zE} {d : Nat} {Q : zQ} (hd1 : 1 ≤ d) (B : zB p s m args c E mX11_find.1.cls mX11_find.2.1 mX11_find.2.2.1) (hr : meth.sig.returnType = mX11_find.2.2.2) (hlk : meth.locks = false) : zLk (zG p l e (zrm d) s m args below meth c E mX11_find.2.2.1 0 0 (MQ below (zQc E Q) args s 0 0 (zaA E))) 60 (b_X11_find_60 d (zG p l e (zrm d) s m args below meth c E mX11_find.2.2.1 0 0 (MQ below (zQc E Q) args s 0 0 (zaA E))) Q) := by
  unfold b_X11_find_60
  exact lk_aln B dX11_find_60 rfl (lk_il B dX11_find_61 (lk_c B dX11_find_63 (lk_callv (M := mX11_cell) (T := TX11) (N := 41) B (zhR hd1 (by decide)) ⟨Nat.zero_le _, Nat.zero_le _⟩ cl_X11 (zw5 zw_995 zw_992 zw_994 zw_28 zw_58) (by decide +kernel) dX11_find_64 (lk_c B dX11_find_67 (lk_ine B dX11_find_68 (by decide) (k_X11_find_79 hd1 B hr hlk) (k_X11_find_71 hd1 B hr hlk))))))
set_option maxRecDepth 20000 in
theorem k_X11_find_46 {p : Program} {l : Launch} {e : Env} {s : State} {m : MethodId} {args : Array Value} {below : List Frame} {meth : Method} {c : Code} {E : zE} {d : Nat} {Q : zQ} (hd1 : 1 ≤ d) (B : zB p s m args c E mX11_find.1.cls mX11_find.2.1 mX11_find.2.2.1) (hr : meth.sig.returnType = mX11_find.2.2.2) (hlk : meth.locks = false) : zLk (zG p l e (zrm d) s m args below meth c E mX11_find.2.2.1 0 0 (MQ below (zQc E Q) args s 0 0 (zaA E))) 46 (b_X11_find_46 d (zG p l e (zrm d) s m args below meth c E mX11_find.2.2.1 0 0 (MQ below (zQc E Q) args s 0 0 (zaA E))) Q) := by
  unfold b_X11_find_46
  exact lk_aln B dX11_find_46 rfl (lk_il B dX11_find_47 (lk_c B dX11_find_49 (lk_callv (M := mX11_cell) (T := TX11) (N := 41) B (zhR hd1 (by decide)) ⟨Nat.zero_le _, Nat.zero_le _⟩ cl_X11 (zw5 zw_995 zw_992 zw_994 zw_28 zw_58) (by decide +kernel) dX11_find_50 (lk_c B dX11_find_53 (lk_ige B dX11_find_54 (by decide) (k_X11_find_60 hd1 B hr hlk) (k_X11_find_57 hd1 B hr hlk))))))
set_option maxRecDepth 20000 in
theorem k_X11_find_41 {p : Program} {l : Launch} {e : Env} {s : State} {m : MethodId} {args : Array Value} {below : List Frame} {meth : Method} {c : Code} {E : zE} {d : Nat} {Q : zQ} (hd1 : 1 ≤ d) (B : zB p s m args c E mX11_find.1.cls mX11_find.2.1 mX11_find.2.2.1) (hr : meth.sig.returnType = mX11_find.2.2.2) (hlk : meth.locks = false) : zLk (zG p l e (zrm d) s m args below meth c E mX11_find.2.2.1 0 0 (MQ below (zQc E Q) args s 0 0 (zaA E))) 41 (b_X11_find_41 d (zG p l e (zrm d) s m args below meth c E mX11_find.2.2.1 0 0 (MQ below (zQc E Q) args s 0 0 (zaA E))) Q) := by
  unfold b_X11_find_41
  exact lk_il B dX11_find_41 (lk_zlt B dX11_find_43 (by decide) (k_X11_find_57 hd1 B hr hlk) (k_X11_find_46 hd1 B hr hlk))
set_option maxRecDepth 20000 in
theorem k_X11_find_35 {p : Program} {l : Launch} {e : Env} {s : State} {m : MethodId} {args : Array Value} {below : List Frame} {meth : Method} {c : Code} {E : zE} {d : Nat} {Q : zQ} (hd1 : 1 ≤ d) (B : zB p s m args c E mX11_find.1.cls mX11_find.2.1 mX11_find.2.2.1) (hr : meth.sig.returnType = mX11_find.2.2.2) (hlk : meth.locks = false) : zLk (zG p l e (zrm d) s m args below meth c E mX11_find.2.2.1 0 0 (MQ below (zQc E Q) args s 0 0 (zaA E))) 35 (b_X11_find_35 d (zG p l e (zrm d) s m args below meth c E mX11_find.2.2.1 0 0 (MQ below (zQc E Q) args s 0 0 (zaA E))) Q) := by
  unfold b_X11_find_35
  exact lk_il B dX11_find_35 (lk_c B dX11_find_37 (lk_ige B dX11_find_38 (by decide) (k_X11_find_159 hd1 B hr hlk) (k_X11_find_41 hd1 B hr hlk)))
def S_X11_find (d : Nat) (G : Nat → zK) (Q : zQ) : Prop := zLk G 0 (b_X11_find_0 d G Q) ∧ zLk G 35 (b_X11_find_35 d G Q)
theorem s_X11_find_0 {d : Nat} {G : Nat → zK} {Q : zQ} (h : S_X11_find d G Q) {ls st : List zV} {μ : zM} (k : b_X11_find_0 d G Q ls st μ) : G 0 ls st μ := h.1 ls st μ k
theorem s_X11_find_35 {d : Nat} {G : Nat → zK} {Q : zQ} (h : S_X11_find d G Q) {ls st : List zV} {μ : zM} (k : b_X11_find_35 d G Q ls st μ) : G 35 ls st μ := h.2 ls st μ k
theorem of_X11_find {d : Nat} {a0 a1 a2 a3 : zV} {μ : zM} {Q : zQ} (hd1 : 1 ≤ d) (h : ∀ G : Nat → zK, S_X11_find d G Q → G 0 [a0, a1, a2, a3, .inr none, .inr none, .inr none, .inr none, .inr none, .inr none] [] μ) : zCt d mX11_find [a0, a1, a2, a3] μ Q := zCt.mk (by decide) (Nat.le_of_ble_eq_true rfl) (fun p l e s m args below meth c E B hr hlk => h _ ⟨k_X11_find_0 hd1 B hr hlk, k_X11_find_35 hd1 B hr hlk⟩)
theorem dX11_inFolder_0 : decode cX11_inFolder 0 = .ok (.iconst 0, 1) := by decide +kernel
theorem dX11_inFolder_1 : decode cX11_inFolder 1 = .ok (.istore_n 3, 1) := by decide +kernel
theorem dX11_inFolder_2 : decode cX11_inFolder 2 = .ok (.iload_n 3, 1) := by decide +kernel
theorem dX11_inFolder_3 : decode cX11_inFolder 3 = .ok (.aload_n 0, 1) := by decide +kernel
theorem dX11_inFolder_4 : decode cX11_inFolder 4 = .ok (.iload_n 1, 1) := by decide +kernel
theorem dX11_inFolder_5 : decode cX11_inFolder 5 = .ok (.iconst 1, 1) := by decide +kernel
theorem dX11_inFolder_6 : decode cX11_inFolder 6 = .ok (.invokevirtual 196, 3) := by decide +kernel
theorem dX11_inFolder_9 : decode cX11_inFolder 9 = .ok (.if_icmp .ge 34, 3) := by decide +kernel
theorem dX11_inFolder_12 : decode cX11_inFolder 12 = .ok (.aload_n 0, 1) := by decide +kernel
theorem dX11_inFolder_13 : decode cX11_inFolder 13 = .ok (.iload_n 1, 1) := by decide +kernel
theorem dX11_inFolder_14 : decode cX11_inFolder 14 = .ok (.iconst 2, 1) := by decide +kernel
theorem dX11_inFolder_15 : decode cX11_inFolder 15 = .ok (.iconst 3, 1) := by decide +kernel
theorem dX11_inFolder_16 : decode cX11_inFolder 16 = .ok (.iload_n 3, 1) := by decide +kernel
theorem dX11_inFolder_17 : decode cX11_inFolder 17 = .ok (.imul, 1) := by decide +kernel
theorem dX11_inFolder_18 : decode cX11_inFolder 18 = .ok (.iadd, 1) := by decide +kernel
theorem dX11_inFolder_19 : decode cX11_inFolder 19 = .ok (.invokevirtual 196, 3) := by decide +kernel
theorem dX11_inFolder_22 : decode cX11_inFolder 22 = .ok (.iload_n 2, 1) := by decide +kernel
theorem dX11_inFolder_23 : decode cX11_inFolder 23 = .ok (.if_icmp .ne 14, 3) := by decide +kernel
theorem dX11_inFolder_26 : decode cX11_inFolder 26 = .ok (.aload_n 0, 1) := by decide +kernel
theorem dX11_inFolder_27 : decode cX11_inFolder 27 = .ok (.iload_n 1, 1) := by decide +kernel
theorem dX11_inFolder_28 : decode cX11_inFolder 28 = .ok (.iconst 3, 1) := by decide +kernel
theorem dX11_inFolder_29 : decode cX11_inFolder 29 = .ok (.iconst 3, 1) := by decide +kernel
theorem dX11_inFolder_30 : decode cX11_inFolder 30 = .ok (.iload_n 3, 1) := by decide +kernel
theorem dX11_inFolder_31 : decode cX11_inFolder 31 = .ok (.imul, 1) := by decide +kernel
theorem dX11_inFolder_32 : decode cX11_inFolder 32 = .ok (.iadd, 1) := by decide +kernel
theorem dX11_inFolder_33 : decode cX11_inFolder 33 = .ok (.invokevirtual 202, 3) := by decide +kernel
theorem dX11_inFolder_36 : decode cX11_inFolder 36 = .ok (.ireturn, 1) := by decide +kernel
theorem dX11_inFolder_37 : decode cX11_inFolder 37 = .ok (.iinc 3 1, 3) := by decide +kernel
theorem dX11_inFolder_40 : decode cX11_inFolder 40 = .ok (.goto (-38), 3) := by decide +kernel
theorem dX11_inFolder_43 : decode cX11_inFolder 43 = .ok (.iconst (-1), 1) := by decide +kernel
theorem dX11_inFolder_44 : decode cX11_inFolder 44 = .ok (.ireturn, 1) := by decide +kernel
def b_X11_inFolder_0 (d : Nat) (G : Nat → zK) (Q : zQ) : zK := o_c 0 <| o_is 3 <| G 2
def b_X11_inFolder_43 (d : Nat) (G : Nat → zK) (Q : zQ) : zK := o_c (-1) <| t_iret Q
def b_X11_inFolder_37 (d : Nat) (G : Nat → zK) (Q : zQ) : zK := o_inc 3 1 <| G 2
def b_X11_inFolder_26 (d : Nat) (G : Nat → zK) (Q : zQ) : zK := o_al 0 <| o_il 1 <| o_c 3 <| o_c 3 <| o_il 3 <| o_mul <| o_add <| o_callv (zCt (d - 1) mX11_pair) 9 3 <| t_iret Q
def b_X11_inFolder_12 (d : Nat) (G : Nat → zK) (Q : zQ) : zK := o_al 0 <| o_il 1 <| o_c 2 <| o_c 3 <| o_il 3 <| o_mul <| o_add <| o_callv (zCt (d - 1) mX11_cell) 9 3 <| o_il 2 <| t_ieq (b_X11_inFolder_26 d G Q) (b_X11_inFolder_37 d G Q)
def b_X11_inFolder_2 (d : Nat) (G : Nat → zK) (Q : zQ) : zK := o_il 3 <| o_al 0 <| o_il 1 <| o_c 1 <| o_callv (zCt (d - 1) mX11_cell) 9 3 <| t_ilt (b_X11_inFolder_12 d G Q) (b_X11_inFolder_43 d G Q)
set_option maxRecDepth 20000 in
theorem k_X11_inFolder_0 {p : Program} {l : Launch} {e : Env} {s : State} {m : MethodId} {args : Array Value} {below : List Frame} {meth : Method} {c : Code} {E : zE} {d : Nat} {Q : zQ} (hd1 : 1 ≤ d) (B : zB p s m args c E mX11_inFolder.1.cls mX11_inFolder.2.1 mX11_inFolder.2.2.1) (hr : meth.sig.returnType = mX11_inFolder.2.2.2) (hlk : meth.locks = false) : zLk (zG p l e (zrm d) s m args below meth c E mX11_inFolder.2.2.1 0 0 (MQ below (zQc E Q) args s 0 0 (zaA E))) 0 (b_X11_inFolder_0 d (zG p l e (zrm d) s m args below meth c E mX11_inFolder.2.2.1 0 0 (MQ below (zQc E Q) args s 0 0 (zaA E))) Q) := by
  unfold b_X11_inFolder_0
  exact lk_c B dX11_inFolder_0 (lk_isn B dX11_inFolder_1 rfl (by decide) (fun _ _ _ h => h))
set_option maxRecDepth 20000 in
theorem k_X11_inFolder_43 {p : Program} {l : Launch} {e : Env} {s : State} {m : MethodId} {args : Array Value} {below : List Frame} {meth : Method} {c : Code} {E : zE} {d : Nat} {Q : zQ} (hd1 : 1 ≤ d) (B : zB p s m args c E mX11_inFolder.1.cls mX11_inFolder.2.1 mX11_inFolder.2.2.1) (hr : meth.sig.returnType = mX11_inFolder.2.2.2) (hlk : meth.locks = false) : zLk (zG p l e (zrm d) s m args below meth c E mX11_inFolder.2.2.1 0 0 (MQ below (zQc E Q) args s 0 0 (zaA E))) 43 (b_X11_inFolder_43 d (zG p l e (zrm d) s m args below meth c E mX11_inFolder.2.2.1 0 0 (MQ below (zQc E Q) args s 0 0 (zaA E))) Q) := by
  unfold b_X11_inFolder_43
  exact lk_c B dX11_inFolder_43 (lk_iret B hr hlk dX11_inFolder_44)
set_option maxRecDepth 20000 in
theorem k_X11_inFolder_37 {p : Program} {l : Launch} {e : Env} {s : State} {m : MethodId} {args : Array Value} {below : List Frame} {meth : Method} {c : Code} {E : zE} {d : Nat} {Q : zQ} (hd1 : 1 ≤ d) (B : zB p s m args c E mX11_inFolder.1.cls mX11_inFolder.2.1 mX11_inFolder.2.2.1) (hr : meth.sig.returnType = mX11_inFolder.2.2.2) (hlk : meth.locks = false) : zLk (zG p l e (zrm d) s m args below meth c E mX11_inFolder.2.2.1 0 0 (MQ below (zQc E Q) args s 0 0 (zaA E))) 37 (b_X11_inFolder_37 d (zG p l e (zrm d) s m args below meth c E mX11_inFolder.2.2.1 0 0 (MQ below (zQc E Q) args s 0 0 (zaA E))) Q) := by
  unfold b_X11_inFolder_37
  exact lk_inc B dX11_inFolder_37 (by decide) (lk_goto B dX11_inFolder_40 (by decide) (fun _ _ _ h => h))
set_option maxRecDepth 20000 in
theorem k_X11_inFolder_26 {p : Program} {l : Launch} {e : Env} {s : State} {m : MethodId} {args : Array Value} {below : List Frame} {meth : Method} {c : Code} {E : zE} {d : Nat} {Q : zQ} (hd1 : 1 ≤ d) (B : zB p s m args c E mX11_inFolder.1.cls mX11_inFolder.2.1 mX11_inFolder.2.2.1) (hr : meth.sig.returnType = mX11_inFolder.2.2.2) (hlk : meth.locks = false) : zLk (zG p l e (zrm d) s m args below meth c E mX11_inFolder.2.2.1 0 0 (MQ below (zQc E Q) args s 0 0 (zaA E))) 26 (b_X11_inFolder_26 d (zG p l e (zrm d) s m args below meth c E mX11_inFolder.2.2.1 0 0 (MQ below (zQc E Q) args s 0 0 (zaA E))) Q) := by
  unfold b_X11_inFolder_26
  exact lk_aln B dX11_inFolder_26 rfl (lk_iln B dX11_inFolder_27 rfl (lk_c B dX11_inFolder_28 (lk_c B dX11_inFolder_29 (lk_iln B dX11_inFolder_30 rfl (lk_mul B dX11_inFolder_31 (lk_add B dX11_inFolder_32 (lk_callv (M := mX11_pair) (T := TX11) (N := 41) B (zhR hd1 (by decide)) ⟨Nat.zero_le _, Nat.zero_le _⟩ cl_X11 (zw5 zw_999 zw_996 zw_998 zw_29 zw_58) (by decide +kernel) dX11_inFolder_33 (lk_iret B hr hlk dX11_inFolder_36))))))))
set_option maxRecDepth 20000 in
theorem k_X11_inFolder_12 {p : Program} {l : Launch} {e : Env} {s : State} {m : MethodId} {args : Array Value} {below : List Frame} {meth : Method} {c : Code} {E : zE} {d : Nat} {Q : zQ} (hd1 : 1 ≤ d) (B : zB p s m args c E mX11_inFolder.1.cls mX11_inFolder.2.1 mX11_inFolder.2.2.1) (hr : meth.sig.returnType = mX11_inFolder.2.2.2) (hlk : meth.locks = false) : zLk (zG p l e (zrm d) s m args below meth c E mX11_inFolder.2.2.1 0 0 (MQ below (zQc E Q) args s 0 0 (zaA E))) 12 (b_X11_inFolder_12 d (zG p l e (zrm d) s m args below meth c E mX11_inFolder.2.2.1 0 0 (MQ below (zQc E Q) args s 0 0 (zaA E))) Q) := by
  unfold b_X11_inFolder_12
  exact lk_aln B dX11_inFolder_12 rfl (lk_iln B dX11_inFolder_13 rfl (lk_c B dX11_inFolder_14 (lk_c B dX11_inFolder_15 (lk_iln B dX11_inFolder_16 rfl (lk_mul B dX11_inFolder_17 (lk_add B dX11_inFolder_18 (lk_callv (M := mX11_cell) (T := TX11) (N := 41) B (zhR hd1 (by decide)) ⟨Nat.zero_le _, Nat.zero_le _⟩ cl_X11 (zw5 zw_995 zw_992 zw_994 zw_28 zw_58) (by decide +kernel) dX11_inFolder_19 (lk_iln B dX11_inFolder_22 rfl (lk_ine B dX11_inFolder_23 (by decide) (k_X11_inFolder_37 hd1 B hr hlk) (k_X11_inFolder_26 hd1 B hr hlk))))))))))
set_option maxRecDepth 20000 in
theorem k_X11_inFolder_2 {p : Program} {l : Launch} {e : Env} {s : State} {m : MethodId} {args : Array Value} {below : List Frame} {meth : Method} {c : Code} {E : zE} {d : Nat} {Q : zQ} (hd1 : 1 ≤ d) (B : zB p s m args c E mX11_inFolder.1.cls mX11_inFolder.2.1 mX11_inFolder.2.2.1) (hr : meth.sig.returnType = mX11_inFolder.2.2.2) (hlk : meth.locks = false) : zLk (zG p l e (zrm d) s m args below meth c E mX11_inFolder.2.2.1 0 0 (MQ below (zQc E Q) args s 0 0 (zaA E))) 2 (b_X11_inFolder_2 d (zG p l e (zrm d) s m args below meth c E mX11_inFolder.2.2.1 0 0 (MQ below (zQc E Q) args s 0 0 (zaA E))) Q) := by
  unfold b_X11_inFolder_2
  exact lk_iln B dX11_inFolder_2 rfl (lk_aln B dX11_inFolder_3 rfl (lk_iln B dX11_inFolder_4 rfl (lk_c B dX11_inFolder_5 (lk_callv (M := mX11_cell) (T := TX11) (N := 41) B (zhR hd1 (by decide)) ⟨Nat.zero_le _, Nat.zero_le _⟩ cl_X11 (zw5 zw_995 zw_992 zw_994 zw_28 zw_58) (by decide +kernel) dX11_inFolder_6 (lk_ige B dX11_inFolder_9 (by decide) (k_X11_inFolder_43 hd1 B hr hlk) (k_X11_inFolder_12 hd1 B hr hlk))))))
def S_X11_inFolder (d : Nat) (G : Nat → zK) (Q : zQ) : Prop := zLk G 0 (b_X11_inFolder_0 d G Q) ∧ zLk G 2 (b_X11_inFolder_2 d G Q)
theorem s_X11_inFolder_0 {d : Nat} {G : Nat → zK} {Q : zQ} (h : S_X11_inFolder d G Q) {ls st : List zV} {μ : zM} (k : b_X11_inFolder_0 d G Q ls st μ) : G 0 ls st μ := h.1 ls st μ k
theorem s_X11_inFolder_2 {d : Nat} {G : Nat → zK} {Q : zQ} (h : S_X11_inFolder d G Q) {ls st : List zV} {μ : zM} (k : b_X11_inFolder_2 d G Q ls st μ) : G 2 ls st μ := h.2 ls st μ k
theorem of_X11_inFolder {d : Nat} {a0 a1 a2 : zV} {μ : zM} {Q : zQ} (hd1 : 1 ≤ d) (h : ∀ G : Nat → zK, S_X11_inFolder d G Q → G 0 [a0, a1, a2, .inr none] [] μ) : zCt d mX11_inFolder [a0, a1, a2] μ Q := zCt.mk (by decide) (Nat.le_of_ble_eq_true rfl) (fun p l e s m args below meth c E B hr hlk => h _ ⟨k_X11_inFolder_0 hd1 B hr hlk, k_X11_inFolder_2 hd1 B hr hlk⟩)
theorem dX11_beginWalk_0 : decode cX11_beginWalk 0 = .ok (.aload_n 0, 1) := by decide +kernel
theorem dX11_beginWalk_1 : decode cX11_beginWalk 1 = .ok (.iconst 0, 1) := by decide +kernel
theorem dX11_beginWalk_2 : decode cX11_beginWalk 2 = .ok (.putfield 211, 3) := by decide +kernel
theorem dX11_beginWalk_5 : decode cX11_beginWalk 5 = .ok (.aload_n 0, 1) := by decide +kernel
theorem dX11_beginWalk_6 : decode cX11_beginWalk 6 = .ok (.iconst 0, 1) := by decide +kernel
theorem dX11_beginWalk_7 : decode cX11_beginWalk 7 = .ok (.putfield 214, 3) := by decide +kernel
theorem dX11_beginWalk_10 : decode cX11_beginWalk 10 = .ok (.return_, 1) := by decide +kernel
def b_X11_beginWalk_0 (d : Nat) (G : Nat → zK) (Q : zQ) : zK := o_al 0 <| o_c 0 <| o_pf 9 30 <| o_al 0 <| o_c 0 <| o_pf 9 34 <| t_vret Q
set_option maxRecDepth 20000 in
theorem k_X11_beginWalk_0 {p : Program} {l : Launch} {e : Env} {s : State} {m : MethodId} {args : Array Value} {below : List Frame} {meth : Method} {c : Code} {E : zE} {d : Nat} {Q : zQ} (B : zB p s m args c E mX11_beginWalk.1.cls mX11_beginWalk.2.1 mX11_beginWalk.2.2.1) (hr : meth.sig.returnType = mX11_beginWalk.2.2.2) (hlk : meth.locks = false) : zLk (zG p l e (zrm d) s m args below meth c E mX11_beginWalk.2.2.1 0 0 (MQ below (zQc E Q) args s 0 0 (zaA E))) 0 (b_X11_beginWalk_0 d (zG p l e (zrm d) s m args below meth c E mX11_beginWalk.2.2.1 0 0 (MQ below (zQc E Q) args s 0 0 (zaA E))) Q) := by
  unfold b_X11_beginWalk_0
  exact lk_aln B dX11_beginWalk_0 rfl (lk_c B dX11_beginWalk_1 (lk_pf (T := TX11) B cl_X11 (by decide) in_X11 tyX11_ok nmX11 zw_818 rfl (by decide +kernel) dX11_beginWalk_2 (lk_aln B dX11_beginWalk_5 rfl (lk_c B dX11_beginWalk_6 (lk_pf (T := TX11) B cl_X11 (by decide) in_X11 tyX11_ok nmX11 zw_822 rfl (by decide +kernel) dX11_beginWalk_7 (lk_vret B hr hlk dX11_beginWalk_10))))))
def S_X11_beginWalk (d : Nat) (G : Nat → zK) (Q : zQ) : Prop := zLk G 0 (b_X11_beginWalk_0 d G Q)
theorem s_X11_beginWalk_0 {d : Nat} {G : Nat → zK} {Q : zQ} (h : S_X11_beginWalk d G Q) {ls st : List zV} {μ : zM} (k : b_X11_beginWalk_0 d G Q ls st μ) : G 0 ls st μ := h ls st μ k
theorem of_X11_beginWalk {d : Nat} {a0 : zV} {μ : zM} {Q : zQ} (h : ∀ G : Nat → zK, S_X11_beginWalk d G Q → G 0 [a0] [] μ) : zCt d mX11_beginWalk [a0] μ Q := zCt.mk (by decide) (Nat.le_of_ble_eq_true rfl) (fun p l e s m args below meth c E B hr hlk => h _ (k_X11_beginWalk_0 B hr hlk))
theorem dX11_walk_0 : decode cX11_walk 0 = .ok (.aload_n 0, 1) := by decide +kernel
theorem dX11_walk_1 : decode cX11_walk 1 = .ok (.iconst 1, 1) := by decide +kernel
theorem dX11_walk_2 : decode cX11_walk 2 = .ok (.putfield 217, 3) := by decide +kernel
theorem dX11_walk_5 : decode cX11_walk 5 = .ok (.aload_n 0, 1) := by decide +kernel
theorem dX11_walk_6 : decode cX11_walk 6 = .ok (.getfield 86, 3) := by decide +kernel
theorem dX11_walk_9 : decode cX11_walk 9 = .ok (.iconst 0, 1) := by decide +kernel
theorem dX11_walk_10 : decode cX11_walk 10 = .ok (.iload_n 2, 1) := by decide +kernel
theorem dX11_walk_11 : decode cX11_walk 11 = .ok (.iastore, 1) := by decide +kernel
theorem dX11_walk_12 : decode cX11_walk 12 = .ok (.aload_n 0, 1) := by decide +kernel
theorem dX11_walk_13 : decode cX11_walk 13 = .ok (.getfield 217, 3) := by decide +kernel
theorem dX11_walk_16 : decode cX11_walk 16 = .ok (.ifCond .le 148, 3) := by decide +kernel
theorem dX11_walk_19 : decode cX11_walk 19 = .ok (.aload_n 0, 1) := by decide +kernel
theorem dX11_walk_20 : decode cX11_walk 20 = .ok (.dup, 1) := by decide +kernel
theorem dX11_walk_21 : decode cX11_walk 21 = .ok (.getfield 217, 3) := by decide +kernel
theorem dX11_walk_24 : decode cX11_walk 24 = .ok (.iconst 1, 1) := by decide +kernel
theorem dX11_walk_25 : decode cX11_walk 25 = .ok (.isub, 1) := by decide +kernel
theorem dX11_walk_26 : decode cX11_walk 26 = .ok (.putfield 217, 3) := by decide +kernel
theorem dX11_walk_29 : decode cX11_walk 29 = .ok (.aload_n 0, 1) := by decide +kernel
theorem dX11_walk_30 : decode cX11_walk 30 = .ok (.getfield 86, 3) := by decide +kernel
theorem dX11_walk_33 : decode cX11_walk 33 = .ok (.aload_n 0, 1) := by decide +kernel
theorem dX11_walk_34 : decode cX11_walk 34 = .ok (.getfield 217, 3) := by decide +kernel
theorem dX11_walk_37 : decode cX11_walk 37 = .ok (.iaload, 1) := by decide +kernel
theorem dX11_walk_38 : decode cX11_walk 38 = .ok (.istore_n 3, 1) := by decide +kernel
theorem dX11_walk_39 : decode cX11_walk 39 = .ok (.iconst 0, 1) := by decide +kernel
theorem dX11_walk_40 : decode cX11_walk 40 = .ok (.istore 4, 2) := by decide +kernel
theorem dX11_walk_42 : decode cX11_walk 42 = .ok (.iconst 0, 1) := by decide +kernel
theorem dX11_walk_43 : decode cX11_walk 43 = .ok (.istore 5, 2) := by decide +kernel
theorem dX11_walk_45 : decode cX11_walk 45 = .ok (.iload 5, 2) := by decide +kernel
theorem dX11_walk_47 : decode cX11_walk 47 = .ok (.aload_n 0, 1) := by decide +kernel
theorem dX11_walk_48 : decode cX11_walk 48 = .ok (.getfield 211, 3) := by decide +kernel
theorem dX11_walk_51 : decode cX11_walk 51 = .ok (.if_icmp .ge 32, 3) := by decide +kernel
theorem dX11_walk_54 : decode cX11_walk 54 = .ok (.iload 4, 2) := by decide +kernel
theorem dX11_walk_56 : decode cX11_walk 56 = .ok (.ifCond .ne 14, 3) := by decide +kernel
theorem dX11_walk_59 : decode cX11_walk 59 = .ok (.aload_n 0, 1) := by decide +kernel
theorem dX11_walk_60 : decode cX11_walk 60 = .ok (.getfield 83, 3) := by decide +kernel
theorem dX11_walk_63 : decode cX11_walk 63 = .ok (.iload 5, 2) := by decide +kernel
theorem dX11_walk_65 : decode cX11_walk 65 = .ok (.iaload, 1) := by decide +kernel
theorem dX11_walk_66 : decode cX11_walk 66 = .ok (.iload_n 3, 1) := by decide +kernel
theorem dX11_walk_67 : decode cX11_walk 67 = .ok (.if_icmp .ne 7, 3) := by decide +kernel
theorem dX11_walk_70 : decode cX11_walk 70 = .ok (.iconst 1, 1) := by decide +kernel
theorem dX11_walk_71 : decode cX11_walk 71 = .ok (.goto 4, 3) := by decide +kernel
theorem dX11_walk_74 : decode cX11_walk 74 = .ok (.iconst 0, 1) := by decide +kernel
theorem dX11_walk_75 : decode cX11_walk 75 = .ok (.istore 4, 2) := by decide +kernel
theorem dX11_walk_77 : decode cX11_walk 77 = .ok (.iinc 5 1, 3) := by decide +kernel
theorem dX11_walk_80 : decode cX11_walk 80 = .ok (.goto (-35), 3) := by decide +kernel
theorem dX11_walk_83 : decode cX11_walk 83 = .ok (.iload 4, 2) := by decide +kernel
theorem dX11_walk_85 : decode cX11_walk 85 = .ok (.ifCond .eq 6, 3) := by decide +kernel
theorem dX11_walk_88 : decode cX11_walk 88 = .ok (.goto (-76), 3) := by decide +kernel
theorem dX11_walk_91 : decode cX11_walk 91 = .ok (.aload_n 0, 1) := by decide +kernel
theorem dX11_walk_92 : decode cX11_walk 92 = .ok (.getfield 83, 3) := by decide +kernel
theorem dX11_walk_95 : decode cX11_walk 95 = .ok (.aload_n 0, 1) := by decide +kernel
theorem dX11_walk_96 : decode cX11_walk 96 = .ok (.getfield 211, 3) := by decide +kernel
theorem dX11_walk_99 : decode cX11_walk 99 = .ok (.iload_n 3, 1) := by decide +kernel
theorem dX11_walk_100 : decode cX11_walk 100 = .ok (.iastore, 1) := by decide +kernel
theorem dX11_walk_101 : decode cX11_walk 101 = .ok (.aload_n 0, 1) := by decide +kernel
theorem dX11_walk_102 : decode cX11_walk 102 = .ok (.dup, 1) := by decide +kernel
theorem dX11_walk_103 : decode cX11_walk 103 = .ok (.getfield 211, 3) := by decide +kernel
theorem dX11_walk_106 : decode cX11_walk 106 = .ok (.iconst 1, 1) := by decide +kernel
theorem dX11_walk_107 : decode cX11_walk 107 = .ok (.iadd, 1) := by decide +kernel
theorem dX11_walk_108 : decode cX11_walk 108 = .ok (.putfield 211, 3) := by decide +kernel
theorem dX11_walk_111 : decode cX11_walk 111 = .ok (.aload_n 0, 1) := by decide +kernel
theorem dX11_walk_112 : decode cX11_walk 112 = .ok (.iload_n 1, 1) := by decide +kernel
theorem dX11_walk_113 : decode cX11_walk 113 = .ok (.iload_n 3, 1) := by decide +kernel
theorem dX11_walk_114 : decode cX11_walk 114 = .ok (.invokevirtual 144, 3) := by decide +kernel
theorem dX11_walk_117 : decode cX11_walk 117 = .ok (.istore 5, 2) := by decide +kernel
theorem dX11_walk_119 : decode cX11_walk 119 = .ok (.iload 5, 2) := by decide +kernel
theorem dX11_walk_121 : decode cX11_walk 121 = .ok (.ifCond .ge 26, 3) := by decide +kernel
theorem dX11_walk_124 : decode cX11_walk 124 = .ok (.aload_n 0, 1) := by decide +kernel
theorem dX11_walk_125 : decode cX11_walk 125 = .ok (.getfield 89, 3) := by decide +kernel
theorem dX11_walk_128 : decode cX11_walk 128 = .ok (.aload_n 0, 1) := by decide +kernel
theorem dX11_walk_129 : decode cX11_walk 129 = .ok (.getfield 214, 3) := by decide +kernel
theorem dX11_walk_132 : decode cX11_walk 132 = .ok (.iload_n 3, 1) := by decide +kernel
theorem dX11_walk_133 : decode cX11_walk 133 = .ok (.iastore, 1) := by decide +kernel
theorem dX11_walk_134 : decode cX11_walk 134 = .ok (.aload_n 0, 1) := by decide +kernel
theorem dX11_walk_135 : decode cX11_walk 135 = .ok (.dup, 1) := by decide +kernel
theorem dX11_walk_136 : decode cX11_walk 136 = .ok (.getfield 214, 3) := by decide +kernel
theorem dX11_walk_139 : decode cX11_walk 139 = .ok (.iconst 1, 1) := by decide +kernel
theorem dX11_walk_140 : decode cX11_walk 140 = .ok (.iadd, 1) := by decide +kernel
theorem dX11_walk_141 : decode cX11_walk 141 = .ok (.putfield 214, 3) := by decide +kernel
theorem dX11_walk_144 : decode cX11_walk 144 = .ok (.goto (-132), 3) := by decide +kernel
theorem dX11_walk_147 : decode cX11_walk 147 = .ok (.aload_n 0, 1) := by decide +kernel
theorem dX11_walk_148 : decode cX11_walk 148 = .ok (.getfield 22, 3) := by decide +kernel
theorem dX11_walk_151 : decode cX11_walk 151 = .ok (.iload 5, 2) := by decide +kernel
theorem dX11_walk_153 : decode cX11_walk 153 = .ok (.iconst 1, 1) := by decide +kernel
theorem dX11_walk_154 : decode cX11_walk 154 = .ok (.bastore, 1) := by decide +kernel
theorem dX11_walk_155 : decode cX11_walk 155 = .ok (.aload_n 0, 1) := by decide +kernel
theorem dX11_walk_156 : decode cX11_walk 156 = .ok (.iload 5, 2) := by decide +kernel
theorem dX11_walk_158 : decode cX11_walk 158 = .ok (.invokevirtual 220, 3) := by decide +kernel
theorem dX11_walk_161 : decode cX11_walk 161 = .ok (.goto (-149), 3) := by decide +kernel
theorem dX11_walk_164 : decode cX11_walk 164 = .ok (.return_, 1) := by decide +kernel
def b_X11_walk_0 (d : Nat) (G : Nat → zK) (Q : zQ) : zK := o_al 0 <| o_c 1 <| o_pf 9 32 <| o_al 0 <| o_gf 9 33 <| o_c 0 <| o_il 2 <| o_iast <| G 12
def b_X11_walk_164 (d : Nat) (G : Nat → zK) (Q : zQ) : zK := t_vret Q
def b_X11_walk_19 (d : Nat) (G : Nat → zK) (Q : zQ) : zK := o_al 0 <| o_dup <| o_gf 9 32 <| o_c 1 <| o_sub <| o_pf 9 32 <| o_al 0 <| o_gf 9 33 <| o_al 0 <| o_gf 9 32 <| o_iald <| o_is 3 <| o_c 0 <| o_is 4 <| o_c 0 <| o_is 5 <| G 45
def b_X11_walk_12 (d : Nat) (G : Nat → zK) (Q : zQ) : zK := o_al 0 <| o_gf 9 32 <| t_zgt (b_X11_walk_19 d G Q) (b_X11_walk_164 d G Q)
def b_X11_walk_147 (d : Nat) (G : Nat → zK) (Q : zQ) : zK := o_al 0 <| o_gf 9 4 <| o_il 5 <| o_c 1 <| o_zast <| o_al 0 <| o_il 5 <| o_callv (zCt (d - 1) mX11_pushLinks) 9 2 <| G 12
def b_X11_walk_124 (d : Nat) (G : Nat → zK) (Q : zQ) : zK := o_al 0 <| o_gf 9 35 <| o_al 0 <| o_gf 9 34 <| o_il 3 <| o_iast <| o_al 0 <| o_dup <| o_gf 9 34 <| o_c 1 <| o_add <| o_pf 9 34 <| G 12
def b_X11_walk_91 (d : Nat) (G : Nat → zK) (Q : zQ) : zK := o_al 0 <| o_gf 9 31 <| o_al 0 <| o_gf 9 30 <| o_il 3 <| o_iast <| o_al 0 <| o_dup <| o_gf 9 30 <| o_c 1 <| o_add <| o_pf 9 30 <| o_al 0 <| o_il 1 <| o_il 3 <| o_callv (zCt (d - 1) mX11_where) 9 3 <| o_is 5 <| o_il 5 <| t_zlt (b_X11_walk_124 d G Q) (b_X11_walk_147 d G Q)
def b_X11_walk_88 (d : Nat) (G : Nat → zK) (Q : zQ) : zK := G 12
def b_X11_walk_83 (d : Nat) (G : Nat → zK) (Q : zQ) : zK := o_il 4 <| t_zeq (b_X11_walk_91 d G Q) (b_X11_walk_88 d G Q)
def b_X11_walk_75 (d : Nat) (G : Nat → zK) (Q : zQ) : zK := o_is 4 <| o_inc 5 1 <| G 45
def b_X11_walk_70 (d : Nat) (G : Nat → zK) (Q : zQ) : zK := o_c 1 <| b_X11_walk_75 d G Q
def b_X11_walk_74 (d : Nat) (G : Nat → zK) (Q : zQ) : zK := o_c 0 <| b_X11_walk_75 d G Q
def b_X11_walk_59 (d : Nat) (G : Nat → zK) (Q : zQ) : zK := o_al 0 <| o_gf 9 31 <| o_il 5 <| o_iald <| o_il 3 <| t_ieq (b_X11_walk_70 d G Q) (b_X11_walk_74 d G Q)
def b_X11_walk_54 (d : Nat) (G : Nat → zK) (Q : zQ) : zK := o_il 4 <| t_zeq (b_X11_walk_59 d G Q) (b_X11_walk_70 d G Q)
def b_X11_walk_45 (d : Nat) (G : Nat → zK) (Q : zQ) : zK := o_il 5 <| o_al 0 <| o_gf 9 30 <| t_ilt (b_X11_walk_54 d G Q) (b_X11_walk_83 d G Q)
set_option maxRecDepth 20000 in
theorem k_X11_walk_0 {p : Program} {l : Launch} {e : Env} {s : State} {m : MethodId} {args : Array Value} {below : List Frame} {meth : Method} {c : Code} {E : zE} {d : Nat} {Q : zQ} (hd1 : 1 ≤ d) (B : zB p s m args c E mX11_walk.1.cls mX11_walk.2.1 mX11_walk.2.2.1) (hr : meth.sig.returnType = mX11_walk.2.2.2) (hlk : meth.locks = false) : zLk (zG p l e (zrm d) s m args below meth c E mX11_walk.2.2.1 0 0 (MQ below (zQc E Q) args s 0 0 (zaA E))) 0 (b_X11_walk_0 d (zG p l e (zrm d) s m args below meth c E mX11_walk.2.2.1 0 0 (MQ below (zQc E Q) args s 0 0 (zaA E))) Q) := by
  unfold b_X11_walk_0
  exact lk_aln B dX11_walk_0 rfl (lk_c B dX11_walk_1 (lk_pf (T := TX11) B cl_X11 (by decide) in_X11 tyX11_ok nmX11 zw_820 rfl (by decide +kernel) dX11_walk_2 (lk_aln B dX11_walk_5 rfl (lk_gf (T := TX11) B cl_X11 (by decide) in_X11 zw_821 dX11_walk_6 (lk_c B dX11_walk_9 (lk_iln B dX11_walk_10 rfl (lk_iast B dX11_walk_11 (fun _ _ _ h => h))))))))
set_option maxRecDepth 20000 in
theorem k_X11_walk_164 {p : Program} {l : Launch} {e : Env} {s : State} {m : MethodId} {args : Array Value} {below : List Frame} {meth : Method} {c : Code} {E : zE} {d : Nat} {Q : zQ} (hd1 : 1 ≤ d) (B : zB p s m args c E mX11_walk.1.cls mX11_walk.2.1 mX11_walk.2.2.1) (hr : meth.sig.returnType = mX11_walk.2.2.2) (hlk : meth.locks = false) : zLk (zG p l e (zrm d) s m args below meth c E mX11_walk.2.2.1 0 0 (MQ below (zQc E Q) args s 0 0 (zaA E))) 164 (b_X11_walk_164 d (zG p l e (zrm d) s m args below meth c E mX11_walk.2.2.1 0 0 (MQ below (zQc E Q) args s 0 0 (zaA E))) Q) := by
  unfold b_X11_walk_164
  exact lk_vret B hr hlk dX11_walk_164
set_option maxRecDepth 20000 in
theorem k_X11_walk_19 {p : Program} {l : Launch} {e : Env} {s : State} {m : MethodId} {args : Array Value} {below : List Frame} {meth : Method} {c : Code} {E : zE} {d : Nat} {Q : zQ} (hd1 : 1 ≤ d) (B : zB p s m args c E mX11_walk.1.cls mX11_walk.2.1 mX11_walk.2.2.1) (hr : meth.sig.returnType = mX11_walk.2.2.2) (hlk : meth.locks = false) : zLk (zG p l e (zrm d) s m args below meth c E mX11_walk.2.2.1 0 0 (MQ below (zQc E Q) args s 0 0 (zaA E))) 19 (b_X11_walk_19 d (zG p l e (zrm d) s m args below meth c E mX11_walk.2.2.1 0 0 (MQ below (zQc E Q) args s 0 0 (zaA E))) Q) := by
  unfold b_X11_walk_19
  exact lk_aln B dX11_walk_19 rfl (lk_dup B dX11_walk_20 (lk_gf (T := TX11) B cl_X11 (by decide) in_X11 zw_820 dX11_walk_21 (lk_c B dX11_walk_24 (lk_sub B dX11_walk_25 (lk_pf (T := TX11) B cl_X11 (by decide) in_X11 tyX11_ok nmX11 zw_820 rfl (by decide +kernel) dX11_walk_26 (lk_aln B dX11_walk_29 rfl (lk_gf (T := TX11) B cl_X11 (by decide) in_X11 zw_821 dX11_walk_30 (lk_aln B dX11_walk_33 rfl (lk_gf (T := TX11) B cl_X11 (by decide) in_X11 zw_820 dX11_walk_34 (lk_iald B dX11_walk_37 (lk_isn B dX11_walk_38 rfl (by decide) (lk_c B dX11_walk_39 (lk_is B dX11_walk_40 (by decide) (lk_c B dX11_walk_42 (lk_is B dX11_walk_43 (by decide) (fun _ _ _ h => h))))))))))))))))
set_option maxRecDepth 20000 in
theorem k_X11_walk_12 {p : Program} {l : Launch} {e : Env} {s : State} {m : MethodId} {args : Array Value} {below : List Frame} {meth : Method} {c : Code} {E : zE} {d : Nat} {Q : zQ} (hd1 : 1 ≤ d) (B : zB p s m args c E mX11_walk.1.cls mX11_walk.2.1 mX11_walk.2.2.1) (hr : meth.sig.returnType = mX11_walk.2.2.2) (hlk : meth.locks = false) : zLk (zG p l e (zrm d) s m args below meth c E mX11_walk.2.2.1 0 0 (MQ below (zQc E Q) args s 0 0 (zaA E))) 12 (b_X11_walk_12 d (zG p l e (zrm d) s m args below meth c E mX11_walk.2.2.1 0 0 (MQ below (zQc E Q) args s 0 0 (zaA E))) Q) := by
  unfold b_X11_walk_12
  exact lk_aln B dX11_walk_12 rfl (lk_gf (T := TX11) B cl_X11 (by decide) in_X11 zw_820 dX11_walk_13 (lk_zle B dX11_walk_16 (by decide) (k_X11_walk_164 hd1 B hr hlk) (k_X11_walk_19 hd1 B hr hlk)))
set_option maxRecDepth 20000 in
theorem k_X11_walk_147 {p : Program} {l : Launch} {e : Env} {s : State} {m : MethodId} {args : Array Value} {below : List Frame} {meth : Method} {c : Code} {E : zE} {d : Nat} {Q : zQ} (hd1 : 1 ≤ d) (B : zB p s m args c E mX11_walk.1.cls mX11_walk.2.1 mX11_walk.2.2.1) (hr : meth.sig.returnType = mX11_walk.2.2.2) (hlk : meth.locks = false) : zLk (zG p l e (zrm d) s m args below meth c E mX11_walk.2.2.1 0 0 (MQ below (zQc E Q) args s 0 0 (zaA E))) 147 (b_X11_walk_147 d (zG p l e (zrm d) s m args below meth c E mX11_walk.2.2.1 0 0 (MQ below (zQc E Q) args s 0 0 (zaA E))) Q) := by
  unfold b_X11_walk_147
  exact lk_aln B dX11_walk_147 rfl (lk_gf (T := TX11) B cl_X11 (by decide) in_X11 zw_792 dX11_walk_148 (lk_il B dX11_walk_151 (lk_c B dX11_walk_153 (lk_zast B dX11_walk_154 (lk_aln B dX11_walk_155 rfl (lk_il B dX11_walk_156 (lk_callv (M := mX11_pushLinks) (T := TX11) (N := 41) B (zhR hd1 (by decide)) ⟨Nat.zero_le _, Nat.zero_le _⟩ cl_X11 (zw5 zw_991 zw_988 zw_990 zw_27 zw_58) (by decide +kernel) dX11_walk_158 (lk_goto B dX11_walk_161 (by decide) (fun _ _ _ h => h)))))))))
set_option maxRecDepth 20000 in
theorem k_X11_walk_124 {p : Program} {l : Launch} {e : Env} {s : State} {m : MethodId} {args : Array Value} {below : List Frame} {meth : Method} {c : Code} {E : zE} {d : Nat} {Q : zQ} (hd1 : 1 ≤ d) (B : zB p s m args c E mX11_walk.1.cls mX11_walk.2.1 mX11_walk.2.2.1) (hr : meth.sig.returnType = mX11_walk.2.2.2) (hlk : meth.locks = false) : zLk (zG p l e (zrm d) s m args below meth c E mX11_walk.2.2.1 0 0 (MQ below (zQc E Q) args s 0 0 (zaA E))) 124 (b_X11_walk_124 d (zG p l e (zrm d) s m args below meth c E mX11_walk.2.2.1 0 0 (MQ below (zQc E Q) args s 0 0 (zaA E))) Q) := by
  unfold b_X11_walk_124
  exact lk_aln B dX11_walk_124 rfl (lk_gf (T := TX11) B cl_X11 (by decide) in_X11 zw_823 dX11_walk_125 (lk_aln B dX11_walk_128 rfl (lk_gf (T := TX11) B cl_X11 (by decide) in_X11 zw_822 dX11_walk_129 (lk_iln B dX11_walk_132 rfl (lk_iast B dX11_walk_133 (lk_aln B dX11_walk_134 rfl (lk_dup B dX11_walk_135 (lk_gf (T := TX11) B cl_X11 (by decide) in_X11 zw_822 dX11_walk_136 (lk_c B dX11_walk_139 (lk_add B dX11_walk_140 (lk_pf (T := TX11) B cl_X11 (by decide) in_X11 tyX11_ok nmX11 zw_822 rfl (by decide +kernel) dX11_walk_141 (lk_goto B dX11_walk_144 (by decide) (fun _ _ _ h => h)))))))))))))
set_option maxRecDepth 20000 in
theorem k_X11_walk_91 {p : Program} {l : Launch} {e : Env} {s : State} {m : MethodId} {args : Array Value} {below : List Frame} {meth : Method} {c : Code} {E : zE} {d : Nat} {Q : zQ} (hd1 : 1 ≤ d) (B : zB p s m args c E mX11_walk.1.cls mX11_walk.2.1 mX11_walk.2.2.1) (hr : meth.sig.returnType = mX11_walk.2.2.2) (hlk : meth.locks = false) : zLk (zG p l e (zrm d) s m args below meth c E mX11_walk.2.2.1 0 0 (MQ below (zQc E Q) args s 0 0 (zaA E))) 91 (b_X11_walk_91 d (zG p l e (zrm d) s m args below meth c E mX11_walk.2.2.1 0 0 (MQ below (zQc E Q) args s 0 0 (zaA E))) Q) := by
  unfold b_X11_walk_91
  exact lk_aln B dX11_walk_91 rfl (lk_gf (T := TX11) B cl_X11 (by decide) in_X11 zw_819 dX11_walk_92 (lk_aln B dX11_walk_95 rfl (lk_gf (T := TX11) B cl_X11 (by decide) in_X11 zw_818 dX11_walk_96 (lk_iln B dX11_walk_99 rfl (lk_iast B dX11_walk_100 (lk_aln B dX11_walk_101 rfl (lk_dup B dX11_walk_102 (lk_gf (T := TX11) B cl_X11 (by decide) in_X11 zw_818 dX11_walk_103 (lk_c B dX11_walk_106 (lk_add B dX11_walk_107 (lk_pf (T := TX11) B cl_X11 (by decide) in_X11 tyX11_ok nmX11 zw_818 rfl (by decide +kernel) dX11_walk_108 (lk_aln B dX11_walk_111 rfl (lk_iln B dX11_walk_112 rfl (lk_iln B dX11_walk_113 rfl (lk_callv (M := mX11_where) (T := TX11) (N := 41) B (zhR hd1 (by decide)) ⟨Nat.zero_le _, Nat.zero_le _⟩ cl_X11 (zw5 zw_963 zw_960 zw_962 zw_20 zw_58) (by decide +kernel) dX11_walk_114 (lk_is B dX11_walk_117 (by decide) (lk_il B dX11_walk_119 (lk_zge B dX11_walk_121 (by decide) (k_X11_walk_147 hd1 B hr hlk) (k_X11_walk_124 hd1 B hr hlk)))))))))))))))))))
set_option maxRecDepth 20000 in
theorem k_X11_walk_88 {p : Program} {l : Launch} {e : Env} {s : State} {m : MethodId} {args : Array Value} {below : List Frame} {meth : Method} {c : Code} {E : zE} {d : Nat} {Q : zQ} (hd1 : 1 ≤ d) (B : zB p s m args c E mX11_walk.1.cls mX11_walk.2.1 mX11_walk.2.2.1) (hr : meth.sig.returnType = mX11_walk.2.2.2) (hlk : meth.locks = false) : zLk (zG p l e (zrm d) s m args below meth c E mX11_walk.2.2.1 0 0 (MQ below (zQc E Q) args s 0 0 (zaA E))) 88 (b_X11_walk_88 d (zG p l e (zrm d) s m args below meth c E mX11_walk.2.2.1 0 0 (MQ below (zQc E Q) args s 0 0 (zaA E))) Q) := by
  unfold b_X11_walk_88
  exact lk_goto B dX11_walk_88 (by decide) (fun _ _ _ h => h)
set_option maxRecDepth 20000 in
theorem k_X11_walk_83 {p : Program} {l : Launch} {e : Env} {s : State} {m : MethodId} {args : Array Value} {below : List Frame} {meth : Method} {c : Code} {E : zE} {d : Nat} {Q : zQ} (hd1 : 1 ≤ d) (B : zB p s m args c E mX11_walk.1.cls mX11_walk.2.1 mX11_walk.2.2.1) (hr : meth.sig.returnType = mX11_walk.2.2.2) (hlk : meth.locks = false) : zLk (zG p l e (zrm d) s m args below meth c E mX11_walk.2.2.1 0 0 (MQ below (zQc E Q) args s 0 0 (zaA E))) 83 (b_X11_walk_83 d (zG p l e (zrm d) s m args below meth c E mX11_walk.2.2.1 0 0 (MQ below (zQc E Q) args s 0 0 (zaA E))) Q) := by
  unfold b_X11_walk_83
  exact lk_il B dX11_walk_83 (lk_zeq B dX11_walk_85 (by decide) (k_X11_walk_91 hd1 B hr hlk) (k_X11_walk_88 hd1 B hr hlk))
set_option maxRecDepth 20000 in
theorem k_X11_walk_75 {p : Program} {l : Launch} {e : Env} {s : State} {m : MethodId} {args : Array Value} {below : List Frame} {meth : Method} {c : Code} {E : zE} {d : Nat} {Q : zQ} (hd1 : 1 ≤ d) (B : zB p s m args c E mX11_walk.1.cls mX11_walk.2.1 mX11_walk.2.2.1) (hr : meth.sig.returnType = mX11_walk.2.2.2) (hlk : meth.locks = false) : zLk (zG p l e (zrm d) s m args below meth c E mX11_walk.2.2.1 0 0 (MQ below (zQc E Q) args s 0 0 (zaA E))) 75 (b_X11_walk_75 d (zG p l e (zrm d) s m args below meth c E mX11_walk.2.2.1 0 0 (MQ below (zQc E Q) args s 0 0 (zaA E))) Q) := by
  unfold b_X11_walk_75
  exact lk_is B dX11_walk_75 (by decide) (lk_inc B dX11_walk_77 (by decide) (lk_goto B dX11_walk_80 (by decide) (fun _ _ _ h => h)))
set_option maxRecDepth 20000 in
theorem k_X11_walk_70 {p : Program} {l : Launch} {e : Env} {s : State} {m : MethodId} {args : Array Value} {below : List Frame} {meth : Method} {c : Code} {E : zE} {d : Nat} {Q : zQ} (hd1 : 1 ≤ d) (B : zB p s m args c E mX11_walk.1.cls mX11_walk.2.1 mX11_walk.2.2.1) (hr : meth.sig.returnType = mX11_walk.2.2.2) (hlk : meth.locks = false) : zLk (zG p l e (zrm d) s m args below meth c E mX11_walk.2.2.1 0 0 (MQ below (zQc E Q) args s 0 0 (zaA E))) 70 (b_X11_walk_70 d (zG p l e (zrm d) s m args below meth c E mX11_walk.2.2.1 0 0 (MQ below (zQc E Q) args s 0 0 (zaA E))) Q) := by
  unfold b_X11_walk_70
  exact lk_c B dX11_walk_70 (lk_goto B dX11_walk_71 (by decide) (k_X11_walk_75 hd1 B hr hlk))
set_option maxRecDepth 20000 in
theorem k_X11_walk_74 {p : Program} {l : Launch} {e : Env} {s : State} {m : MethodId} {args : Array Value} {below : List Frame} {meth : Method} {c : Code} {E : zE} {d : Nat} {Q : zQ} (hd1 : 1 ≤ d) (B : zB p s m args c E mX11_walk.1.cls mX11_walk.2.1 mX11_walk.2.2.1) (hr : meth.sig.returnType = mX11_walk.2.2.2) (hlk : meth.locks = false) : zLk (zG p l e (zrm d) s m args below meth c E mX11_walk.2.2.1 0 0 (MQ below (zQc E Q) args s 0 0 (zaA E))) 74 (b_X11_walk_74 d (zG p l e (zrm d) s m args below meth c E mX11_walk.2.2.1 0 0 (MQ below (zQc E Q) args s 0 0 (zaA E))) Q) := by
  unfold b_X11_walk_74
  exact lk_c B dX11_walk_74 (k_X11_walk_75 hd1 B hr hlk)
set_option maxRecDepth 20000 in
theorem k_X11_walk_59 {p : Program} {l : Launch} {e : Env} {s : State} {m : MethodId} {args : Array Value} {below : List Frame} {meth : Method} {c : Code} {E : zE} {d : Nat} {Q : zQ} (hd1 : 1 ≤ d) (B : zB p s m args c E mX11_walk.1.cls mX11_walk.2.1 mX11_walk.2.2.1) (hr : meth.sig.returnType = mX11_walk.2.2.2) (hlk : meth.locks = false) : zLk (zG p l e (zrm d) s m args below meth c E mX11_walk.2.2.1 0 0 (MQ below (zQc E Q) args s 0 0 (zaA E))) 59 (b_X11_walk_59 d (zG p l e (zrm d) s m args below meth c E mX11_walk.2.2.1 0 0 (MQ below (zQc E Q) args s 0 0 (zaA E))) Q) := by
  unfold b_X11_walk_59
  exact lk_aln B dX11_walk_59 rfl (lk_gf (T := TX11) B cl_X11 (by decide) in_X11 zw_819 dX11_walk_60 (lk_il B dX11_walk_63 (lk_iald B dX11_walk_65 (lk_iln B dX11_walk_66 rfl (lk_ine B dX11_walk_67 (by decide) (k_X11_walk_74 hd1 B hr hlk) (k_X11_walk_70 hd1 B hr hlk))))))
set_option maxRecDepth 20000 in
theorem k_X11_walk_54 {p : Program} {l : Launch} {e : Env} {s : State} {m : MethodId} {args : Array Value} {below : List Frame} {meth : Method} {c : Code} {E : zE} {d : Nat} {Q : zQ} (hd1 : 1 ≤ d) (B : zB p s m args c E mX11_walk.1.cls mX11_walk.2.1 mX11_walk.2.2.1) (hr : meth.sig.returnType = mX11_walk.2.2.2) (hlk : meth.locks = false) : zLk (zG p l e (zrm d) s m args below meth c E mX11_walk.2.2.1 0 0 (MQ below (zQc E Q) args s 0 0 (zaA E))) 54 (b_X11_walk_54 d (zG p l e (zrm d) s m args below meth c E mX11_walk.2.2.1 0 0 (MQ below (zQc E Q) args s 0 0 (zaA E))) Q) := by
  unfold b_X11_walk_54
  exact lk_il B dX11_walk_54 (lk_zne B dX11_walk_56 (by decide) (k_X11_walk_70 hd1 B hr hlk) (k_X11_walk_59 hd1 B hr hlk))
set_option maxRecDepth 20000 in
theorem k_X11_walk_45 {p : Program} {l : Launch} {e : Env} {s : State} {m : MethodId} {args : Array Value} {below : List Frame} {meth : Method} {c : Code} {E : zE} {d : Nat} {Q : zQ} (hd1 : 1 ≤ d) (B : zB p s m args c E mX11_walk.1.cls mX11_walk.2.1 mX11_walk.2.2.1) (hr : meth.sig.returnType = mX11_walk.2.2.2) (hlk : meth.locks = false) : zLk (zG p l e (zrm d) s m args below meth c E mX11_walk.2.2.1 0 0 (MQ below (zQc E Q) args s 0 0 (zaA E))) 45 (b_X11_walk_45 d (zG p l e (zrm d) s m args below meth c E mX11_walk.2.2.1 0 0 (MQ below (zQc E Q) args s 0 0 (zaA E))) Q) := by
  unfold b_X11_walk_45
  exact lk_il B dX11_walk_45 (lk_aln B dX11_walk_47 rfl (lk_gf (T := TX11) B cl_X11 (by decide) in_X11 zw_818 dX11_walk_48 (lk_ige B dX11_walk_51 (by decide) (k_X11_walk_83 hd1 B hr hlk) (k_X11_walk_54 hd1 B hr hlk))))
def S_X11_walk (d : Nat) (G : Nat → zK) (Q : zQ) : Prop := zLk G 0 (b_X11_walk_0 d G Q) ∧ zLk G 12 (b_X11_walk_12 d G Q) ∧ zLk G 45 (b_X11_walk_45 d G Q)
theorem s_X11_walk_0 {d : Nat} {G : Nat → zK} {Q : zQ} (h : S_X11_walk d G Q) {ls st : List zV} {μ : zM} (k : b_X11_walk_0 d G Q ls st μ) : G 0 ls st μ := h.1 ls st μ k
theorem s_X11_walk_12 {d : Nat} {G : Nat → zK} {Q : zQ} (h : S_X11_walk d G Q) {ls st : List zV} {μ : zM} (k : b_X11_walk_12 d G Q ls st μ) : G 12 ls st μ := h.2.1 ls st μ k
theorem s_X11_walk_45 {d : Nat} {G : Nat → zK} {Q : zQ} (h : S_X11_walk d G Q) {ls st : List zV} {μ : zM} (k : b_X11_walk_45 d G Q ls st μ) : G 45 ls st μ := h.2.2 ls st μ k
theorem of_X11_walk {d : Nat} {a0 a1 a2 : zV} {μ : zM} {Q : zQ} (hd1 : 1 ≤ d) (h : ∀ G : Nat → zK, S_X11_walk d G Q → G 0 [a0, a1, a2, .inr none, .inr none, .inr none] [] μ) : zCt d mX11_walk [a0, a1, a2] μ Q := zCt.mk (by decide) (Nat.le_of_ble_eq_true rfl) (fun p l e s m args below meth c E B hr hlk => h _ ⟨k_X11_walk_0 hd1 B hr hlk, k_X11_walk_12 hd1 B hr hlk, k_X11_walk_45 hd1 B hr hlk⟩)
theorem dX11_pushLinks_0 : decode cX11_pushLinks 0 = .ok (.aload_n 0, 1) := by decide +kernel
theorem dX11_pushLinks_1 : decode cX11_pushLinks 1 = .ok (.iload_n 1, 1) := by decide +kernel
theorem dX11_pushLinks_2 : decode cX11_pushLinks 2 = .ok (.iconst 0, 1) := by decide +kernel
theorem dX11_pushLinks_3 : decode cX11_pushLinks 3 = .ok (.invokevirtual 196, 3) := by decide +kernel
theorem dX11_pushLinks_6 : decode cX11_pushLinks 6 = .ok (.istore_n 2, 1) := by decide +kernel
theorem dX11_pushLinks_7 : decode cX11_pushLinks 7 = .ok (.iload_n 2, 1) := by decide +kernel
theorem dX11_pushLinks_8 : decode cX11_pushLinks 8 = .ok (.ifCond .ne 7, 3) := by decide +kernel
theorem dX11_pushLinks_11 : decode cX11_pushLinks 11 = .ok (.iconst 0, 1) := by decide +kernel
theorem dX11_pushLinks_12 : decode cX11_pushLinks 12 = .ok (.goto 26, 3) := by decide +kernel
theorem dX11_pushLinks_15 : decode cX11_pushLinks 15 = .ok (.iload_n 2, 1) := by decide +kernel
theorem dX11_pushLinks_16 : decode cX11_pushLinks 16 = .ok (.iconst 3, 1) := by decide +kernel
theorem dX11_pushLinks_17 : decode cX11_pushLinks 17 = .ok (.if_icmp .ne 15, 3) := by decide +kernel
theorem dX11_pushLinks_20 : decode cX11_pushLinks 20 = .ok (.aload_n 0, 1) := by decide +kernel
theorem dX11_pushLinks_21 : decode cX11_pushLinks 21 = .ok (.iload_n 1, 1) := by decide +kernel
theorem dX11_pushLinks_22 : decode cX11_pushLinks 22 = .ok (.iconst 1, 1) := by decide +kernel
theorem dX11_pushLinks_23 : decode cX11_pushLinks 23 = .ok (.invokevirtual 196, 3) := by decide +kernel
theorem dX11_pushLinks_26 : decode cX11_pushLinks 26 = .ok (.invokestatic 129, 3) := by decide +kernel
theorem dX11_pushLinks_29 : decode cX11_pushLinks 29 = .ok (.goto 9, 3) := by decide +kernel
theorem dX11_pushLinks_32 : decode cX11_pushLinks 32 = .ok (.aload_n 0, 1) := by decide +kernel
theorem dX11_pushLinks_33 : decode cX11_pushLinks 33 = .ok (.iload_n 1, 1) := by decide +kernel
theorem dX11_pushLinks_34 : decode cX11_pushLinks 34 = .ok (.iconst 1, 1) := by decide +kernel
theorem dX11_pushLinks_35 : decode cX11_pushLinks 35 = .ok (.invokevirtual 196, 3) := by decide +kernel
theorem dX11_pushLinks_38 : decode cX11_pushLinks 38 = .ok (.istore_n 3, 1) := by decide +kernel
theorem dX11_pushLinks_39 : decode cX11_pushLinks 39 = .ok (.iload_n 3, 1) := by decide +kernel
theorem dX11_pushLinks_40 : decode cX11_pushLinks 40 = .ok (.iconst 1, 1) := by decide +kernel
theorem dX11_pushLinks_41 : decode cX11_pushLinks 41 = .ok (.isub, 1) := by decide +kernel
theorem dX11_pushLinks_42 : decode cX11_pushLinks 42 = .ok (.istore 4, 2) := by decide +kernel
theorem dX11_pushLinks_44 : decode cX11_pushLinks 44 = .ok (.iload 4, 2) := by decide +kernel
theorem dX11_pushLinks_46 : decode cX11_pushLinks 46 = .ok (.ifCond .lt 77, 3) := by decide +kernel
theorem dX11_pushLinks_49 : decode cX11_pushLinks 49 = .ok (.aload_n 0, 1) := by decide +kernel
theorem dX11_pushLinks_50 : decode cX11_pushLinks 50 = .ok (.getfield 86, 3) := by decide +kernel
theorem dX11_pushLinks_53 : decode cX11_pushLinks 53 = .ok (.aload_n 0, 1) := by decide +kernel
theorem dX11_pushLinks_54 : decode cX11_pushLinks 54 = .ok (.getfield 217, 3) := by decide +kernel
theorem dX11_pushLinks_57 : decode cX11_pushLinks 57 = .ok (.iload_n 2, 1) := by decide +kernel
theorem dX11_pushLinks_58 : decode cX11_pushLinks 58 = .ok (.iconst 1, 1) := by decide +kernel
theorem dX11_pushLinks_59 : decode cX11_pushLinks 59 = .ok (.if_icmp .ne 17, 3) := by decide +kernel
theorem dX11_pushLinks_62 : decode cX11_pushLinks 62 = .ok (.aload_n 0, 1) := by decide +kernel
theorem dX11_pushLinks_63 : decode cX11_pushLinks 63 = .ok (.iload_n 1, 1) := by decide +kernel
theorem dX11_pushLinks_64 : decode cX11_pushLinks 64 = .ok (.iconst 4, 1) := by decide +kernel
theorem dX11_pushLinks_65 : decode cX11_pushLinks 65 = .ok (.iconst 4, 1) := by decide +kernel
theorem dX11_pushLinks_66 : decode cX11_pushLinks 66 = .ok (.iload 4, 2) := by decide +kernel
theorem dX11_pushLinks_68 : decode cX11_pushLinks 68 = .ok (.imul, 1) := by decide +kernel
theorem dX11_pushLinks_69 : decode cX11_pushLinks 69 = .ok (.iadd, 1) := by decide +kernel
theorem dX11_pushLinks_70 : decode cX11_pushLinks 70 = .ok (.invokevirtual 202, 3) := by decide +kernel
theorem dX11_pushLinks_73 : decode cX11_pushLinks 73 = .ok (.goto 33, 3) := by decide +kernel
theorem dX11_pushLinks_76 : decode cX11_pushLinks 76 = .ok (.iload_n 2, 1) := by decide +kernel
theorem dX11_pushLinks_77 : decode cX11_pushLinks 77 = .ok (.iconst 2, 1) := by decide +kernel
theorem dX11_pushLinks_78 : decode cX11_pushLinks 78 = .ok (.if_icmp .ne 17, 3) := by decide +kernel
theorem dX11_pushLinks_81 : decode cX11_pushLinks 81 = .ok (.aload_n 0, 1) := by decide +kernel
theorem dX11_pushLinks_82 : decode cX11_pushLinks 82 = .ok (.iload_n 1, 1) := by decide +kernel
theorem dX11_pushLinks_83 : decode cX11_pushLinks 83 = .ok (.iconst 3, 1) := by decide +kernel
theorem dX11_pushLinks_84 : decode cX11_pushLinks 84 = .ok (.iconst 3, 1) := by decide +kernel
theorem dX11_pushLinks_85 : decode cX11_pushLinks 85 = .ok (.iload 4, 2) := by decide +kernel
theorem dX11_pushLinks_87 : decode cX11_pushLinks 87 = .ok (.imul, 1) := by decide +kernel
theorem dX11_pushLinks_88 : decode cX11_pushLinks 88 = .ok (.iadd, 1) := by decide +kernel
theorem dX11_pushLinks_89 : decode cX11_pushLinks 89 = .ok (.invokevirtual 202, 3) := by decide +kernel
theorem dX11_pushLinks_92 : decode cX11_pushLinks 92 = .ok (.goto 14, 3) := by decide +kernel
theorem dX11_pushLinks_95 : decode cX11_pushLinks 95 = .ok (.aload_n 0, 1) := by decide +kernel
theorem dX11_pushLinks_96 : decode cX11_pushLinks 96 = .ok (.iload_n 1, 1) := by decide +kernel
theorem dX11_pushLinks_97 : decode cX11_pushLinks 97 = .ok (.iconst 2, 1) := by decide +kernel
theorem dX11_pushLinks_98 : decode cX11_pushLinks 98 = .ok (.iconst 2, 1) := by decide +kernel
theorem dX11_pushLinks_99 : decode cX11_pushLinks 99 = .ok (.iload 4, 2) := by decide +kernel
theorem dX11_pushLinks_101 : decode cX11_pushLinks 101 = .ok (.imul, 1) := by decide +kernel
theorem dX11_pushLinks_102 : decode cX11_pushLinks 102 = .ok (.iadd, 1) := by decide +kernel
theorem dX11_pushLinks_103 : decode cX11_pushLinks 103 = .ok (.invokevirtual 202, 3) := by decide +kernel
theorem dX11_pushLinks_106 : decode cX11_pushLinks 106 = .ok (.iastore, 1) := by decide +kernel
theorem dX11_pushLinks_107 : decode cX11_pushLinks 107 = .ok (.aload_n 0, 1) := by decide +kernel
theorem dX11_pushLinks_108 : decode cX11_pushLinks 108 = .ok (.dup, 1) := by decide +kernel
theorem dX11_pushLinks_109 : decode cX11_pushLinks 109 = .ok (.getfield 217, 3) := by decide +kernel
theorem dX11_pushLinks_112 : decode cX11_pushLinks 112 = .ok (.iconst 1, 1) := by decide +kernel
theorem dX11_pushLinks_113 : decode cX11_pushLinks 113 = .ok (.iadd, 1) := by decide +kernel
theorem dX11_pushLinks_114 : decode cX11_pushLinks 114 = .ok (.putfield 217, 3) := by decide +kernel
theorem dX11_pushLinks_117 : decode cX11_pushLinks 117 = .ok (.iinc 4 (-1), 3) := by decide +kernel
theorem dX11_pushLinks_120 : decode cX11_pushLinks 120 = .ok (.goto (-76), 3) := by decide +kernel
theorem dX11_pushLinks_123 : decode cX11_pushLinks 123 = .ok (.return_, 1) := by decide +kernel
def b_X11_pushLinks_38 (d : Nat) (G : Nat → zK) (Q : zQ) : zK := o_is 3 <| o_il 3 <| o_c 1 <| o_sub <| o_is 4 <| G 44
def b_X11_pushLinks_32 (d : Nat) (G : Nat → zK) (Q : zQ) : zK := o_al 0 <| o_il 1 <| o_c 1 <| o_callv (zCt (d - 1) mX11_cell) 9 3 <| b_X11_pushLinks_38 d G Q
def b_X11_pushLinks_20 (d : Nat) (G : Nat → zK) (Q : zQ) : zK := o_al 0 <| o_il 1 <| o_c 1 <| o_callv (zCt (d - 1) mX11_cell) 9 3 <| o_call (zCt (d - 1) mX11_bits) 1 <| b_X11_pushLinks_38 d G Q
def b_X11_pushLinks_15 (d : Nat) (G : Nat → zK) (Q : zQ) : zK := o_il 2 <| o_c 3 <| t_ieq (b_X11_pushLinks_20 d G Q) (b_X11_pushLinks_32 d G Q)
def b_X11_pushLinks_11 (d : Nat) (G : Nat → zK) (Q : zQ) : zK := o_c 0 <| b_X11_pushLinks_38 d G Q
def b_X11_pushLinks_0 (d : Nat) (G : Nat → zK) (Q : zQ) : zK := o_al 0 <| o_il 1 <| o_c 0 <| o_callv (zCt (d - 1) mX11_cell) 9 3 <| o_is 2 <| o_il 2 <| t_zeq (b_X11_pushLinks_11 d G Q) (b_X11_pushLinks_15 d G Q)
def b_X11_pushLinks_123 (d : Nat) (G : Nat → zK) (Q : zQ) : zK := t_vret Q
def b_X11_pushLinks_106 (d : Nat) (G : Nat → zK) (Q : zQ) : zK := o_iast <| o_al 0 <| o_dup <| o_gf 9 32 <| o_c 1 <| o_add <| o_pf 9 32 <| o_inc 4 (-1) <| G 44
def b_X11_pushLinks_95 (d : Nat) (G : Nat → zK) (Q : zQ) : zK := o_al 0 <| o_il 1 <| o_c 2 <| o_c 2 <| o_il 4 <| o_mul <| o_add <| o_callv (zCt (d - 1) mX11_pair) 9 3 <| b_X11_pushLinks_106 d G Q
def b_X11_pushLinks_81 (d : Nat) (G : Nat → zK) (Q : zQ) : zK := o_al 0 <| o_il 1 <| o_c 3 <| o_c 3 <| o_il 4 <| o_mul <| o_add <| o_callv (zCt (d - 1) mX11_pair) 9 3 <| b_X11_pushLinks_106 d G Q
def b_X11_pushLinks_76 (d : Nat) (G : Nat → zK) (Q : zQ) : zK := o_il 2 <| o_c 2 <| t_ieq (b_X11_pushLinks_81 d G Q) (b_X11_pushLinks_95 d G Q)
def b_X11_pushLinks_62 (d : Nat) (G : Nat → zK) (Q : zQ) : zK := o_al 0 <| o_il 1 <| o_c 4 <| o_c 4 <| o_il 4 <| o_mul <| o_add <| o_callv (zCt (d - 1) mX11_pair) 9 3 <| b_X11_pushLinks_106 d G Q
def b_X11_pushLinks_49 (d : Nat) (G : Nat → zK) (Q : zQ) : zK := o_al 0 <| o_gf 9 33 <| o_al 0 <| o_gf 9 32 <| o_il 2 <| o_c 1 <| t_ieq (b_X11_pushLinks_62 d G Q) (b_X11_pushLinks_76 d G Q)
def b_X11_pushLinks_44 (d : Nat) (G : Nat → zK) (Q : zQ) : zK := o_il 4 <| t_zlt (b_X11_pushLinks_123 d G Q) (b_X11_pushLinks_49 d G Q)
set_option maxRecDepth 20000 in
theorem k_X11_pushLinks_38 {p : Program} {l : Launch} {e : Env} {s : State} {m : MethodId} {args : Array Value} {below : List Frame} {meth : Method} {c : Code} {E : zE} {d : Nat} {Q : zQ} (hd1 : 1 ≤ d) (B : zB p s m args c E mX11_pushLinks.1.cls mX11_pushLinks.2.1 mX11_pushLinks.2.2.1) (hr : meth.sig.returnType = mX11_pushLinks.2.2.2) (hlk : meth.locks = false) : zLk (zG p l e (zrm d) s m args below meth c E mX11_pushLinks.2.2.1 0 0 (MQ below (zQc E Q) args s 0 0 (zaA E))) 38 (b_X11_pushLinks_38 d (zG p l e (zrm d) s m args below meth c E mX11_pushLinks.2.2.1 0 0 (MQ below (zQc E Q) args s 0 0 (zaA E))) Q) := by
  unfold b_X11_pushLinks_38
  exact lk_isn B dX11_pushLinks_38 rfl (by decide) (lk_iln B dX11_pushLinks_39 rfl (lk_c B dX11_pushLinks_40 (lk_sub B dX11_pushLinks_41 (lk_is B dX11_pushLinks_42 (by decide) (fun _ _ _ h => h)))))
set_option maxRecDepth 20000 in
theorem k_X11_pushLinks_32 {p : Program} {l : Launch} {e : Env} {s : State} {m : MethodId} {args : Array Value} {below : List Frame} {meth : Method} {c : Code} {E : zE} {d : Nat} {Q : zQ} (hd1 : 1 ≤ d) (B : zB p s m args c E mX11_pushLinks.1.cls mX11_pushLinks.2.1 mX11_pushLinks.2.2.1) (hr : meth.sig.returnType = mX11_pushLinks.2.2.2) (hlk : meth.locks = false) : zLk (zG p l e (zrm d) s m args below meth c E mX11_pushLinks.2.2.1 0 0 (MQ below (zQc E Q) args s 0 0 (zaA E))) 32 (b_X11_pushLinks_32 d (zG p l e (zrm d) s m args below meth c E mX11_pushLinks.2.2.1 0 0 (MQ below (zQc E Q) args s 0 0 (zaA E))) Q) := by
  unfold b_X11_pushLinks_32
  exact lk_aln B dX11_pushLinks_32 rfl (lk_iln B dX11_pushLinks_33 rfl (lk_c B dX11_pushLinks_34 (lk_callv (M := mX11_cell) (T := TX11) (N := 41) B (zhR hd1 (by decide)) ⟨Nat.zero_le _, Nat.zero_le _⟩ cl_X11 (zw5 zw_995 zw_992 zw_994 zw_28 zw_58) (by decide +kernel) dX11_pushLinks_35 (k_X11_pushLinks_38 hd1 B hr hlk))))
set_option maxRecDepth 20000 in
theorem k_X11_pushLinks_20 {p : Program} {l : Launch} {e : Env} {s : State} {m : MethodId} {args : Array Value} {below : List Frame} {meth : Method} {c : Code} {E : zE} {d : Nat} {Q : zQ} (hd1 : 1 ≤ d) (B : zB p s m args c E mX11_pushLinks.1.cls mX11_pushLinks.2.1 mX11_pushLinks.2.2.1) (hr : meth.sig.returnType = mX11_pushLinks.2.2.2) (hlk : meth.locks = false) : zLk (zG p l e (zrm d) s m args below meth c E mX11_pushLinks.2.2.1 0 0 (MQ below (zQc E Q) args s 0 0 (zaA E))) 20 (b_X11_pushLinks_20 d (zG p l e (zrm d) s m args below meth c E mX11_pushLinks.2.2.1 0 0 (MQ below (zQc E Q) args s 0 0 (zaA E))) Q) := by
  unfold b_X11_pushLinks_20
  exact lk_aln B dX11_pushLinks_20 rfl (lk_iln B dX11_pushLinks_21 rfl (lk_c B dX11_pushLinks_22 (lk_callv (M := mX11_cell) (T := TX11) (N := 41) B (zhR hd1 (by decide)) ⟨Nat.zero_le _, Nat.zero_le _⟩ cl_X11 (zw5 zw_995 zw_992 zw_994 zw_28 zw_58) (by decide +kernel) dX11_pushLinks_23 (lk_calls (M := mX11_bits) B (zhR hd1 (by decide)) ⟨Nat.zero_le _, Nat.zero_le _⟩ (zw4 zw_955 zw_953 zw_954 zw_58) (by decide +kernel) dX11_pushLinks_26 (lk_goto B dX11_pushLinks_29 (by decide) (k_X11_pushLinks_38 hd1 B hr hlk))))))
set_option maxRecDepth 20000 in
theorem k_X11_pushLinks_15 {p : Program} {l : Launch} {e : Env} {s : State} {m : MethodId} {args : Array Value} {below : List Frame} {meth : Method} {c : Code} {E : zE} {d : Nat} {Q : zQ} (hd1 : 1 ≤ d) (B : zB p s m args c E mX11_pushLinks.1.cls mX11_pushLinks.2.1 mX11_pushLinks.2.2.1) (hr : meth.sig.returnType = mX11_pushLinks.2.2.2) (hlk : meth.locks = false) : zLk (zG p l e (zrm d) s m args below meth c E mX11_pushLinks.2.2.1 0 0 (MQ below (zQc E Q) args s 0 0 (zaA E))) 15 (b_X11_pushLinks_15 d (zG p l e (zrm d) s m args below meth c E mX11_pushLinks.2.2.1 0 0 (MQ below (zQc E Q) args s 0 0 (zaA E))) Q) := by
  unfold b_X11_pushLinks_15
  exact lk_iln B dX11_pushLinks_15 rfl (lk_c B dX11_pushLinks_16 (lk_ine B dX11_pushLinks_17 (by decide) (k_X11_pushLinks_32 hd1 B hr hlk) (k_X11_pushLinks_20 hd1 B hr hlk)))
set_option maxRecDepth 20000 in
theorem k_X11_pushLinks_11 {p : Program} {l : Launch} {e : Env} {s : State} {m : MethodId} {args : Array Value} {below : List Frame} {meth : Method} {c : Code} {E : zE} {d : Nat} {Q : zQ} (hd1 : 1 ≤ d) (B : zB p s m args c E mX11_pushLinks.1.cls mX11_pushLinks.2.1 mX11_pushLinks.2.2.1) (hr : meth.sig.returnType = mX11_pushLinks.2.2.2) (hlk : meth.locks = false) : zLk (zG p l e (zrm d) s m args below meth c E mX11_pushLinks.2.2.1 0 0 (MQ below (zQc E Q) args s 0 0 (zaA E))) 11 (b_X11_pushLinks_11 d (zG p l e (zrm d) s m args below meth c E mX11_pushLinks.2.2.1 0 0 (MQ below (zQc E Q) args s 0 0 (zaA E))) Q) := by
  unfold b_X11_pushLinks_11
  exact lk_c B dX11_pushLinks_11 (lk_goto B dX11_pushLinks_12 (by decide) (k_X11_pushLinks_38 hd1 B hr hlk))
set_option maxRecDepth 20000 in
theorem k_X11_pushLinks_0 {p : Program} {l : Launch} {e : Env} {s : State} {m : MethodId} {args : Array Value} {below : List Frame} {meth : Method} {c : Code} {E : zE} {d : Nat} {Q : zQ} (hd1 : 1 ≤ d) (B : zB p s m args c E mX11_pushLinks.1.cls mX11_pushLinks.2.1 mX11_pushLinks.2.2.1) (hr : meth.sig.returnType = mX11_pushLinks.2.2.2) (hlk : meth.locks = false) : zLk (zG p l e (zrm d) s m args below meth c E mX11_pushLinks.2.2.1 0 0 (MQ below (zQc E Q) args s 0 0 (zaA E))) 0 (b_X11_pushLinks_0 d (zG p l e (zrm d) s m args below meth c E mX11_pushLinks.2.2.1 0 0 (MQ below (zQc E Q) args s 0 0 (zaA E))) Q) := by
  unfold b_X11_pushLinks_0
  exact lk_aln B dX11_pushLinks_0 rfl (lk_iln B dX11_pushLinks_1 rfl (lk_c B dX11_pushLinks_2 (lk_callv (M := mX11_cell) (T := TX11) (N := 41) B (zhR hd1 (by decide)) ⟨Nat.zero_le _, Nat.zero_le _⟩ cl_X11 (zw5 zw_995 zw_992 zw_994 zw_28 zw_58) (by decide +kernel) dX11_pushLinks_3 (lk_isn B dX11_pushLinks_6 rfl (by decide) (lk_iln B dX11_pushLinks_7 rfl (lk_zne B dX11_pushLinks_8 (by decide) (k_X11_pushLinks_15 hd1 B hr hlk) (k_X11_pushLinks_11 hd1 B hr hlk)))))))
set_option maxRecDepth 20000 in
theorem k_X11_pushLinks_123 {p : Program} {l : Launch} {e : Env} {s : State} {m : MethodId} {args : Array Value} {below : List Frame} {meth : Method} {c : Code} {E : zE} {d : Nat} {Q : zQ} (hd1 : 1 ≤ d) (B : zB p s m args c E mX11_pushLinks.1.cls mX11_pushLinks.2.1 mX11_pushLinks.2.2.1) (hr : meth.sig.returnType = mX11_pushLinks.2.2.2) (hlk : meth.locks = false) : zLk (zG p l e (zrm d) s m args below meth c E mX11_pushLinks.2.2.1 0 0 (MQ below (zQc E Q) args s 0 0 (zaA E))) 123 (b_X11_pushLinks_123 d (zG p l e (zrm d) s m args below meth c E mX11_pushLinks.2.2.1 0 0 (MQ below (zQc E Q) args s 0 0 (zaA E))) Q) := by
  unfold b_X11_pushLinks_123
  exact lk_vret B hr hlk dX11_pushLinks_123
set_option maxRecDepth 20000 in
theorem k_X11_pushLinks_106 {p : Program} {l : Launch} {e : Env} {s : State} {m : MethodId} {args : Array Value} {below : List Frame} {meth : Method} {c : Code} {E : zE} {d : Nat} {Q : zQ} (hd1 : 1 ≤ d) (B : zB p s m args c E mX11_pushLinks.1.cls mX11_pushLinks.2.1 mX11_pushLinks.2.2.1) (hr : meth.sig.returnType = mX11_pushLinks.2.2.2) (hlk : meth.locks = false) : zLk (zG p l e (zrm d) s m args below meth c E mX11_pushLinks.2.2.1 0 0 (MQ below (zQc E Q) args s 0 0 (zaA E))) 106 (b_X11_pushLinks_106 d (zG p l e (zrm d) s m args below meth c E mX11_pushLinks.2.2.1 0 0 (MQ below (zQc E Q) args s 0 0 (zaA E))) Q) := by
  unfold b_X11_pushLinks_106
  exact lk_iast B dX11_pushLinks_106 (lk_aln B dX11_pushLinks_107 rfl (lk_dup B dX11_pushLinks_108 (lk_gf (T := TX11) B cl_X11 (by decide) in_X11 zw_820 dX11_pushLinks_109 (lk_c B dX11_pushLinks_112 (lk_add B dX11_pushLinks_113 (lk_pf (T := TX11) B cl_X11 (by decide) in_X11 tyX11_ok nmX11 zw_820 rfl (by decide +kernel) dX11_pushLinks_114 (lk_inc B dX11_pushLinks_117 (by decide) (lk_goto B dX11_pushLinks_120 (by decide) (fun _ _ _ h => h)))))))))
set_option maxRecDepth 20000 in
theorem k_X11_pushLinks_95 {p : Program} {l : Launch} {e : Env} {s : State} {m : MethodId} {args : Array Value} {below : List Frame} {meth : Method} {c : Code} {E : zE} {d : Nat} {Q : zQ} (hd1 : 1 ≤ d) (B : zB p s m args c E mX11_pushLinks.1.cls mX11_pushLinks.2.1 mX11_pushLinks.2.2.1) (hr : meth.sig.returnType = mX11_pushLinks.2.2.2) (hlk : meth.locks = false) : zLk (zG p l e (zrm d) s m args below meth c E mX11_pushLinks.2.2.1 0 0 (MQ below (zQc E Q) args s 0 0 (zaA E))) 95 (b_X11_pushLinks_95 d (zG p l e (zrm d) s m args below meth c E mX11_pushLinks.2.2.1 0 0 (MQ below (zQc E Q) args s 0 0 (zaA E))) Q) := by
  unfold b_X11_pushLinks_95
  exact lk_aln B dX11_pushLinks_95 rfl (lk_iln B dX11_pushLinks_96 rfl (lk_c B dX11_pushLinks_97 (lk_c B dX11_pushLinks_98 (lk_il B dX11_pushLinks_99 (lk_mul B dX11_pushLinks_101 (lk_add B dX11_pushLinks_102 (lk_callv (M := mX11_pair) (T := TX11) (N := 41) B (zhR hd1 (by decide)) ⟨Nat.zero_le _, Nat.zero_le _⟩ cl_X11 (zw5 zw_999 zw_996 zw_998 zw_29 zw_58) (by decide +kernel) dX11_pushLinks_103 (k_X11_pushLinks_106 hd1 B hr hlk))))))))
set_option maxRecDepth 20000 in
theorem k_X11_pushLinks_81 {p : Program} {l : Launch} {e : Env} {s : State} {m : MethodId} {args : Array Value} {below : List Frame} {meth : Method} {c : Code} {E : zE} {d : Nat} {Q : zQ} (hd1 : 1 ≤ d) (B : zB p s m args c E mX11_pushLinks.1.cls mX11_pushLinks.2.1 mX11_pushLinks.2.2.1) (hr : meth.sig.returnType = mX11_pushLinks.2.2.2) (hlk : meth.locks = false) : zLk (zG p l e (zrm d) s m args below meth c E mX11_pushLinks.2.2.1 0 0 (MQ below (zQc E Q) args s 0 0 (zaA E))) 81 (b_X11_pushLinks_81 d (zG p l e (zrm d) s m args below meth c E mX11_pushLinks.2.2.1 0 0 (MQ below (zQc E Q) args s 0 0 (zaA E))) Q) := by
  unfold b_X11_pushLinks_81
  exact lk_aln B dX11_pushLinks_81 rfl (lk_iln B dX11_pushLinks_82 rfl (lk_c B dX11_pushLinks_83 (lk_c B dX11_pushLinks_84 (lk_il B dX11_pushLinks_85 (lk_mul B dX11_pushLinks_87 (lk_add B dX11_pushLinks_88 (lk_callv (M := mX11_pair) (T := TX11) (N := 41) B (zhR hd1 (by decide)) ⟨Nat.zero_le _, Nat.zero_le _⟩ cl_X11 (zw5 zw_999 zw_996 zw_998 zw_29 zw_58) (by decide +kernel) dX11_pushLinks_89 (lk_goto B dX11_pushLinks_92 (by decide) (k_X11_pushLinks_106 hd1 B hr hlk)))))))))
set_option maxRecDepth 20000 in
theorem k_X11_pushLinks_76 {p : Program} {l : Launch} {e : Env} {s : State} {m : MethodId} {args : Array Value} {below : List Frame} {meth : Method} {c : Code} {E : zE} {d : Nat} {Q : zQ} (hd1 : 1 ≤ d) (B : zB p s m args c E mX11_pushLinks.1.cls mX11_pushLinks.2.1 mX11_pushLinks.2.2.1) (hr : meth.sig.returnType = mX11_pushLinks.2.2.2) (hlk : meth.locks = false) : zLk (zG p l e (zrm d) s m args below meth c E mX11_pushLinks.2.2.1 0 0 (MQ below (zQc E Q) args s 0 0 (zaA E))) 76 (b_X11_pushLinks_76 d (zG p l e (zrm d) s m args below meth c E mX11_pushLinks.2.2.1 0 0 (MQ below (zQc E Q) args s 0 0 (zaA E))) Q) := by
  unfold b_X11_pushLinks_76
  exact lk_iln B dX11_pushLinks_76 rfl (lk_c B dX11_pushLinks_77 (lk_ine B dX11_pushLinks_78 (by decide) (k_X11_pushLinks_95 hd1 B hr hlk) (k_X11_pushLinks_81 hd1 B hr hlk)))
set_option maxRecDepth 20000 in
theorem k_X11_pushLinks_62 {p : Program} {l : Launch} {e : Env} {s : State} {m : MethodId} {args : Array Value} {below : List Frame} {meth : Method} {c : Code} {E : zE} {d : Nat} {Q : zQ} (hd1 : 1 ≤ d) (B : zB p s m args c E mX11_pushLinks.1.cls mX11_pushLinks.2.1 mX11_pushLinks.2.2.1) (hr : meth.sig.returnType = mX11_pushLinks.2.2.2) (hlk : meth.locks = false) : zLk (zG p l e (zrm d) s m args below meth c E mX11_pushLinks.2.2.1 0 0 (MQ below (zQc E Q) args s 0 0 (zaA E))) 62 (b_X11_pushLinks_62 d (zG p l e (zrm d) s m args below meth c E mX11_pushLinks.2.2.1 0 0 (MQ below (zQc E Q) args s 0 0 (zaA E))) Q) := by
  unfold b_X11_pushLinks_62
  exact lk_aln B dX11_pushLinks_62 rfl (lk_iln B dX11_pushLinks_63 rfl (lk_c B dX11_pushLinks_64 (lk_c B dX11_pushLinks_65 (lk_il B dX11_pushLinks_66 (lk_mul B dX11_pushLinks_68 (lk_add B dX11_pushLinks_69 (lk_callv (M := mX11_pair) (T := TX11) (N := 41) B (zhR hd1 (by decide)) ⟨Nat.zero_le _, Nat.zero_le _⟩ cl_X11 (zw5 zw_999 zw_996 zw_998 zw_29 zw_58) (by decide +kernel) dX11_pushLinks_70 (lk_goto B dX11_pushLinks_73 (by decide) (k_X11_pushLinks_106 hd1 B hr hlk)))))))))
set_option maxRecDepth 20000 in
theorem k_X11_pushLinks_49 {p : Program} {l : Launch} {e : Env} {s : State} {m : MethodId} {args : Array Value} {below : List Frame} {meth : Method} {c : Code} {E : zE} {d : Nat} {Q : zQ} (hd1 : 1 ≤ d) (B : zB p s m args c E mX11_pushLinks.1.cls mX11_pushLinks.2.1 mX11_pushLinks.2.2.1) (hr : meth.sig.returnType = mX11_pushLinks.2.2.2) (hlk : meth.locks = false) : zLk (zG p l e (zrm d) s m args below meth c E mX11_pushLinks.2.2.1 0 0 (MQ below (zQc E Q) args s 0 0 (zaA E))) 49 (b_X11_pushLinks_49 d (zG p l e (zrm d) s m args below meth c E mX11_pushLinks.2.2.1 0 0 (MQ below (zQc E Q) args s 0 0 (zaA E))) Q) := by
  unfold b_X11_pushLinks_49
  exact lk_aln B dX11_pushLinks_49 rfl (lk_gf (T := TX11) B cl_X11 (by decide) in_X11 zw_821 dX11_pushLinks_50 (lk_aln B dX11_pushLinks_53 rfl (lk_gf (T := TX11) B cl_X11 (by decide) in_X11 zw_820 dX11_pushLinks_54 (lk_iln B dX11_pushLinks_57 rfl (lk_c B dX11_pushLinks_58 (lk_ine B dX11_pushLinks_59 (by decide) (k_X11_pushLinks_76 hd1 B hr hlk) (k_X11_pushLinks_62 hd1 B hr hlk)))))))
set_option maxRecDepth 20000 in
theorem k_X11_pushLinks_44 {p : Program} {l : Launch} {e : Env} {s : State} {m : MethodId} {args : Array Value} {below : List Frame} {meth : Method} {c : Code} {E : zE} {d : Nat} {Q : zQ} (hd1 : 1 ≤ d) (B : zB p s m args c E mX11_pushLinks.1.cls mX11_pushLinks.2.1 mX11_pushLinks.2.2.1) (hr : meth.sig.returnType = mX11_pushLinks.2.2.2) (hlk : meth.locks = false) : zLk (zG p l e (zrm d) s m args below meth c E mX11_pushLinks.2.2.1 0 0 (MQ below (zQc E Q) args s 0 0 (zaA E))) 44 (b_X11_pushLinks_44 d (zG p l e (zrm d) s m args below meth c E mX11_pushLinks.2.2.1 0 0 (MQ below (zQc E Q) args s 0 0 (zaA E))) Q) := by
  unfold b_X11_pushLinks_44
  exact lk_il B dX11_pushLinks_44 (lk_zlt B dX11_pushLinks_46 (by decide) (k_X11_pushLinks_123 hd1 B hr hlk) (k_X11_pushLinks_49 hd1 B hr hlk))
def S_X11_pushLinks (d : Nat) (G : Nat → zK) (Q : zQ) : Prop := zLk G 0 (b_X11_pushLinks_0 d G Q) ∧ zLk G 44 (b_X11_pushLinks_44 d G Q)
theorem s_X11_pushLinks_0 {d : Nat} {G : Nat → zK} {Q : zQ} (h : S_X11_pushLinks d G Q) {ls st : List zV} {μ : zM} (k : b_X11_pushLinks_0 d G Q ls st μ) : G 0 ls st μ := h.1 ls st μ k
theorem s_X11_pushLinks_44 {d : Nat} {G : Nat → zK} {Q : zQ} (h : S_X11_pushLinks d G Q) {ls st : List zV} {μ : zM} (k : b_X11_pushLinks_44 d G Q ls st μ) : G 44 ls st μ := h.2 ls st μ k
theorem of_X11_pushLinks {d : Nat} {a0 a1 : zV} {μ : zM} {Q : zQ} (hd1 : 1 ≤ d) (h : ∀ G : Nat → zK, S_X11_pushLinks d G Q → G 0 [a0, a1, .inr none, .inr none, .inr none] [] μ) : zCt d mX11_pushLinks [a0, a1] μ Q := zCt.mk (by decide) (Nat.le_of_ble_eq_true rfl) (fun p l e s m args below meth c E B hr hlk => h _ ⟨k_X11_pushLinks_0 hd1 B hr hlk, k_X11_pushLinks_44 hd1 B hr hlk⟩)
theorem dX11_findMissing_0 : decode cX11_findMissing 0 = .ok (.aload_n 0, 1) := by decide +kernel
theorem dX11_findMissing_1 : decode cX11_findMissing 1 = .ok (.invokevirtual 223, 3) := by decide +kernel
theorem dX11_findMissing_4 : decode cX11_findMissing 4 = .ok (.aload_n 0, 1) := by decide +kernel
theorem dX11_findMissing_5 : decode cX11_findMissing 5 = .ok (.iload_n 1, 1) := by decide +kernel
theorem dX11_findMissing_6 : decode cX11_findMissing 6 = .ok (.aload_n 0, 1) := by decide +kernel
theorem dX11_findMissing_7 : decode cX11_findMissing 7 = .ok (.getfield 38, 3) := by decide +kernel
theorem dX11_findMissing_10 : decode cX11_findMissing 10 = .ok (.iload_n 1, 1) := by decide +kernel
theorem dX11_findMissing_11 : decode cX11_findMissing 11 = .ok (.iaload, 1) := by decide +kernel
theorem dX11_findMissing_12 : decode cX11_findMissing 12 = .ok (.invokevirtual 226, 3) := by decide +kernel
theorem dX11_findMissing_15 : decode cX11_findMissing 15 = .ok (.return_, 1) := by decide +kernel
def b_X11_findMissing_0 (d : Nat) (G : Nat → zK) (Q : zQ) : zK := o_al 0 <| o_callv (zCt (d - 1) mX11_beginWalk) 9 1 <| o_al 0 <| o_il 1 <| o_al 0 <| o_gf 9 9 <| o_il 1 <| o_iald <| o_callv (zCt (d - 1) mX11_walk) 9 3 <| t_vret Q
set_option maxRecDepth 20000 in
theorem k_X11_findMissing_0 {p : Program} {l : Launch} {e : Env} {s : State} {m : MethodId} {args : Array Value} {below : List Frame} {meth : Method} {c : Code} {E : zE} {d : Nat} {Q : zQ} (hd1 : 1 ≤ d) (B : zB p s m args c E mX11_findMissing.1.cls mX11_findMissing.2.1 mX11_findMissing.2.2.1) (hr : meth.sig.returnType = mX11_findMissing.2.2.2) (hlk : meth.locks = false) : zLk (zG p l e (zrm d) s m args below meth c E mX11_findMissing.2.2.1 0 0 (MQ below (zQc E Q) args s 0 0 (zaA E))) 0 (b_X11_findMissing_0 d (zG p l e (zrm d) s m args below meth c E mX11_findMissing.2.2.1 0 0 (MQ below (zQc E Q) args s 0 0 (zaA E))) Q) := by
  unfold b_X11_findMissing_0
  exact lk_aln B dX11_findMissing_0 rfl (lk_callv (M := mX11_beginWalk) (T := TX11) (N := 41) B (zhR hd1 (by decide)) ⟨Nat.zero_le _, Nat.zero_le _⟩ cl_X11 (zw5 zw_983 zw_980 zw_982 zw_25 zw_58) (by decide +kernel) dX11_findMissing_1 (lk_aln B dX11_findMissing_4 rfl (lk_iln B dX11_findMissing_5 rfl (lk_aln B dX11_findMissing_6 rfl (lk_gf (T := TX11) B cl_X11 (by decide) in_X11 zw_797 dX11_findMissing_7 (lk_iln B dX11_findMissing_10 rfl (lk_iald B dX11_findMissing_11 (lk_callv (M := mX11_walk) (T := TX11) (N := 41) B (zhR hd1 (by decide)) ⟨Nat.zero_le _, Nat.zero_le _⟩ cl_X11 (zw5 zw_987 zw_984 zw_986 zw_26 zw_58) (by decide +kernel) dX11_findMissing_12 (lk_vret B hr hlk dX11_findMissing_15)))))))))
def S_X11_findMissing (d : Nat) (G : Nat → zK) (Q : zQ) : Prop := zLk G 0 (b_X11_findMissing_0 d G Q)
theorem s_X11_findMissing_0 {d : Nat} {G : Nat → zK} {Q : zQ} (h : S_X11_findMissing d G Q) {ls st : List zV} {μ : zM} (k : b_X11_findMissing_0 d G Q ls st μ) : G 0 ls st μ := h ls st μ k
theorem of_X11_findMissing {d : Nat} {a0 a1 : zV} {μ : zM} {Q : zQ} (hd1 : 1 ≤ d) (h : ∀ G : Nat → zK, S_X11_findMissing d G Q → G 0 [a0, a1] [] μ) : zCt d mX11_findMissing [a0, a1] μ Q := zCt.mk (by decide) (Nat.le_of_ble_eq_true rfl) (fun p l e s m args below meth c E B hr hlk => h _ (k_X11_findMissing_0 hd1 B hr hlk))
theorem dX11_settle_0 : decode cX11_settle 0 = .ok (.aload_n 0, 1) := by decide +kernel
theorem dX11_settle_1 : decode cX11_settle 1 = .ok (.getfield 35, 3) := by decide +kernel
theorem dX11_settle_4 : decode cX11_settle 4 = .ok (.iload_n 1, 1) := by decide +kernel
theorem dX11_settle_5 : decode cX11_settle 5 = .ok (.iaload, 1) := by decide +kernel
theorem dX11_settle_6 : decode cX11_settle 6 = .ok (.iconst 1, 1) := by decide +kernel
theorem dX11_settle_7 : decode cX11_settle 7 = .ok (.if_icmp .eq 4, 3) := by decide +kernel
theorem dX11_settle_10 : decode cX11_settle 10 = .ok (.return_, 1) := by decide +kernel
theorem dX11_settle_11 : decode cX11_settle 11 = .ok (.aload_n 0, 1) := by decide +kernel
theorem dX11_settle_12 : decode cX11_settle 12 = .ok (.iload_n 1, 1) := by decide +kernel
theorem dX11_settle_13 : decode cX11_settle 13 = .ok (.invokevirtual 229, 3) := by decide +kernel
theorem dX11_settle_16 : decode cX11_settle 16 = .ok (.aload_n 0, 1) := by decide +kernel
theorem dX11_settle_17 : decode cX11_settle 17 = .ok (.getfield 214, 3) := by decide +kernel
theorem dX11_settle_20 : decode cX11_settle 20 = .ok (.ifCond .ne 10, 3) := by decide +kernel
theorem dX11_settle_23 : decode cX11_settle 23 = .ok (.aload_n 0, 1) := by decide +kernel
theorem dX11_settle_24 : decode cX11_settle 24 = .ok (.getfield 35, 3) := by decide +kernel
theorem dX11_settle_27 : decode cX11_settle 27 = .ok (.iload_n 1, 1) := by decide +kernel
theorem dX11_settle_28 : decode cX11_settle 28 = .ok (.iconst 2, 1) := by decide +kernel
theorem dX11_settle_29 : decode cX11_settle 29 = .ok (.iastore, 1) := by decide +kernel
theorem dX11_settle_30 : decode cX11_settle 30 = .ok (.return_, 1) := by decide +kernel
def b_X11_settle_30 (d : Nat) (G : Nat → zK) (Q : zQ) : zK := t_vret Q
def b_X11_settle_23 (d : Nat) (G : Nat → zK) (Q : zQ) : zK := o_al 0 <| o_gf 9 8 <| o_il 1 <| o_c 2 <| o_iast <| b_X11_settle_30 d G Q
def b_X11_settle_11 (d : Nat) (G : Nat → zK) (Q : zQ) : zK := o_al 0 <| o_il 1 <| o_callv (zCt (d - 1) mX11_findMissing) 9 2 <| o_al 0 <| o_gf 9 34 <| t_zeq (b_X11_settle_23 d G Q) (b_X11_settle_30 d G Q)
def b_X11_settle_10 (d : Nat) (G : Nat → zK) (Q : zQ) : zK := t_vret Q
def b_X11_settle_0 (d : Nat) (G : Nat → zK) (Q : zQ) : zK := o_al 0 <| o_gf 9 8 <| o_il 1 <| o_iald <| o_c 1 <| t_ieq (b_X11_settle_11 d G Q) (b_X11_settle_10 d G Q)
set_option maxRecDepth 20000 in
theorem k_X11_settle_30 {p : Program} {l : Launch} {e : Env} {s : State} {m : MethodId} {args : Array Value} {below : List Frame} {meth : Method} {c : Code} {E : zE} {d : Nat} {Q : zQ} (hd1 : 1 ≤ d) (B : zB p s m args c E mX11_settle.1.cls mX11_settle.2.1 mX11_settle.2.2.1) (hr : meth.sig.returnType = mX11_settle.2.2.2) (hlk : meth.locks = false) : zLk (zG p l e (zrm d) s m args below meth c E mX11_settle.2.2.1 0 0 (MQ below (zQc E Q) args s 0 0 (zaA E))) 30 (b_X11_settle_30 d (zG p l e (zrm d) s m args below meth c E mX11_settle.2.2.1 0 0 (MQ below (zQc E Q) args s 0 0 (zaA E))) Q) := by
  unfold b_X11_settle_30
  exact lk_vret B hr hlk dX11_settle_30
set_option maxRecDepth 20000 in
theorem k_X11_settle_23 {p : Program} {l : Launch} {e : Env} {s : State} {m : MethodId} {args : Array Value} {below : List Frame} {meth : Method} {c : Code} {E : zE} {d : Nat} {Q : zQ} (hd1 : 1 ≤ d) (B : zB p s m args c E mX11_settle.1.cls mX11_settle.2.1 mX11_settle.2.2.1) (hr : meth.sig.returnType = mX11_settle.2.2.2) (hlk : meth.locks = false) : zLk (zG p l e (zrm d) s m args below meth c E mX11_settle.2.2.1 0 0 (MQ below (zQc E Q) args s 0 0 (zaA E))) 23 (b_X11_settle_23 d (zG p l e (zrm d) s m args below meth c E mX11_settle.2.2.1 0 0 (MQ below (zQc E Q) args s 0 0 (zaA E))) Q) := by
  unfold b_X11_settle_23
  exact lk_aln B dX11_settle_23 rfl (lk_gf (T := TX11) B cl_X11 (by decide) in_X11 zw_796 dX11_settle_24 (lk_iln B dX11_settle_27 rfl (lk_c B dX11_settle_28 (lk_iast B dX11_settle_29 (k_X11_settle_30 hd1 B hr hlk)))))
set_option maxRecDepth 20000 in
theorem k_X11_settle_11 {p : Program} {l : Launch} {e : Env} {s : State} {m : MethodId} {args : Array Value} {below : List Frame} {meth : Method} {c : Code} {E : zE} {d : Nat} {Q : zQ} (hd1 : 1 ≤ d) (B : zB p s m args c E mX11_settle.1.cls mX11_settle.2.1 mX11_settle.2.2.1) (hr : meth.sig.returnType = mX11_settle.2.2.2) (hlk : meth.locks = false) : zLk (zG p l e (zrm d) s m args below meth c E mX11_settle.2.2.1 0 0 (MQ below (zQc E Q) args s 0 0 (zaA E))) 11 (b_X11_settle_11 d (zG p l e (zrm d) s m args below meth c E mX11_settle.2.2.1 0 0 (MQ below (zQc E Q) args s 0 0 (zaA E))) Q) := by
  unfold b_X11_settle_11
  exact lk_aln B dX11_settle_11 rfl (lk_iln B dX11_settle_12 rfl (lk_callv (M := mX11_findMissing) (T := TX11) (N := 41) B (zhR hd1 (by decide)) ⟨Nat.zero_le _, Nat.zero_le _⟩ cl_X11 (zw5 zw_979 zw_976 zw_978 zw_24 zw_58) (by decide +kernel) dX11_settle_13 (lk_aln B dX11_settle_16 rfl (lk_gf (T := TX11) B cl_X11 (by decide) in_X11 zw_822 dX11_settle_17 (lk_zne B dX11_settle_20 (by decide) (k_X11_settle_30 hd1 B hr hlk) (k_X11_settle_23 hd1 B hr hlk))))))
set_option maxRecDepth 20000 in
theorem k_X11_settle_10 {p : Program} {l : Launch} {e : Env} {s : State} {m : MethodId} {args : Array Value} {below : List Frame} {meth : Method} {c : Code} {E : zE} {d : Nat} {Q : zQ} (hd1 : 1 ≤ d) (B : zB p s m args c E mX11_settle.1.cls mX11_settle.2.1 mX11_settle.2.2.1) (hr : meth.sig.returnType = mX11_settle.2.2.2) (hlk : meth.locks = false) : zLk (zG p l e (zrm d) s m args below meth c E mX11_settle.2.2.1 0 0 (MQ below (zQc E Q) args s 0 0 (zaA E))) 10 (b_X11_settle_10 d (zG p l e (zrm d) s m args below meth c E mX11_settle.2.2.1 0 0 (MQ below (zQc E Q) args s 0 0 (zaA E))) Q) := by
  unfold b_X11_settle_10
  exact lk_vret B hr hlk dX11_settle_10
set_option maxRecDepth 20000 in
theorem k_X11_settle_0 {p : Program} {l : Launch} {e : Env} {s : State} {m : MethodId} {args : Array Value} {below : List Frame} {meth : Method} {c : Code} {E : zE} {d : Nat} {Q : zQ} (hd1 : 1 ≤ d) (B : zB p s m args c E mX11_settle.1.cls mX11_settle.2.1 mX11_settle.2.2.1) (hr : meth.sig.returnType = mX11_settle.2.2.2) (hlk : meth.locks = false) : zLk (zG p l e (zrm d) s m args below meth c E mX11_settle.2.2.1 0 0 (MQ below (zQc E Q) args s 0 0 (zaA E))) 0 (b_X11_settle_0 d (zG p l e (zrm d) s m args below meth c E mX11_settle.2.2.1 0 0 (MQ below (zQc E Q) args s 0 0 (zaA E))) Q) := by
  unfold b_X11_settle_0
  exact lk_aln B dX11_settle_0 rfl (lk_gf (T := TX11) B cl_X11 (by decide) in_X11 zw_796 dX11_settle_1 (lk_iln B dX11_settle_4 rfl (lk_iald B dX11_settle_5 (lk_c B dX11_settle_6 (lk_ieq B dX11_settle_7 (by decide) (k_X11_settle_11 hd1 B hr hlk) (k_X11_settle_10 hd1 B hr hlk))))))
def S_X11_settle (d : Nat) (G : Nat → zK) (Q : zQ) : Prop := zLk G 0 (b_X11_settle_0 d G Q)
theorem s_X11_settle_0 {d : Nat} {G : Nat → zK} {Q : zQ} (h : S_X11_settle d G Q) {ls st : List zV} {μ : zM} (k : b_X11_settle_0 d G Q ls st μ) : G 0 ls st μ := h ls st μ k
theorem of_X11_settle {d : Nat} {a0 a1 : zV} {μ : zM} {Q : zQ} (hd1 : 1 ≤ d) (h : ∀ G : Nat → zK, S_X11_settle d G Q → G 0 [a0, a1] [] μ) : zCt d mX11_settle [a0, a1] μ Q := zCt.mk (by decide) (Nat.le_of_ble_eq_true rfl) (fun p l e s m args below meth c E B hr hlk => h _ (k_X11_settle_0 hd1 B hr hlk))
theorem dX11_pinAt_0 : decode cX11_pinAt 0 = .ok (.bipush 8, 2) := by decide +kernel
theorem dX11_pinAt_2 : decode cX11_pinAt 2 = .ok (.iload_n 1, 1) := by decide +kernel
theorem dX11_pinAt_3 : decode cX11_pinAt 3 = .ok (.imul, 1) := by decide +kernel
theorem dX11_pinAt_4 : decode cX11_pinAt 4 = .ok (.istore 4, 2) := by decide +kernel
theorem dX11_pinAt_6 : decode cX11_pinAt 6 = .ok (.iload 4, 2) := by decide +kernel
theorem dX11_pinAt_8 : decode cX11_pinAt 8 = .ok (.bipush 8, 2) := by decide +kernel
theorem dX11_pinAt_10 : decode cX11_pinAt 10 = .ok (.iload_n 1, 1) := by decide +kernel
theorem dX11_pinAt_11 : decode cX11_pinAt 11 = .ok (.imul, 1) := by decide +kernel
theorem dX11_pinAt_12 : decode cX11_pinAt 12 = .ok (.aload_n 0, 1) := by decide +kernel
theorem dX11_pinAt_13 : decode cX11_pinAt 13 = .ok (.getfield 26, 3) := by decide +kernel
theorem dX11_pinAt_16 : decode cX11_pinAt 16 = .ok (.iload_n 1, 1) := by decide +kernel
theorem dX11_pinAt_17 : decode cX11_pinAt 17 = .ok (.iaload, 1) := by decide +kernel
theorem dX11_pinAt_18 : decode cX11_pinAt 18 = .ok (.iadd, 1) := by decide +kernel
theorem dX11_pinAt_19 : decode cX11_pinAt 19 = .ok (.if_icmp .ge 34, 3) := by decide +kernel
theorem dX11_pinAt_22 : decode cX11_pinAt 22 = .ok (.aload_n 0, 1) := by decide +kernel
theorem dX11_pinAt_23 : decode cX11_pinAt 23 = .ok (.getfield 29, 3) := by decide +kernel
theorem dX11_pinAt_26 : decode cX11_pinAt 26 = .ok (.iload 4, 2) := by decide +kernel
theorem dX11_pinAt_28 : decode cX11_pinAt 28 = .ok (.iaload, 1) := by decide +kernel
theorem dX11_pinAt_29 : decode cX11_pinAt 29 = .ok (.iload_n 2, 1) := by decide +kernel
theorem dX11_pinAt_30 : decode cX11_pinAt 30 = .ok (.if_icmp .ne 17, 3) := by decide +kernel
theorem dX11_pinAt_33 : decode cX11_pinAt 33 = .ok (.aload_n 0, 1) := by decide +kernel
theorem dX11_pinAt_34 : decode cX11_pinAt 34 = .ok (.getfield 32, 3) := by decide +kernel
theorem dX11_pinAt_37 : decode cX11_pinAt 37 = .ok (.iload 4, 2) := by decide +kernel
theorem dX11_pinAt_39 : decode cX11_pinAt 39 = .ok (.baload, 1) := by decide +kernel
theorem dX11_pinAt_40 : decode cX11_pinAt 40 = .ok (.iload_n 3, 1) := by decide +kernel
theorem dX11_pinAt_41 : decode cX11_pinAt 41 = .ok (.if_icmp .ne 6, 3) := by decide +kernel
theorem dX11_pinAt_44 : decode cX11_pinAt 44 = .ok (.iload 4, 2) := by decide +kernel
theorem dX11_pinAt_46 : decode cX11_pinAt 46 = .ok (.ireturn, 1) := by decide +kernel
theorem dX11_pinAt_47 : decode cX11_pinAt 47 = .ok (.iinc 4 1, 3) := by decide +kernel
theorem dX11_pinAt_50 : decode cX11_pinAt 50 = .ok (.goto (-44), 3) := by decide +kernel
theorem dX11_pinAt_53 : decode cX11_pinAt 53 = .ok (.iconst (-1), 1) := by decide +kernel
theorem dX11_pinAt_54 : decode cX11_pinAt 54 = .ok (.ireturn, 1) := by decide +kernel
def b_X11_pinAt_0 (d : Nat) (G : Nat → zK) (Q : zQ) : zK := o_c 8 <| o_il 1 <| o_mul <| o_is 4 <| G 6
def b_X11_pinAt_53 (d : Nat) (G : Nat → zK) (Q : zQ) : zK := o_c (-1) <| t_iret Q
def b_X11_pinAt_47 (d : Nat) (G : Nat → zK) (Q : zQ) : zK := o_inc 4 1 <| G 6
def b_X11_pinAt_44 (d : Nat) (G : Nat → zK) (Q : zQ) : zK := o_il 4 <| t_iret Q
def b_X11_pinAt_33 (d : Nat) (G : Nat → zK) (Q : zQ) : zK := o_al 0 <| o_gf 9 7 <| o_il 4 <| o_zald <| o_il 3 <| t_ieq (b_X11_pinAt_44 d G Q) (b_X11_pinAt_47 d G Q)
def b_X11_pinAt_22 (d : Nat) (G : Nat → zK) (Q : zQ) : zK := o_al 0 <| o_gf 9 6 <| o_il 4 <| o_iald <| o_il 2 <| t_ieq (b_X11_pinAt_33 d G Q) (b_X11_pinAt_47 d G Q)
def b_X11_pinAt_6 (d : Nat) (G : Nat → zK) (Q : zQ) : zK := o_il 4 <| o_c 8 <| o_il 1 <| o_mul <| o_al 0 <| o_gf 9 5 <| o_il 1 <| o_iald <| o_add <| t_ilt (b_X11_pinAt_22 d G Q) (b_X11_pinAt_53 d G Q)
set_option maxRecDepth 20000 in
theorem k_X11_pinAt_0 {p : Program} {l : Launch} {e : Env} {s : State} {m : MethodId} {args : Array Value} {below : List Frame} {meth : Method} {c : Code} {E : zE} {d : Nat} {Q : zQ} (B : zB p s m args c E mX11_pinAt.1.cls mX11_pinAt.2.1 mX11_pinAt.2.2.1) (hr : meth.sig.returnType = mX11_pinAt.2.2.2) (hlk : meth.locks = false) : zLk (zG p l e (zrm d) s m args below meth c E mX11_pinAt.2.2.1 0 0 (MQ below (zQc E Q) args s 0 0 (zaA E))) 0 (b_X11_pinAt_0 d (zG p l e (zrm d) s m args below meth c E mX11_pinAt.2.2.1 0 0 (MQ below (zQc E Q) args s 0 0 (zaA E))) Q) := by
  unfold b_X11_pinAt_0
  exact lk_b B dX11_pinAt_0 rfl (lk_iln B dX11_pinAt_2 rfl (lk_mul B dX11_pinAt_3 (lk_is B dX11_pinAt_4 (by decide) (fun _ _ _ h => h))))
set_option maxRecDepth 20000 in
theorem k_X11_pinAt_53 {p : Program} {l : Launch} {e : Env} {s : State} {m : MethodId} {args : Array Value} {below : List Frame} {meth : Method} {c : Code} {E : zE} {d : Nat} {Q : zQ} (B : zB p s m args c E mX11_pinAt.1.cls mX11_pinAt.2.1 mX11_pinAt.2.2.1) (hr : meth.sig.returnType = mX11_pinAt.2.2.2) (hlk : meth.locks = false) : zLk (zG p l e (zrm d) s m args below meth c E mX11_pinAt.2.2.1 0 0 (MQ below (zQc E Q) args s 0 0 (zaA E))) 53 (b_X11_pinAt_53 d (zG p l e (zrm d) s m args below meth c E mX11_pinAt.2.2.1 0 0 (MQ below (zQc E Q) args s 0 0 (zaA E))) Q) := by
  unfold b_X11_pinAt_53
  exact lk_c B dX11_pinAt_53 (lk_iret B hr hlk dX11_pinAt_54)
set_option maxRecDepth 20000 in
theorem k_X11_pinAt_47 {p : Program} {l : Launch} {e : Env} {s : State} {m : MethodId} {args : Array Value} {below : List Frame} {meth : Method} {c : Code} {E : zE} {d : Nat} {Q : zQ} (B : zB p s m args c E mX11_pinAt.1.cls mX11_pinAt.2.1 mX11_pinAt.2.2.1) (hr : meth.sig.returnType = mX11_pinAt.2.2.2) (hlk : meth.locks = false) : zLk (zG p l e (zrm d) s m args below meth c E mX11_pinAt.2.2.1 0 0 (MQ below (zQc E Q) args s 0 0 (zaA E))) 47 (b_X11_pinAt_47 d (zG p l e (zrm d) s m args below meth c E mX11_pinAt.2.2.1 0 0 (MQ below (zQc E Q) args s 0 0 (zaA E))) Q) := by
  unfold b_X11_pinAt_47
  exact lk_inc B dX11_pinAt_47 (by decide) (lk_goto B dX11_pinAt_50 (by decide) (fun _ _ _ h => h))
set_option maxRecDepth 20000 in
theorem k_X11_pinAt_44 {p : Program} {l : Launch} {e : Env} {s : State} {m : MethodId} {args : Array Value} {below : List Frame} {meth : Method} {c : Code} {E : zE} {d : Nat} {Q : zQ} (B : zB p s m args c E mX11_pinAt.1.cls mX11_pinAt.2.1 mX11_pinAt.2.2.1) (hr : meth.sig.returnType = mX11_pinAt.2.2.2) (hlk : meth.locks = false) : zLk (zG p l e (zrm d) s m args below meth c E mX11_pinAt.2.2.1 0 0 (MQ below (zQc E Q) args s 0 0 (zaA E))) 44 (b_X11_pinAt_44 d (zG p l e (zrm d) s m args below meth c E mX11_pinAt.2.2.1 0 0 (MQ below (zQc E Q) args s 0 0 (zaA E))) Q) := by
  unfold b_X11_pinAt_44
  exact lk_il B dX11_pinAt_44 (lk_iret B hr hlk dX11_pinAt_46)
set_option maxRecDepth 20000 in
theorem k_X11_pinAt_33 {p : Program} {l : Launch} {e : Env} {s : State} {m : MethodId} {args : Array Value} {below : List Frame} {meth : Method} {c : Code} {E : zE} {d : Nat} {Q : zQ} (B : zB p s m args c E mX11_pinAt.1.cls mX11_pinAt.2.1 mX11_pinAt.2.2.1) (hr : meth.sig.returnType = mX11_pinAt.2.2.2) (hlk : meth.locks = false) : zLk (zG p l e (zrm d) s m args below meth c E mX11_pinAt.2.2.1 0 0 (MQ below (zQc E Q) args s 0 0 (zaA E))) 33 (b_X11_pinAt_33 d (zG p l e (zrm d) s m args below meth c E mX11_pinAt.2.2.1 0 0 (MQ below (zQc E Q) args s 0 0 (zaA E))) Q) := by
  unfold b_X11_pinAt_33
  exact lk_aln B dX11_pinAt_33 rfl (lk_gf (T := TX11) B cl_X11 (by decide) in_X11 zw_795 dX11_pinAt_34 (lk_il B dX11_pinAt_37 (lk_zald B dX11_pinAt_39 (lk_iln B dX11_pinAt_40 rfl (lk_ine B dX11_pinAt_41 (by decide) (k_X11_pinAt_47 B hr hlk) (k_X11_pinAt_44 B hr hlk))))))
set_option maxRecDepth 20000 in
theorem k_X11_pinAt_22 {p : Program} {l : Launch} {e : Env} {s : State} {m : MethodId} {args : Array Value} {below : List Frame} {meth : Method} {c : Code} {E : zE} {d : Nat} {Q : zQ} (B : zB p s m args c E mX11_pinAt.1.cls mX11_pinAt.2.1 mX11_pinAt.2.2.1) (hr : meth.sig.returnType = mX11_pinAt.2.2.2) (hlk : meth.locks = false) : zLk (zG p l e (zrm d) s m args below meth c E mX11_pinAt.2.2.1 0 0 (MQ below (zQc E Q) args s 0 0 (zaA E))) 22 (b_X11_pinAt_22 d (zG p l e (zrm d) s m args below meth c E mX11_pinAt.2.2.1 0 0 (MQ below (zQc E Q) args s 0 0 (zaA E))) Q) := by
  unfold b_X11_pinAt_22
  exact lk_aln B dX11_pinAt_22 rfl (lk_gf (T := TX11) B cl_X11 (by decide) in_X11 zw_794 dX11_pinAt_23 (lk_il B dX11_pinAt_26 (lk_iald B dX11_pinAt_28 (lk_iln B dX11_pinAt_29 rfl (lk_ine B dX11_pinAt_30 (by decide) (k_X11_pinAt_47 B hr hlk) (k_X11_pinAt_33 B hr hlk))))))
set_option maxRecDepth 20000 in
theorem k_X11_pinAt_6 {p : Program} {l : Launch} {e : Env} {s : State} {m : MethodId} {args : Array Value} {below : List Frame} {meth : Method} {c : Code} {E : zE} {d : Nat} {Q : zQ} (B : zB p s m args c E mX11_pinAt.1.cls mX11_pinAt.2.1 mX11_pinAt.2.2.1) (hr : meth.sig.returnType = mX11_pinAt.2.2.2) (hlk : meth.locks = false) : zLk (zG p l e (zrm d) s m args below meth c E mX11_pinAt.2.2.1 0 0 (MQ below (zQc E Q) args s 0 0 (zaA E))) 6 (b_X11_pinAt_6 d (zG p l e (zrm d) s m args below meth c E mX11_pinAt.2.2.1 0 0 (MQ below (zQc E Q) args s 0 0 (zaA E))) Q) := by
  unfold b_X11_pinAt_6
  exact lk_il B dX11_pinAt_6 (lk_b B dX11_pinAt_8 rfl (lk_iln B dX11_pinAt_10 rfl (lk_mul B dX11_pinAt_11 (lk_aln B dX11_pinAt_12 rfl (lk_gf (T := TX11) B cl_X11 (by decide) in_X11 zw_793 dX11_pinAt_13 (lk_iln B dX11_pinAt_16 rfl (lk_iald B dX11_pinAt_17 (lk_add B dX11_pinAt_18 (lk_ige B dX11_pinAt_19 (by decide) (k_X11_pinAt_53 B hr hlk) (k_X11_pinAt_22 B hr hlk))))))))))
def S_X11_pinAt (d : Nat) (G : Nat → zK) (Q : zQ) : Prop := zLk G 0 (b_X11_pinAt_0 d G Q) ∧ zLk G 6 (b_X11_pinAt_6 d G Q)
theorem s_X11_pinAt_0 {d : Nat} {G : Nat → zK} {Q : zQ} (h : S_X11_pinAt d G Q) {ls st : List zV} {μ : zM} (k : b_X11_pinAt_0 d G Q ls st μ) : G 0 ls st μ := h.1 ls st μ k
theorem s_X11_pinAt_6 {d : Nat} {G : Nat → zK} {Q : zQ} (h : S_X11_pinAt d G Q) {ls st : List zV} {μ : zM} (k : b_X11_pinAt_6 d G Q ls st μ) : G 6 ls st μ := h.2 ls st μ k
theorem of_X11_pinAt {d : Nat} {a0 a1 a2 a3 : zV} {μ : zM} {Q : zQ} (h : ∀ G : Nat → zK, S_X11_pinAt d G Q → G 0 [a0, a1, a2, a3, .inr none] [] μ) : zCt d mX11_pinAt [a0, a1, a2, a3] μ Q := zCt.mk (by decide) (Nat.le_of_ble_eq_true rfl) (fun p l e s m args below meth c E B hr hlk => h _ ⟨k_X11_pinAt_0 B hr hlk, k_X11_pinAt_6 B hr hlk⟩)
theorem dX11_pin_0 : decode cX11_pin 0 = .ok (.iload_n 1, 1) := by decide +kernel
theorem dX11_pin_1 : decode cX11_pin 1 = .ok (.invokestatic 132, 3) := by decide +kernel
theorem dX11_pin_4 : decode cX11_pin 4 = .ok (.ifCond .ne 5, 3) := by decide +kernel
theorem dX11_pin_7 : decode cX11_pin 7 = .ok (.iconst 0, 1) := by decide +kernel
theorem dX11_pin_8 : decode cX11_pin 8 = .ok (.ireturn, 1) := by decide +kernel
theorem dX11_pin_9 : decode cX11_pin 9 = .ok (.aload_n 0, 1) := by decide +kernel
theorem dX11_pin_10 : decode cX11_pin 10 = .ok (.iload_n 1, 1) := by decide +kernel
theorem dX11_pin_11 : decode cX11_pin 11 = .ok (.iload_n 2, 1) := by decide +kernel
theorem dX11_pin_12 : decode cX11_pin 12 = .ok (.iload_n 3, 1) := by decide +kernel
theorem dX11_pin_13 : decode cX11_pin 13 = .ok (.invokevirtual 232, 3) := by decide +kernel
theorem dX11_pin_16 : decode cX11_pin 16 = .ok (.istore 5, 2) := by decide +kernel
theorem dX11_pin_18 : decode cX11_pin 18 = .ok (.iload 4, 2) := by decide +kernel
theorem dX11_pin_20 : decode cX11_pin 20 = .ok (.ifCond .eq 76, 3) := by decide +kernel
theorem dX11_pin_23 : decode cX11_pin 23 = .ok (.iload 5, 2) := by decide +kernel
theorem dX11_pin_25 : decode cX11_pin 25 = .ok (.ifCond .ge 23, 3) := by decide +kernel
theorem dX11_pin_28 : decode cX11_pin 28 = .ok (.aload_n 0, 1) := by decide +kernel
theorem dX11_pin_29 : decode cX11_pin 29 = .ok (.getfield 26, 3) := by decide +kernel
theorem dX11_pin_32 : decode cX11_pin 32 = .ok (.iload_n 1, 1) := by decide +kernel
theorem dX11_pin_33 : decode cX11_pin 33 = .ok (.iaload, 1) := by decide +kernel
theorem dX11_pin_34 : decode cX11_pin 34 = .ok (.bipush 8, 2) := by decide +kernel
theorem dX11_pin_36 : decode cX11_pin 36 = .ok (.if_icmp .eq 12, 3) := by decide +kernel
theorem dX11_pin_39 : decode cX11_pin 39 = .ok (.aload_n 0, 1) := by decide +kernel
theorem dX11_pin_40 : decode cX11_pin 40 = .ok (.iload_n 1, 1) := by decide +kernel
theorem dX11_pin_41 : decode cX11_pin 41 = .ok (.iload_n 2, 1) := by decide +kernel
theorem dX11_pin_42 : decode cX11_pin 42 = .ok (.invokevirtual 144, 3) := by decide +kernel
theorem dX11_pin_45 : decode cX11_pin 45 = .ok (.ifCond .ge 5, 3) := by decide +kernel
theorem dX11_pin_48 : decode cX11_pin 48 = .ok (.iconst 0, 1) := by decide +kernel
theorem dX11_pin_49 : decode cX11_pin 49 = .ok (.ireturn, 1) := by decide +kernel
theorem dX11_pin_50 : decode cX11_pin 50 = .ok (.aload_n 0, 1) := by decide +kernel
theorem dX11_pin_51 : decode cX11_pin 51 = .ok (.getfield 29, 3) := by decide +kernel
theorem dX11_pin_54 : decode cX11_pin 54 = .ok (.bipush 8, 2) := by decide +kernel
theorem dX11_pin_56 : decode cX11_pin 56 = .ok (.iload_n 1, 1) := by decide +kernel
theorem dX11_pin_57 : decode cX11_pin 57 = .ok (.imul, 1) := by decide +kernel
theorem dX11_pin_58 : decode cX11_pin 58 = .ok (.aload_n 0, 1) := by decide +kernel
theorem dX11_pin_59 : decode cX11_pin 59 = .ok (.getfield 26, 3) := by decide +kernel
theorem dX11_pin_62 : decode cX11_pin 62 = .ok (.iload_n 1, 1) := by decide +kernel
theorem dX11_pin_63 : decode cX11_pin 63 = .ok (.iaload, 1) := by decide +kernel
theorem dX11_pin_64 : decode cX11_pin 64 = .ok (.iadd, 1) := by decide +kernel
theorem dX11_pin_65 : decode cX11_pin 65 = .ok (.iload_n 2, 1) := by decide +kernel
theorem dX11_pin_66 : decode cX11_pin 66 = .ok (.iastore, 1) := by decide +kernel
theorem dX11_pin_67 : decode cX11_pin 67 = .ok (.aload_n 0, 1) := by decide +kernel
theorem dX11_pin_68 : decode cX11_pin 68 = .ok (.getfield 32, 3) := by decide +kernel
theorem dX11_pin_71 : decode cX11_pin 71 = .ok (.bipush 8, 2) := by decide +kernel
theorem dX11_pin_73 : decode cX11_pin 73 = .ok (.iload_n 1, 1) := by decide +kernel
theorem dX11_pin_74 : decode cX11_pin 74 = .ok (.imul, 1) := by decide +kernel
theorem dX11_pin_75 : decode cX11_pin 75 = .ok (.aload_n 0, 1) := by decide +kernel
theorem dX11_pin_76 : decode cX11_pin 76 = .ok (.getfield 26, 3) := by decide +kernel
theorem dX11_pin_79 : decode cX11_pin 79 = .ok (.iload_n 1, 1) := by decide +kernel
theorem dX11_pin_80 : decode cX11_pin 80 = .ok (.iaload, 1) := by decide +kernel
theorem dX11_pin_81 : decode cX11_pin 81 = .ok (.iadd, 1) := by decide +kernel
theorem dX11_pin_82 : decode cX11_pin 82 = .ok (.iload_n 3, 1) := by decide +kernel
theorem dX11_pin_83 : decode cX11_pin 83 = .ok (.bastore, 1) := by decide +kernel
theorem dX11_pin_84 : decode cX11_pin 84 = .ok (.aload_n 0, 1) := by decide +kernel
theorem dX11_pin_85 : decode cX11_pin 85 = .ok (.getfield 26, 3) := by decide +kernel
theorem dX11_pin_88 : decode cX11_pin 88 = .ok (.iload_n 1, 1) := by decide +kernel
theorem dX11_pin_89 : decode cX11_pin 89 = .ok (.dup2, 1) := by decide +kernel
theorem dX11_pin_90 : decode cX11_pin 90 = .ok (.iaload, 1) := by decide +kernel
theorem dX11_pin_91 : decode cX11_pin 91 = .ok (.iconst 1, 1) := by decide +kernel
theorem dX11_pin_92 : decode cX11_pin 92 = .ok (.iadd, 1) := by decide +kernel
theorem dX11_pin_93 : decode cX11_pin 93 = .ok (.iastore, 1) := by decide +kernel
theorem dX11_pin_94 : decode cX11_pin 94 = .ok (.iconst 1, 1) := by decide +kernel
theorem dX11_pin_95 : decode cX11_pin 95 = .ok (.ireturn, 1) := by decide +kernel
theorem dX11_pin_96 : decode cX11_pin 96 = .ok (.iload 5, 2) := by decide +kernel
theorem dX11_pin_98 : decode cX11_pin 98 = .ok (.ifCond .ge 5, 3) := by decide +kernel
theorem dX11_pin_101 : decode cX11_pin 101 = .ok (.iconst 0, 1) := by decide +kernel
theorem dX11_pin_102 : decode cX11_pin 102 = .ok (.ireturn, 1) := by decide +kernel
theorem dX11_pin_103 : decode cX11_pin 103 = .ok (.bipush 8, 2) := by decide +kernel
theorem dX11_pin_105 : decode cX11_pin 105 = .ok (.iload_n 1, 1) := by decide +kernel
theorem dX11_pin_106 : decode cX11_pin 106 = .ok (.imul, 1) := by decide +kernel
theorem dX11_pin_107 : decode cX11_pin 107 = .ok (.aload_n 0, 1) := by decide +kernel
theorem dX11_pin_108 : decode cX11_pin 108 = .ok (.getfield 26, 3) := by decide +kernel
theorem dX11_pin_111 : decode cX11_pin 111 = .ok (.iload_n 1, 1) := by decide +kernel
theorem dX11_pin_112 : decode cX11_pin 112 = .ok (.iaload, 1) := by decide +kernel
theorem dX11_pin_113 : decode cX11_pin 113 = .ok (.iadd, 1) := by decide +kernel
theorem dX11_pin_114 : decode cX11_pin 114 = .ok (.iconst 1, 1) := by decide +kernel
theorem dX11_pin_115 : decode cX11_pin 115 = .ok (.isub, 1) := by decide +kernel
theorem dX11_pin_116 : decode cX11_pin 116 = .ok (.istore 6, 2) := by decide +kernel
theorem dX11_pin_118 : decode cX11_pin 118 = .ok (.aload_n 0, 1) := by decide +kernel
theorem dX11_pin_119 : decode cX11_pin 119 = .ok (.getfield 29, 3) := by decide +kernel
theorem dX11_pin_122 : decode cX11_pin 122 = .ok (.iload 5, 2) := by decide +kernel
theorem dX11_pin_124 : decode cX11_pin 124 = .ok (.aload_n 0, 1) := by decide +kernel
theorem dX11_pin_125 : decode cX11_pin 125 = .ok (.getfield 29, 3) := by decide +kernel
theorem dX11_pin_128 : decode cX11_pin 128 = .ok (.iload 6, 2) := by decide +kernel
theorem dX11_pin_130 : decode cX11_pin 130 = .ok (.iaload, 1) := by decide +kernel
theorem dX11_pin_131 : decode cX11_pin 131 = .ok (.iastore, 1) := by decide +kernel
theorem dX11_pin_132 : decode cX11_pin 132 = .ok (.aload_n 0, 1) := by decide +kernel
theorem dX11_pin_133 : decode cX11_pin 133 = .ok (.getfield 32, 3) := by decide +kernel
theorem dX11_pin_136 : decode cX11_pin 136 = .ok (.iload 5, 2) := by decide +kernel
theorem dX11_pin_138 : decode cX11_pin 138 = .ok (.aload_n 0, 1) := by decide +kernel
theorem dX11_pin_139 : decode cX11_pin 139 = .ok (.getfield 32, 3) := by decide +kernel
theorem dX11_pin_142 : decode cX11_pin 142 = .ok (.iload 6, 2) := by decide +kernel
theorem dX11_pin_144 : decode cX11_pin 144 = .ok (.baload, 1) := by decide +kernel
theorem dX11_pin_145 : decode cX11_pin 145 = .ok (.bastore, 1) := by decide +kernel
theorem dX11_pin_146 : decode cX11_pin 146 = .ok (.aload_n 0, 1) := by decide +kernel
theorem dX11_pin_147 : decode cX11_pin 147 = .ok (.getfield 26, 3) := by decide +kernel
theorem dX11_pin_150 : decode cX11_pin 150 = .ok (.iload_n 1, 1) := by decide +kernel
theorem dX11_pin_151 : decode cX11_pin 151 = .ok (.dup2, 1) := by decide +kernel
theorem dX11_pin_152 : decode cX11_pin 152 = .ok (.iaload, 1) := by decide +kernel
theorem dX11_pin_153 : decode cX11_pin 153 = .ok (.iconst 1, 1) := by decide +kernel
theorem dX11_pin_154 : decode cX11_pin 154 = .ok (.isub, 1) := by decide +kernel
theorem dX11_pin_155 : decode cX11_pin 155 = .ok (.iastore, 1) := by decide +kernel
theorem dX11_pin_156 : decode cX11_pin 156 = .ok (.iconst 1, 1) := by decide +kernel
theorem dX11_pin_157 : decode cX11_pin 157 = .ok (.ireturn, 1) := by decide +kernel
def b_X11_pin_103 (d : Nat) (G : Nat → zK) (Q : zQ) : zK := o_c 8 <| o_il 1 <| o_mul <| o_al 0 <| o_gf 9 5 <| o_il 1 <| o_iald <| o_add <| o_c 1 <| o_sub <| o_is 6 <| o_al 0 <| o_gf 9 6 <| o_il 5 <| o_al 0 <| o_gf 9 6 <| o_il 6 <| o_iald <| o_iast <| o_al 0 <| o_gf 9 7 <| o_il 5 <| o_al 0 <| o_gf 9 7 <| o_il 6 <| o_zald <| o_zast <| o_al 0 <| o_gf 9 5 <| o_il 1 <| o_dup2 <| o_iald <| o_c 1 <| o_sub <| o_iast <| o_c 1 <| t_zret Q
def b_X11_pin_101 (d : Nat) (G : Nat → zK) (Q : zQ) : zK := o_c 0 <| t_zret Q
def b_X11_pin_96 (d : Nat) (G : Nat → zK) (Q : zQ) : zK := o_il 5 <| t_zlt (b_X11_pin_101 d G Q) (b_X11_pin_103 d G Q)
def b_X11_pin_48 (d : Nat) (G : Nat → zK) (Q : zQ) : zK := o_c 0 <| t_zret Q
def b_X11_pin_50 (d : Nat) (G : Nat → zK) (Q : zQ) : zK := o_al 0 <| o_gf 9 6 <| o_c 8 <| o_il 1 <| o_mul <| o_al 0 <| o_gf 9 5 <| o_il 1 <| o_iald <| o_add <| o_il 2 <| o_iast <| o_al 0 <| o_gf 9 7 <| o_c 8 <| o_il 1 <| o_mul <| o_al 0 <| o_gf 9 5 <| o_il 1 <| o_iald <| o_add <| o_il 3 <| o_zast <| o_al 0 <| o_gf 9 5 <| o_il 1 <| o_dup2 <| o_iald <| o_c 1 <| o_add <| o_iast <| o_c 1 <| t_zret Q
def b_X11_pin_39 (d : Nat) (G : Nat → zK) (Q : zQ) : zK := o_al 0 <| o_il 1 <| o_il 2 <| o_callv (zCt (d - 1) mX11_where) 9 3 <| t_zlt (b_X11_pin_48 d G Q) (b_X11_pin_50 d G Q)
def b_X11_pin_28 (d : Nat) (G : Nat → zK) (Q : zQ) : zK := o_al 0 <| o_gf 9 5 <| o_il 1 <| o_iald <| o_c 8 <| t_ieq (b_X11_pin_48 d G Q) (b_X11_pin_39 d G Q)
def b_X11_pin_23 (d : Nat) (G : Nat → zK) (Q : zQ) : zK := o_il 5 <| t_zlt (b_X11_pin_28 d G Q) (b_X11_pin_48 d G Q)
def b_X11_pin_9 (d : Nat) (G : Nat → zK) (Q : zQ) : zK := o_al 0 <| o_il 1 <| o_il 2 <| o_il 3 <| o_callv (zCt (d - 1) mX11_pinAt) 9 4 <| o_is 5 <| o_il 4 <| t_zeq (b_X11_pin_96 d G Q) (b_X11_pin_23 d G Q)
def b_X11_pin_7 (d : Nat) (G : Nat → zK) (Q : zQ) : zK := o_c 0 <| t_zret Q
def b_X11_pin_0 (d : Nat) (G : Nat → zK) (Q : zQ) : zK := o_il 1 <| o_call (zCt (d - 1) mX11_isStore) 1 <| t_zeq (b_X11_pin_7 d G Q) (b_X11_pin_9 d G Q)
set_option maxRecDepth 20000 in
theorem k_X11_pin_103 {p : Program} {l : Launch} {e : Env} {s : State} {m : MethodId} {args : Array Value} {below : List Frame} {meth : Method} {c : Code} {E : zE} {d : Nat} {Q : zQ} (hd1 : 1 ≤ d) (B : zB p s m args c E mX11_pin.1.cls mX11_pin.2.1 mX11_pin.2.2.1) (hr : meth.sig.returnType = mX11_pin.2.2.2) (hlk : meth.locks = false) : zLk (zG p l e (zrm d) s m args below meth c E mX11_pin.2.2.1 0 0 (MQ below (zQc E Q) args s 0 0 (zaA E))) 103 (b_X11_pin_103 d (zG p l e (zrm d) s m args below meth c E mX11_pin.2.2.1 0 0 (MQ below (zQc E Q) args s 0 0 (zaA E))) Q) := by
  unfold b_X11_pin_103
  exact lk_b B dX11_pin_103 rfl (lk_iln B dX11_pin_105 rfl (lk_mul B dX11_pin_106 (lk_aln B dX11_pin_107 rfl (lk_gf (T := TX11) B cl_X11 (by decide) in_X11 zw_793 dX11_pin_108 (lk_iln B dX11_pin_111 rfl (lk_iald B dX11_pin_112 (lk_add B dX11_pin_113 (lk_c B dX11_pin_114 (lk_sub B dX11_pin_115 (lk_is B dX11_pin_116 (by decide) (lk_aln B dX11_pin_118 rfl (lk_gf (T := TX11) B cl_X11 (by decide) in_X11 zw_794 dX11_pin_119 (lk_il B dX11_pin_122 (lk_aln B dX11_pin_124 rfl (lk_gf (T := TX11) B cl_X11 (by decide) in_X11 zw_794 dX11_pin_125 (lk_il B dX11_pin_128 (lk_iald B dX11_pin_130 (lk_iast B dX11_pin_131 (lk_aln B dX11_pin_132 rfl (lk_gf (T := TX11) B cl_X11 (by decide) in_X11 zw_795 dX11_pin_133 (lk_il B dX11_pin_136 (lk_aln B dX11_pin_138 rfl (lk_gf (T := TX11) B cl_X11 (by decide) in_X11 zw_795 dX11_pin_139 (lk_il B dX11_pin_142 (lk_zald B dX11_pin_144 (lk_zast B dX11_pin_145 (lk_aln B dX11_pin_146 rfl (lk_gf (T := TX11) B cl_X11 (by decide) in_X11 zw_793 dX11_pin_147 (lk_iln B dX11_pin_150 rfl (lk_dup2 B dX11_pin_151 (lk_iald B dX11_pin_152 (lk_c B dX11_pin_153 (lk_sub B dX11_pin_154 (lk_iast B dX11_pin_155 (lk_c B dX11_pin_156 (lk_zret B hr hlk dX11_pin_157))))))))))))))))))))))))))))))))))))
set_option maxRecDepth 20000 in
theorem k_X11_pin_101 {p : Program} {l : Launch} {e : Env} {s : State} {m : MethodId} {args : Array Value} {below : List Frame} {meth : Method} {c : Code} {E : zE} {d : Nat} {Q : zQ} (hd1 : 1 ≤ d) (B : zB p s m args c E mX11_pin.1.cls mX11_pin.2.1 mX11_pin.2.2.1) (hr : meth.sig.returnType = mX11_pin.2.2.2) (hlk : meth.locks = false) : zLk (zG p l e (zrm d) s m args below meth c E mX11_pin.2.2.1 0 0 (MQ below (zQc E Q) args s 0 0 (zaA E))) 101 (b_X11_pin_101 d (zG p l e (zrm d) s m args below meth c E mX11_pin.2.2.1 0 0 (MQ below (zQc E Q) args s 0 0 (zaA E))) Q) := by
  unfold b_X11_pin_101
  exact lk_c B dX11_pin_101 (lk_zret B hr hlk dX11_pin_102)
set_option maxRecDepth 20000 in
theorem k_X11_pin_96 {p : Program} {l : Launch} {e : Env} {s : State} {m : MethodId} {args : Array Value} {below : List Frame} {meth : Method} {c : Code} {E : zE} {d : Nat} {Q : zQ} (hd1 : 1 ≤ d) (B : zB p s m args c E mX11_pin.1.cls mX11_pin.2.1 mX11_pin.2.2.1) (hr : meth.sig.returnType = mX11_pin.2.2.2) (hlk : meth.locks = false) : zLk (zG p l e (zrm d) s m args below meth c E mX11_pin.2.2.1 0 0 (MQ below (zQc E Q) args s 0 0 (zaA E))) 96 (b_X11_pin_96 d (zG p l e (zrm d) s m args below meth c E mX11_pin.2.2.1 0 0 (MQ below (zQc E Q) args s 0 0 (zaA E))) Q) := by
  unfold b_X11_pin_96
  exact lk_il B dX11_pin_96 (lk_zge B dX11_pin_98 (by decide) (k_X11_pin_103 hd1 B hr hlk) (k_X11_pin_101 hd1 B hr hlk))
set_option maxRecDepth 20000 in
theorem k_X11_pin_48 {p : Program} {l : Launch} {e : Env} {s : State} {m : MethodId} {args : Array Value} {below : List Frame} {meth : Method} {c : Code} {E : zE} {d : Nat} {Q : zQ} (hd1 : 1 ≤ d) (B : zB p s m args c E mX11_pin.1.cls mX11_pin.2.1 mX11_pin.2.2.1) (hr : meth.sig.returnType = mX11_pin.2.2.2) (hlk : meth.locks = false) : zLk (zG p l e (zrm d) s m args below meth c E mX11_pin.2.2.1 0 0 (MQ below (zQc E Q) args s 0 0 (zaA E))) 48 (b_X11_pin_48 d (zG p l e (zrm d) s m args below meth c E mX11_pin.2.2.1 0 0 (MQ below (zQc E Q) args s 0 0 (zaA E))) Q) := by
  unfold b_X11_pin_48
  exact lk_c B dX11_pin_48 (lk_zret B hr hlk dX11_pin_49)
set_option maxRecDepth 20000 in
theorem k_X11_pin_50 {p : Program} {l : Launch} {e : Env} {s : State} {m : MethodId} {args : Array Value} {below : List Frame} {meth : Method} {c : Code} {E : zE} {d : Nat} {Q : zQ} (hd1 : 1 ≤ d) (B : zB p s m args c E mX11_pin.1.cls mX11_pin.2.1 mX11_pin.2.2.1) (hr : meth.sig.returnType = mX11_pin.2.2.2) (hlk : meth.locks = false) : zLk (zG p l e (zrm d) s m args below meth c E mX11_pin.2.2.1 0 0 (MQ below (zQc E Q) args s 0 0 (zaA E))) 50 (b_X11_pin_50 d (zG p l e (zrm d) s m args below meth c E mX11_pin.2.2.1 0 0 (MQ below (zQc E Q) args s 0 0 (zaA E))) Q) := by
  unfold b_X11_pin_50
  exact lk_aln B dX11_pin_50 rfl (lk_gf (T := TX11) B cl_X11 (by decide) in_X11 zw_794 dX11_pin_51 (lk_b B dX11_pin_54 rfl (lk_iln B dX11_pin_56 rfl (lk_mul B dX11_pin_57 (lk_aln B dX11_pin_58 rfl (lk_gf (T := TX11) B cl_X11 (by decide) in_X11 zw_793 dX11_pin_59 (lk_iln B dX11_pin_62 rfl (lk_iald B dX11_pin_63 (lk_add B dX11_pin_64 (lk_iln B dX11_pin_65 rfl (lk_iast B dX11_pin_66 (lk_aln B dX11_pin_67 rfl (lk_gf (T := TX11) B cl_X11 (by decide) in_X11 zw_795 dX11_pin_68 (lk_b B dX11_pin_71 rfl (lk_iln B dX11_pin_73 rfl (lk_mul B dX11_pin_74 (lk_aln B dX11_pin_75 rfl (lk_gf (T := TX11) B cl_X11 (by decide) in_X11 zw_793 dX11_pin_76 (lk_iln B dX11_pin_79 rfl (lk_iald B dX11_pin_80 (lk_add B dX11_pin_81 (lk_iln B dX11_pin_82 rfl (lk_zast B dX11_pin_83 (lk_aln B dX11_pin_84 rfl (lk_gf (T := TX11) B cl_X11 (by decide) in_X11 zw_793 dX11_pin_85 (lk_iln B dX11_pin_88 rfl (lk_dup2 B dX11_pin_89 (lk_iald B dX11_pin_90 (lk_c B dX11_pin_91 (lk_add B dX11_pin_92 (lk_iast B dX11_pin_93 (lk_c B dX11_pin_94 (lk_zret B hr hlk dX11_pin_95)))))))))))))))))))))))))))))))))
set_option maxRecDepth 20000 in
theorem k_X11_pin_39 {p : Program} {l : Launch} {e : Env} {s : State} {m : MethodId} {args : Array Value} {below : List Frame} {meth : Method} {c : Code} {E : zE} {d : Nat} {Q : zQ} (hd1 : 1 ≤ d) (B : zB p s m args c E mX11_pin.1.cls mX11_pin.2.1 mX11_pin.2.2.1) (hr : meth.sig.returnType = mX11_pin.2.2.2) (hlk : meth.locks = false) : zLk (zG p l e (zrm d) s m args below meth c E mX11_pin.2.2.1 0 0 (MQ below (zQc E Q) args s 0 0 (zaA E))) 39 (b_X11_pin_39 d (zG p l e (zrm d) s m args below meth c E mX11_pin.2.2.1 0 0 (MQ below (zQc E Q) args s 0 0 (zaA E))) Q) := by
  unfold b_X11_pin_39
  exact lk_aln B dX11_pin_39 rfl (lk_iln B dX11_pin_40 rfl (lk_iln B dX11_pin_41 rfl (lk_callv (M := mX11_where) (T := TX11) (N := 41) B (zhR hd1 (by decide)) ⟨Nat.zero_le _, Nat.zero_le _⟩ cl_X11 (zw5 zw_963 zw_960 zw_962 zw_20 zw_58) (by decide +kernel) dX11_pin_42 (lk_zge B dX11_pin_45 (by decide) (k_X11_pin_50 hd1 B hr hlk) (k_X11_pin_48 hd1 B hr hlk)))))
set_option maxRecDepth 20000 in
theorem k_X11_pin_28 {p : Program} {l : Launch} {e : Env} {s : State} {m : MethodId} {args : Array Value} {below : List Frame} {meth : Method} {c : Code} {E : zE} {d : Nat} {Q : zQ} (hd1 : 1 ≤ d) (B : zB p s m args c E mX11_pin.1.cls mX11_pin.2.1 mX11_pin.2.2.1) (hr : meth.sig.returnType = mX11_pin.2.2.2) (hlk : meth.locks = false) : zLk (zG p l e (zrm d) s m args below meth c E mX11_pin.2.2.1 0 0 (MQ below (zQc E Q) args s 0 0 (zaA E))) 28 (b_X11_pin_28 d (zG p l e (zrm d) s m args below meth c E mX11_pin.2.2.1 0 0 (MQ below (zQc E Q) args s 0 0 (zaA E))) Q) := by
  unfold b_X11_pin_28
  exact lk_aln B dX11_pin_28 rfl (lk_gf (T := TX11) B cl_X11 (by decide) in_X11 zw_793 dX11_pin_29 (lk_iln B dX11_pin_32 rfl (lk_iald B dX11_pin_33 (lk_b B dX11_pin_34 rfl (lk_ieq B dX11_pin_36 (by decide) (k_X11_pin_48 hd1 B hr hlk) (k_X11_pin_39 hd1 B hr hlk))))))
set_option maxRecDepth 20000 in
theorem k_X11_pin_23 {p : Program} {l : Launch} {e : Env} {s : State} {m : MethodId} {args : Array Value} {below : List Frame} {meth : Method} {c : Code} {E : zE} {d : Nat} {Q : zQ} (hd1 : 1 ≤ d) (B : zB p s m args c E mX11_pin.1.cls mX11_pin.2.1 mX11_pin.2.2.1) (hr : meth.sig.returnType = mX11_pin.2.2.2) (hlk : meth.locks = false) : zLk (zG p l e (zrm d) s m args below meth c E mX11_pin.2.2.1 0 0 (MQ below (zQc E Q) args s 0 0 (zaA E))) 23 (b_X11_pin_23 d (zG p l e (zrm d) s m args below meth c E mX11_pin.2.2.1 0 0 (MQ below (zQc E Q) args s 0 0 (zaA E))) Q) := by
  unfold b_X11_pin_23
  exact lk_il B dX11_pin_23 (lk_zge B dX11_pin_25 (by decide) (k_X11_pin_48 hd1 B hr hlk) (k_X11_pin_28 hd1 B hr hlk))
set_option maxRecDepth 20000 in
theorem k_X11_pin_9 {p : Program} {l : Launch} {e : Env} {s : State} {m : MethodId} {args : Array Value} {below : List Frame} {meth : Method} {c : Code} {E : zE} {d : Nat} {Q : zQ} (hd1 : 1 ≤ d) (B : zB p s m args c E mX11_pin.1.cls mX11_pin.2.1 mX11_pin.2.2.1) (hr : meth.sig.returnType = mX11_pin.2.2.2) (hlk : meth.locks = false) : zLk (zG p l e (zrm d) s m args below meth c E mX11_pin.2.2.1 0 0 (MQ below (zQc E Q) args s 0 0 (zaA E))) 9 (b_X11_pin_9 d (zG p l e (zrm d) s m args below meth c E mX11_pin.2.2.1 0 0 (MQ below (zQc E Q) args s 0 0 (zaA E))) Q) := by
  unfold b_X11_pin_9
  exact lk_aln B dX11_pin_9 rfl (lk_iln B dX11_pin_10 rfl (lk_iln B dX11_pin_11 rfl (lk_iln B dX11_pin_12 rfl (lk_callv (M := mX11_pinAt) (T := TX11) (N := 41) B (zhR hd1 (by decide)) ⟨Nat.zero_le _, Nat.zero_le _⟩ cl_X11 (zw5 zw_1085 zw_1082 zw_1084 zw_41 zw_58) (by decide +kernel) dX11_pin_13 (lk_is B dX11_pin_16 (by decide) (lk_il B dX11_pin_18 (lk_zeq B dX11_pin_20 (by decide) (k_X11_pin_96 hd1 B hr hlk) (k_X11_pin_23 hd1 B hr hlk))))))))
set_option maxRecDepth 20000 in
theorem k_X11_pin_7 {p : Program} {l : Launch} {e : Env} {s : State} {m : MethodId} {args : Array Value} {below : List Frame} {meth : Method} {c : Code} {E : zE} {d : Nat} {Q : zQ} (hd1 : 1 ≤ d) (B : zB p s m args c E mX11_pin.1.cls mX11_pin.2.1 mX11_pin.2.2.1) (hr : meth.sig.returnType = mX11_pin.2.2.2) (hlk : meth.locks = false) : zLk (zG p l e (zrm d) s m args below meth c E mX11_pin.2.2.1 0 0 (MQ below (zQc E Q) args s 0 0 (zaA E))) 7 (b_X11_pin_7 d (zG p l e (zrm d) s m args below meth c E mX11_pin.2.2.1 0 0 (MQ below (zQc E Q) args s 0 0 (zaA E))) Q) := by
  unfold b_X11_pin_7
  exact lk_c B dX11_pin_7 (lk_zret B hr hlk dX11_pin_8)
set_option maxRecDepth 20000 in
theorem k_X11_pin_0 {p : Program} {l : Launch} {e : Env} {s : State} {m : MethodId} {args : Array Value} {below : List Frame} {meth : Method} {c : Code} {E : zE} {d : Nat} {Q : zQ} (hd1 : 1 ≤ d) (B : zB p s m args c E mX11_pin.1.cls mX11_pin.2.1 mX11_pin.2.2.1) (hr : meth.sig.returnType = mX11_pin.2.2.2) (hlk : meth.locks = false) : zLk (zG p l e (zrm d) s m args below meth c E mX11_pin.2.2.1 0 0 (MQ below (zQc E Q) args s 0 0 (zaA E))) 0 (b_X11_pin_0 d (zG p l e (zrm d) s m args below meth c E mX11_pin.2.2.1 0 0 (MQ below (zQc E Q) args s 0 0 (zaA E))) Q) := by
  unfold b_X11_pin_0
  exact lk_iln B dX11_pin_0 rfl (lk_calls (M := mX11_isStore) B (zhR hd1 (by decide)) ⟨Nat.zero_le _, Nat.zero_le _⟩ (zw4 zw_944 zw_942 zw_943 zw_58) (by decide +kernel) dX11_pin_1 (lk_zne B dX11_pin_4 (by decide) (k_X11_pin_9 hd1 B hr hlk) (k_X11_pin_7 hd1 B hr hlk)))
def S_X11_pin (d : Nat) (G : Nat → zK) (Q : zQ) : Prop := zLk G 0 (b_X11_pin_0 d G Q)
theorem s_X11_pin_0 {d : Nat} {G : Nat → zK} {Q : zQ} (h : S_X11_pin d G Q) {ls st : List zV} {μ : zM} (k : b_X11_pin_0 d G Q ls st μ) : G 0 ls st μ := h ls st μ k
theorem of_X11_pin {d : Nat} {a0 a1 a2 a3 a4 : zV} {μ : zM} {Q : zQ} (hd1 : 1 ≤ d) (h : ∀ G : Nat → zK, S_X11_pin d G Q → G 0 [a0, a1, a2, a3, a4, .inr none, .inr none] [] μ) : zCt d mX11_pin [a0, a1, a2, a3, a4] μ Q := zCt.mk (by decide) (Nat.le_of_ble_eq_true rfl) (fun p l e s m args below meth c E B hr hlk => h _ (k_X11_pin_0 hd1 B hr hlk))
theorem dX11_collect_0 : decode cX11_collect 0 = .ok (.iload_n 1, 1) := by decide +kernel
theorem dX11_collect_1 : decode cX11_collect 1 = .ok (.invokestatic 132, 3) := by decide +kernel
theorem dX11_collect_4 : decode cX11_collect 4 = .ok (.ifCond .ne 5, 3) := by decide +kernel
theorem dX11_collect_7 : decode cX11_collect 7 = .ok (.iconst (-1), 1) := by decide +kernel
theorem dX11_collect_8 : decode cX11_collect 8 = .ok (.ireturn, 1) := by decide +kernel
theorem dX11_collect_9 : decode cX11_collect 9 = .ok (.bipush 64, 2) := by decide +kernel
theorem dX11_collect_11 : decode cX11_collect 11 = .ok (.iload_n 1, 1) := by decide +kernel
theorem dX11_collect_12 : decode cX11_collect 12 = .ok (.imul, 1) := by decide +kernel
theorem dX11_collect_13 : decode cX11_collect 13 = .ok (.istore_n 2, 1) := by decide +kernel
theorem dX11_collect_14 : decode cX11_collect 14 = .ok (.iload_n 2, 1) := by decide +kernel
theorem dX11_collect_15 : decode cX11_collect 15 = .ok (.bipush 64, 2) := by decide +kernel
theorem dX11_collect_17 : decode cX11_collect 17 = .ok (.iload_n 1, 1) := by decide +kernel
theorem dX11_collect_18 : decode cX11_collect 18 = .ok (.imul, 1) := by decide +kernel
theorem dX11_collect_19 : decode cX11_collect 19 = .ok (.bipush 64, 2) := by decide +kernel
theorem dX11_collect_21 : decode cX11_collect 21 = .ok (.iadd, 1) := by decide +kernel
theorem dX11_collect_22 : decode cX11_collect 22 = .ok (.if_icmp .ge 16, 3) := by decide +kernel
theorem dX11_collect_25 : decode cX11_collect 25 = .ok (.aload_n 0, 1) := by decide +kernel
theorem dX11_collect_26 : decode cX11_collect 26 = .ok (.getfield 22, 3) := by decide +kernel
theorem dX11_collect_29 : decode cX11_collect 29 = .ok (.iload_n 2, 1) := by decide +kernel
theorem dX11_collect_30 : decode cX11_collect 30 = .ok (.iconst 0, 1) := by decide +kernel
theorem dX11_collect_31 : decode cX11_collect 31 = .ok (.bastore, 1) := by decide +kernel
theorem dX11_collect_32 : decode cX11_collect 32 = .ok (.iinc 2 1, 3) := by decide +kernel
theorem dX11_collect_35 : decode cX11_collect 35 = .ok (.goto (-21), 3) := by decide +kernel
theorem dX11_collect_38 : decode cX11_collect 38 = .ok (.aload_n 0, 1) := by decide +kernel
theorem dX11_collect_39 : decode cX11_collect 39 = .ok (.invokevirtual 223, 3) := by decide +kernel
theorem dX11_collect_42 : decode cX11_collect 42 = .ok (.bipush 8, 2) := by decide +kernel
theorem dX11_collect_44 : decode cX11_collect 44 = .ok (.iload_n 1, 1) := by decide +kernel
theorem dX11_collect_45 : decode cX11_collect 45 = .ok (.imul, 1) := by decide +kernel
theorem dX11_collect_46 : decode cX11_collect 46 = .ok (.istore_n 2, 1) := by decide +kernel
theorem dX11_collect_47 : decode cX11_collect 47 = .ok (.iload_n 2, 1) := by decide +kernel
theorem dX11_collect_48 : decode cX11_collect 48 = .ok (.bipush 8, 2) := by decide +kernel
theorem dX11_collect_50 : decode cX11_collect 50 = .ok (.iload_n 1, 1) := by decide +kernel
theorem dX11_collect_51 : decode cX11_collect 51 = .ok (.imul, 1) := by decide +kernel
theorem dX11_collect_52 : decode cX11_collect 52 = .ok (.aload_n 0, 1) := by decide +kernel
theorem dX11_collect_53 : decode cX11_collect 53 = .ok (.getfield 26, 3) := by decide +kernel
theorem dX11_collect_56 : decode cX11_collect 56 = .ok (.iload_n 1, 1) := by decide +kernel
theorem dX11_collect_57 : decode cX11_collect 57 = .ok (.iaload, 1) := by decide +kernel
theorem dX11_collect_58 : decode cX11_collect 58 = .ok (.iadd, 1) := by decide +kernel
theorem dX11_collect_59 : decode cX11_collect 59 = .ok (.if_icmp .ge 29, 3) := by decide +kernel
theorem dX11_collect_62 : decode cX11_collect 62 = .ok (.aload_n 0, 1) := by decide +kernel
theorem dX11_collect_63 : decode cX11_collect 63 = .ok (.getfield 32, 3) := by decide +kernel
theorem dX11_collect_66 : decode cX11_collect 66 = .ok (.iload_n 2, 1) := by decide +kernel
theorem dX11_collect_67 : decode cX11_collect 67 = .ok (.baload, 1) := by decide +kernel
theorem dX11_collect_68 : decode cX11_collect 68 = .ok (.ifCond .eq 14, 3) := by decide +kernel
theorem dX11_collect_71 : decode cX11_collect 71 = .ok (.aload_n 0, 1) := by decide +kernel
theorem dX11_collect_72 : decode cX11_collect 72 = .ok (.iload_n 1, 1) := by decide +kernel
theorem dX11_collect_73 : decode cX11_collect 73 = .ok (.aload_n 0, 1) := by decide +kernel
theorem dX11_collect_74 : decode cX11_collect 74 = .ok (.getfield 29, 3) := by decide +kernel
theorem dX11_collect_77 : decode cX11_collect 77 = .ok (.iload_n 2, 1) := by decide +kernel
theorem dX11_collect_78 : decode cX11_collect 78 = .ok (.iaload, 1) := by decide +kernel
theorem dX11_collect_79 : decode cX11_collect 79 = .ok (.invokevirtual 226, 3) := by decide +kernel
theorem dX11_collect_82 : decode cX11_collect 82 = .ok (.iinc 2 1, 3) := by decide +kernel
theorem dX11_collect_85 : decode cX11_collect 85 = .ok (.goto (-38), 3) := by decide +kernel
theorem dX11_collect_88 : decode cX11_collect 88 = .ok (.aload_n 0, 1) := by decide +kernel
theorem dX11_collect_89 : decode cX11_collect 89 = .ok (.getfield 35, 3) := by decide +kernel
theorem dX11_collect_92 : decode cX11_collect 92 = .ok (.iload_n 1, 1) := by decide +kernel
theorem dX11_collect_93 : decode cX11_collect 93 = .ok (.iaload, 1) := by decide +kernel
theorem dX11_collect_94 : decode cX11_collect 94 = .ok (.iconst 1, 1) := by decide +kernel
theorem dX11_collect_95 : decode cX11_collect 95 = .ok (.if_icmp .ne 14, 3) := by decide +kernel
theorem dX11_collect_98 : decode cX11_collect 98 = .ok (.aload_n 0, 1) := by decide +kernel
theorem dX11_collect_99 : decode cX11_collect 99 = .ok (.iload_n 1, 1) := by decide +kernel
theorem dX11_collect_100 : decode cX11_collect 100 = .ok (.aload_n 0, 1) := by decide +kernel
theorem dX11_collect_101 : decode cX11_collect 101 = .ok (.getfield 38, 3) := by decide +kernel
theorem dX11_collect_104 : decode cX11_collect 104 = .ok (.iload_n 1, 1) := by decide +kernel
theorem dX11_collect_105 : decode cX11_collect 105 = .ok (.iaload, 1) := by decide +kernel
theorem dX11_collect_106 : decode cX11_collect 106 = .ok (.invokevirtual 226, 3) := by decide +kernel
theorem dX11_collect_109 : decode cX11_collect 109 = .ok (.bipush 8, 2) := by decide +kernel
theorem dX11_collect_111 : decode cX11_collect 111 = .ok (.iload_n 1, 1) := by decide +kernel
theorem dX11_collect_112 : decode cX11_collect 112 = .ok (.imul, 1) := by decide +kernel
theorem dX11_collect_113 : decode cX11_collect 113 = .ok (.istore_n 2, 1) := by decide +kernel
theorem dX11_collect_114 : decode cX11_collect 114 = .ok (.iload_n 2, 1) := by decide +kernel
theorem dX11_collect_115 : decode cX11_collect 115 = .ok (.bipush 8, 2) := by decide +kernel
theorem dX11_collect_117 : decode cX11_collect 117 = .ok (.iload_n 1, 1) := by decide +kernel
theorem dX11_collect_118 : decode cX11_collect 118 = .ok (.imul, 1) := by decide +kernel
theorem dX11_collect_119 : decode cX11_collect 119 = .ok (.aload_n 0, 1) := by decide +kernel
theorem dX11_collect_120 : decode cX11_collect 120 = .ok (.getfield 26, 3) := by decide +kernel
theorem dX11_collect_123 : decode cX11_collect 123 = .ok (.iload_n 1, 1) := by decide +kernel
theorem dX11_collect_124 : decode cX11_collect 124 = .ok (.iaload, 1) := by decide +kernel
theorem dX11_collect_125 : decode cX11_collect 125 = .ok (.iadd, 1) := by decide +kernel
theorem dX11_collect_126 : decode cX11_collect 126 = .ok (.if_icmp .ge 32, 3) := by decide +kernel
theorem dX11_collect_129 : decode cX11_collect 129 = .ok (.aload_n 0, 1) := by decide +kernel
theorem dX11_collect_130 : decode cX11_collect 130 = .ok (.iload_n 1, 1) := by decide +kernel
theorem dX11_collect_131 : decode cX11_collect 131 = .ok (.aload_n 0, 1) := by decide +kernel
theorem dX11_collect_132 : decode cX11_collect 132 = .ok (.getfield 29, 3) := by decide +kernel
theorem dX11_collect_135 : decode cX11_collect 135 = .ok (.iload_n 2, 1) := by decide +kernel
theorem dX11_collect_136 : decode cX11_collect 136 = .ok (.iaload, 1) := by decide +kernel
theorem dX11_collect_137 : decode cX11_collect 137 = .ok (.invokevirtual 144, 3) := by decide +kernel
theorem dX11_collect_140 : decode cX11_collect 140 = .ok (.istore_n 3, 1) := by decide +kernel
theorem dX11_collect_141 : decode cX11_collect 141 = .ok (.iload_n 3, 1) := by decide +kernel
theorem dX11_collect_142 : decode cX11_collect 142 = .ok (.ifCond .lt 10, 3) := by decide +kernel
theorem dX11_collect_145 : decode cX11_collect 145 = .ok (.aload_n 0, 1) := by decide +kernel
theorem dX11_collect_146 : decode cX11_collect 146 = .ok (.getfield 22, 3) := by decide +kernel
theorem dX11_collect_149 : decode cX11_collect 149 = .ok (.iload_n 3, 1) := by decide +kernel
theorem dX11_collect_150 : decode cX11_collect 150 = .ok (.iconst 1, 1) := by decide +kernel
theorem dX11_collect_151 : decode cX11_collect 151 = .ok (.bastore, 1) := by decide +kernel
theorem dX11_collect_152 : decode cX11_collect 152 = .ok (.iinc 2 1, 3) := by decide +kernel
theorem dX11_collect_155 : decode cX11_collect 155 = .ok (.goto (-41), 3) := by decide +kernel
theorem dX11_collect_158 : decode cX11_collect 158 = .ok (.iconst 0, 1) := by decide +kernel
theorem dX11_collect_159 : decode cX11_collect 159 = .ok (.istore_n 2, 1) := by decide +kernel
theorem dX11_collect_160 : decode cX11_collect 160 = .ok (.bipush 64, 2) := by decide +kernel
theorem dX11_collect_162 : decode cX11_collect 162 = .ok (.iload_n 1, 1) := by decide +kernel
theorem dX11_collect_163 : decode cX11_collect 163 = .ok (.imul, 1) := by decide +kernel
theorem dX11_collect_164 : decode cX11_collect 164 = .ok (.istore_n 3, 1) := by decide +kernel
theorem dX11_collect_165 : decode cX11_collect 165 = .ok (.iload_n 3, 1) := by decide +kernel
theorem dX11_collect_166 : decode cX11_collect 166 = .ok (.bipush 64, 2) := by decide +kernel
theorem dX11_collect_168 : decode cX11_collect 168 = .ok (.iload_n 1, 1) := by decide +kernel
theorem dX11_collect_169 : decode cX11_collect 169 = .ok (.imul, 1) := by decide +kernel
theorem dX11_collect_170 : decode cX11_collect 170 = .ok (.aload_n 0, 1) := by decide +kernel
theorem dX11_collect_171 : decode cX11_collect 171 = .ok (.getfield 7, 3) := by decide +kernel
theorem dX11_collect_174 : decode cX11_collect 174 = .ok (.iload_n 1, 1) := by decide +kernel
theorem dX11_collect_175 : decode cX11_collect 175 = .ok (.iaload, 1) := by decide +kernel
theorem dX11_collect_176 : decode cX11_collect 176 = .ok (.iadd, 1) := by decide +kernel
theorem dX11_collect_177 : decode cX11_collect 177 = .ok (.if_icmp .ge 99, 3) := by decide +kernel
theorem dX11_collect_180 : decode cX11_collect 180 = .ok (.aload_n 0, 1) := by decide +kernel
theorem dX11_collect_181 : decode cX11_collect 181 = .ok (.getfield 22, 3) := by decide +kernel
theorem dX11_collect_184 : decode cX11_collect 184 = .ok (.iload_n 3, 1) := by decide +kernel
theorem dX11_collect_185 : decode cX11_collect 185 = .ok (.baload, 1) := by decide +kernel
theorem dX11_collect_186 : decode cX11_collect 186 = .ok (.ifCond .ne 6, 3) := by decide +kernel
theorem dX11_collect_189 : decode cX11_collect 189 = .ok (.goto 81, 3) := by decide +kernel
theorem dX11_collect_192 : decode cX11_collect 192 = .ok (.bipush 64, 2) := by decide +kernel
theorem dX11_collect_194 : decode cX11_collect 194 = .ok (.iload_n 1, 1) := by decide +kernel
theorem dX11_collect_195 : decode cX11_collect 195 = .ok (.imul, 1) := by decide +kernel
theorem dX11_collect_196 : decode cX11_collect 196 = .ok (.iload_n 2, 1) := by decide +kernel
theorem dX11_collect_197 : decode cX11_collect 197 = .ok (.iadd, 1) := by decide +kernel
theorem dX11_collect_198 : decode cX11_collect 198 = .ok (.istore 4, 2) := by decide +kernel
theorem dX11_collect_200 : decode cX11_collect 200 = .ok (.aload_n 0, 1) := by decide +kernel
theorem dX11_collect_201 : decode cX11_collect 201 = .ok (.getfield 13, 3) := by decide +kernel
theorem dX11_collect_204 : decode cX11_collect 204 = .ok (.iload 4, 2) := by decide +kernel
theorem dX11_collect_206 : decode cX11_collect 206 = .ok (.aload_n 0, 1) := by decide +kernel
theorem dX11_collect_207 : decode cX11_collect 207 = .ok (.getfield 13, 3) := by decide +kernel
theorem dX11_collect_210 : decode cX11_collect 210 = .ok (.iload_n 3, 1) := by decide +kernel
theorem dX11_collect_211 : decode cX11_collect 211 = .ok (.iaload, 1) := by decide +kernel
theorem dX11_collect_212 : decode cX11_collect 212 = .ok (.iastore, 1) := by decide +kernel
theorem dX11_collect_213 : decode cX11_collect 213 = .ok (.aload_n 0, 1) := by decide +kernel
theorem dX11_collect_214 : decode cX11_collect 214 = .ok (.getfield 16, 3) := by decide +kernel
theorem dX11_collect_217 : decode cX11_collect 217 = .ok (.iload 4, 2) := by decide +kernel
theorem dX11_collect_219 : decode cX11_collect 219 = .ok (.aload_n 0, 1) := by decide +kernel
theorem dX11_collect_220 : decode cX11_collect 220 = .ok (.getfield 16, 3) := by decide +kernel
theorem dX11_collect_223 : decode cX11_collect 223 = .ok (.iload_n 3, 1) := by decide +kernel
theorem dX11_collect_224 : decode cX11_collect 224 = .ok (.iaload, 1) := by decide +kernel
theorem dX11_collect_225 : decode cX11_collect 225 = .ok (.iastore, 1) := by decide +kernel
theorem dX11_collect_226 : decode cX11_collect 226 = .ok (.iconst 0, 1) := by decide +kernel
theorem dX11_collect_227 : decode cX11_collect 227 = .ok (.istore 5, 2) := by decide +kernel
theorem dX11_collect_229 : decode cX11_collect 229 = .ok (.iload 5, 2) := by decide +kernel
theorem dX11_collect_231 : decode cX11_collect 231 = .ok (.bipush 18, 2) := by decide +kernel
theorem dX11_collect_233 : decode cX11_collect 233 = .ok (.if_icmp .ge 34, 3) := by decide +kernel
theorem dX11_collect_236 : decode cX11_collect 236 = .ok (.aload_n 0, 1) := by decide +kernel
theorem dX11_collect_237 : decode cX11_collect 237 = .ok (.getfield 19, 3) := by decide +kernel
theorem dX11_collect_240 : decode cX11_collect 240 = .ok (.bipush 18, 2) := by decide +kernel
theorem dX11_collect_242 : decode cX11_collect 242 = .ok (.iload 4, 2) := by decide +kernel
theorem dX11_collect_244 : decode cX11_collect 244 = .ok (.imul, 1) := by decide +kernel
theorem dX11_collect_245 : decode cX11_collect 245 = .ok (.iload 5, 2) := by decide +kernel
theorem dX11_collect_247 : decode cX11_collect 247 = .ok (.iadd, 1) := by decide +kernel
theorem dX11_collect_248 : decode cX11_collect 248 = .ok (.aload_n 0, 1) := by decide +kernel
theorem dX11_collect_249 : decode cX11_collect 249 = .ok (.getfield 19, 3) := by decide +kernel
theorem dX11_collect_252 : decode cX11_collect 252 = .ok (.bipush 18, 2) := by decide +kernel
theorem dX11_collect_254 : decode cX11_collect 254 = .ok (.iload_n 3, 1) := by decide +kernel
theorem dX11_collect_255 : decode cX11_collect 255 = .ok (.imul, 1) := by decide +kernel
theorem dX11_collect_256 : decode cX11_collect 256 = .ok (.iload 5, 2) := by decide +kernel
theorem dX11_collect_258 : decode cX11_collect 258 = .ok (.iadd, 1) := by decide +kernel
theorem dX11_collect_259 : decode cX11_collect 259 = .ok (.iaload, 1) := by decide +kernel
theorem dX11_collect_260 : decode cX11_collect 260 = .ok (.iastore, 1) := by decide +kernel
theorem dX11_collect_261 : decode cX11_collect 261 = .ok (.iinc 5 1, 3) := by decide +kernel
theorem dX11_collect_264 : decode cX11_collect 264 = .ok (.goto (-35), 3) := by decide +kernel
theorem dX11_collect_267 : decode cX11_collect 267 = .ok (.iinc 2 1, 3) := by decide +kernel
theorem dX11_collect_270 : decode cX11_collect 270 = .ok (.iinc 3 1, 3) := by decide +kernel
theorem dX11_collect_273 : decode cX11_collect 273 = .ok (.goto (-108), 3) := by decide +kernel
theorem dX11_collect_276 : decode cX11_collect 276 = .ok (.aload_n 0, 1) := by decide +kernel
theorem dX11_collect_277 : decode cX11_collect 277 = .ok (.getfield 7, 3) := by decide +kernel
theorem dX11_collect_280 : decode cX11_collect 280 = .ok (.iload_n 1, 1) := by decide +kernel
theorem dX11_collect_281 : decode cX11_collect 281 = .ok (.iaload, 1) := by decide +kernel
theorem dX11_collect_282 : decode cX11_collect 282 = .ok (.iload_n 2, 1) := by decide +kernel
theorem dX11_collect_283 : decode cX11_collect 283 = .ok (.isub, 1) := by decide +kernel
theorem dX11_collect_284 : decode cX11_collect 284 = .ok (.istore_n 3, 1) := by decide +kernel
theorem dX11_collect_285 : decode cX11_collect 285 = .ok (.aload_n 0, 1) := by decide +kernel
theorem dX11_collect_286 : decode cX11_collect 286 = .ok (.getfield 7, 3) := by decide +kernel
theorem dX11_collect_289 : decode cX11_collect 289 = .ok (.iload_n 1, 1) := by decide +kernel
theorem dX11_collect_290 : decode cX11_collect 290 = .ok (.iload_n 2, 1) := by decide +kernel
theorem dX11_collect_291 : decode cX11_collect 291 = .ok (.iastore, 1) := by decide +kernel
theorem dX11_collect_292 : decode cX11_collect 292 = .ok (.iload_n 3, 1) := by decide +kernel
theorem dX11_collect_293 : decode cX11_collect 293 = .ok (.ireturn, 1) := by decide +kernel
def b_X11_collect_9 (d : Nat) (G : Nat → zK) (Q : zQ) : zK := o_c 64 <| o_il 1 <| o_mul <| o_is 2 <| G 14
def b_X11_collect_7 (d : Nat) (G : Nat → zK) (Q : zQ) : zK := o_c (-1) <| t_iret Q
def b_X11_collect_0 (d : Nat) (G : Nat → zK) (Q : zQ) : zK := o_il 1 <| o_call (zCt (d - 1) mX11_isStore) 1 <| t_zeq (b_X11_collect_7 d G Q) (b_X11_collect_9 d G Q)
def b_X11_collect_38 (d : Nat) (G : Nat → zK) (Q : zQ) : zK := o_al 0 <| o_callv (zCt (d - 1) mX11_beginWalk) 9 1 <| o_c 8 <| o_il 1 <| o_mul <| o_is 2 <| G 47
def b_X11_collect_25 (d : Nat) (G : Nat → zK) (Q : zQ) : zK := o_al 0 <| o_gf 9 4 <| o_il 2 <| o_c 0 <| o_zast <| o_inc 2 1 <| G 14
def b_X11_collect_14 (d : Nat) (G : Nat → zK) (Q : zQ) : zK := o_il 2 <| o_c 64 <| o_il 1 <| o_mul <| o_c 64 <| o_add <| t_ilt (b_X11_collect_25 d G Q) (b_X11_collect_38 d G Q)
def b_X11_collect_109 (d : Nat) (G : Nat → zK) (Q : zQ) : zK := o_c 8 <| o_il 1 <| o_mul <| o_is 2 <| G 114
def b_X11_collect_98 (d : Nat) (G : Nat → zK) (Q : zQ) : zK := o_al 0 <| o_il 1 <| o_al 0 <| o_gf 9 9 <| o_il 1 <| o_iald <| o_callv (zCt (d - 1) mX11_walk) 9 3 <| b_X11_collect_109 d G Q
def b_X11_collect_88 (d : Nat) (G : Nat → zK) (Q : zQ) : zK := o_al 0 <| o_gf 9 8 <| o_il 1 <| o_iald <| o_c 1 <| t_ieq (b_X11_collect_98 d G Q) (b_X11_collect_109 d G Q)
def b_X11_collect_82 (d : Nat) (G : Nat → zK) (Q : zQ) : zK := o_inc 2 1 <| G 47
def b_X11_collect_71 (d : Nat) (G : Nat → zK) (Q : zQ) : zK := o_al 0 <| o_il 1 <| o_al 0 <| o_gf 9 6 <| o_il 2 <| o_iald <| o_callv (zCt (d - 1) mX11_walk) 9 3 <| b_X11_collect_82 d G Q
def b_X11_collect_62 (d : Nat) (G : Nat → zK) (Q : zQ) : zK := o_al 0 <| o_gf 9 7 <| o_il 2 <| o_zald <| t_zeq (b_X11_collect_82 d G Q) (b_X11_collect_71 d G Q)
def b_X11_collect_47 (d : Nat) (G : Nat → zK) (Q : zQ) : zK := o_il 2 <| o_c 8 <| o_il 1 <| o_mul <| o_al 0 <| o_gf 9 5 <| o_il 1 <| o_iald <| o_add <| t_ilt (b_X11_collect_62 d G Q) (b_X11_collect_88 d G Q)
def b_X11_collect_158 (d : Nat) (G : Nat → zK) (Q : zQ) : zK := o_c 0 <| o_is 2 <| o_c 64 <| o_il 1 <| o_mul <| o_is 3 <| G 165
def b_X11_collect_152 (d : Nat) (G : Nat → zK) (Q : zQ) : zK := o_inc 2 1 <| G 114
def b_X11_collect_145 (d : Nat) (G : Nat → zK) (Q : zQ) : zK := o_al 0 <| o_gf 9 4 <| o_il 3 <| o_c 1 <| o_zast <| b_X11_collect_152 d G Q
def b_X11_collect_129 (d : Nat) (G : Nat → zK) (Q : zQ) : zK := o_al 0 <| o_il 1 <| o_al 0 <| o_gf 9 6 <| o_il 2 <| o_iald <| o_callv (zCt (d - 1) mX11_where) 9 3 <| o_is 3 <| o_il 3 <| t_zlt (b_X11_collect_152 d G Q) (b_X11_collect_145 d G Q)
def b_X11_collect_114 (d : Nat) (G : Nat → zK) (Q : zQ) : zK := o_il 2 <| o_c 8 <| o_il 1 <| o_mul <| o_al 0 <| o_gf 9 5 <| o_il 1 <| o_iald <| o_add <| t_ilt (b_X11_collect_129 d G Q) (b_X11_collect_158 d G Q)
def b_X11_collect_276 (d : Nat) (G : Nat → zK) (Q : zQ) : zK := o_al 0 <| o_gf 9 0 <| o_il 1 <| o_iald <| o_il 2 <| o_sub <| o_is 3 <| o_al 0 <| o_gf 9 0 <| o_il 1 <| o_il 2 <| o_iast <| o_il 3 <| t_iret Q
def b_X11_collect_192 (d : Nat) (G : Nat → zK) (Q : zQ) : zK := o_c 64 <| o_il 1 <| o_mul <| o_il 2 <| o_add <| o_is 4 <| o_al 0 <| o_gf 9 1 <| o_il 4 <| o_al 0 <| o_gf 9 1 <| o_il 3 <| o_iald <| o_iast <| o_al 0 <| o_gf 9 2 <| o_il 4 <| o_al 0 <| o_gf 9 2 <| o_il 3 <| o_iald <| o_iast <| o_c 0 <| o_is 5 <| G 229
def b_X11_collect_270 (d : Nat) (G : Nat → zK) (Q : zQ) : zK := o_inc 3 1 <| G 165
def b_X11_collect_189 (d : Nat) (G : Nat → zK) (Q : zQ) : zK := b_X11_collect_270 d G Q
def b_X11_collect_180 (d : Nat) (G : Nat → zK) (Q : zQ) : zK := o_al 0 <| o_gf 9 4 <| o_il 3 <| o_zald <| t_zeq (b_X11_collect_189 d G Q) (b_X11_collect_192 d G Q)
def b_X11_collect_165 (d : Nat) (G : Nat → zK) (Q : zQ) : zK := o_il 3 <| o_c 64 <| o_il 1 <| o_mul <| o_al 0 <| o_gf 9 0 <| o_il 1 <| o_iald <| o_add <| t_ilt (b_X11_collect_180 d G Q) (b_X11_collect_276 d G Q)
def b_X11_collect_267 (d : Nat) (G : Nat → zK) (Q : zQ) : zK := o_inc 2 1 <| b_X11_collect_270 d G Q
def b_X11_collect_236 (d : Nat) (G : Nat → zK) (Q : zQ) : zK := o_al 0 <| o_gf 9 3 <| o_c 18 <| o_il 4 <| o_mul <| o_il 5 <| o_add <| o_al 0 <| o_gf 9 3 <| o_c 18 <| o_il 3 <| o_mul <| o_il 5 <| o_add <| o_iald <| o_iast <| o_inc 5 1 <| G 229
def b_X11_collect_229 (d : Nat) (G : Nat → zK) (Q : zQ) : zK := o_il 5 <| o_c 18 <| t_ilt (b_X11_collect_236 d G Q) (b_X11_collect_267 d G Q)
set_option maxRecDepth 20000 in
theorem k_X11_collect_9 {p : Program} {l : Launch} {e : Env} {s : State} {m : MethodId} {args : Array Value} {below : List Frame} {meth : Method} {c : Code} {E : zE} {d : Nat} {Q : zQ} (hd1 : 1 ≤ d) (B : zB p s m args c E mX11_collect.1.cls mX11_collect.2.1 mX11_collect.2.2.1) (hr : meth.sig.returnType = mX11_collect.2.2.2) (hlk : meth.locks = false) : zLk (zG p l e (zrm d) s m args below meth c E mX11_collect.2.2.1 0 0 (MQ below (zQc E Q) args s 0 0 (zaA E))) 9 (b_X11_collect_9 d (zG p l e (zrm d) s m args below meth c E mX11_collect.2.2.1 0 0 (MQ below (zQc E Q) args s 0 0 (zaA E))) Q) := by
  unfold b_X11_collect_9
  exact lk_b B dX11_collect_9 rfl (lk_iln B dX11_collect_11 rfl (lk_mul B dX11_collect_12 (lk_isn B dX11_collect_13 rfl (by decide) (fun _ _ _ h => h))))
set_option maxRecDepth 20000 in
theorem k_X11_collect_7 {p : Program} {l : Launch} {e : Env} {s : State} {m : MethodId} {args : Array Value} {below : List Frame} {meth : Method} {c : Code} {E : zE} {d : Nat} {Q : zQ} (hd1 : 1 ≤ d) (B : zB p s m args c E mX11_collect.1.cls mX11_collect.2.1 mX11_collect.2.2.1) (hr : meth.sig.returnType = mX11_collect.2.2.2) (hlk : meth.locks = false) : zLk (zG p l e (zrm d) s m args below meth c E mX11_collect.2.2.1 0 0 (MQ below (zQc E Q) args s 0 0 (zaA E))) 7 (b_X11_collect_7 d (zG p l e (zrm d) s m args below meth c E mX11_collect.2.2.1 0 0 (MQ below (zQc E Q) args s 0 0 (zaA E))) Q) := by
  unfold b_X11_collect_7
  exact lk_c B dX11_collect_7 (lk_iret B hr hlk dX11_collect_8)
set_option maxRecDepth 20000 in
theorem k_X11_collect_0 {p : Program} {l : Launch} {e : Env} {s : State} {m : MethodId} {args : Array Value} {below : List Frame} {meth : Method} {c : Code} {E : zE} {d : Nat} {Q : zQ} (hd1 : 1 ≤ d) (B : zB p s m args c E mX11_collect.1.cls mX11_collect.2.1 mX11_collect.2.2.1) (hr : meth.sig.returnType = mX11_collect.2.2.2) (hlk : meth.locks = false) : zLk (zG p l e (zrm d) s m args below meth c E mX11_collect.2.2.1 0 0 (MQ below (zQc E Q) args s 0 0 (zaA E))) 0 (b_X11_collect_0 d (zG p l e (zrm d) s m args below meth c E mX11_collect.2.2.1 0 0 (MQ below (zQc E Q) args s 0 0 (zaA E))) Q) := by
  unfold b_X11_collect_0
  exact lk_iln B dX11_collect_0 rfl (lk_calls (M := mX11_isStore) B (zhR hd1 (by decide)) ⟨Nat.zero_le _, Nat.zero_le _⟩ (zw4 zw_944 zw_942 zw_943 zw_58) (by decide +kernel) dX11_collect_1 (lk_zne B dX11_collect_4 (by decide) (k_X11_collect_9 hd1 B hr hlk) (k_X11_collect_7 hd1 B hr hlk)))
set_option maxRecDepth 20000 in
theorem k_X11_collect_38 {p : Program} {l : Launch} {e : Env} {s : State} {m : MethodId} {args : Array Value} {below : List Frame} {meth : Method} {c : Code} {E : zE} {d : Nat} {Q : zQ} (hd1 : 1 ≤ d) (B : zB p s m args c E mX11_collect.1.cls mX11_collect.2.1 mX11_collect.2.2.1) (hr : meth.sig.returnType = mX11_collect.2.2.2) (hlk : meth.locks = false) : zLk (zG p l e (zrm d) s m args below meth c E mX11_collect.2.2.1 0 0 (MQ below (zQc E Q) args s 0 0 (zaA E))) 38 (b_X11_collect_38 d (zG p l e (zrm d) s m args below meth c E mX11_collect.2.2.1 0 0 (MQ below (zQc E Q) args s 0 0 (zaA E))) Q) := by
  unfold b_X11_collect_38
  exact lk_aln B dX11_collect_38 rfl (lk_callv (M := mX11_beginWalk) (T := TX11) (N := 41) B (zhR hd1 (by decide)) ⟨Nat.zero_le _, Nat.zero_le _⟩ cl_X11 (zw5 zw_983 zw_980 zw_982 zw_25 zw_58) (by decide +kernel) dX11_collect_39 (lk_b B dX11_collect_42 rfl (lk_iln B dX11_collect_44 rfl (lk_mul B dX11_collect_45 (lk_isn B dX11_collect_46 rfl (by decide) (fun _ _ _ h => h))))))
set_option maxRecDepth 20000 in
theorem k_X11_collect_25 {p : Program} {l : Launch} {e : Env} {s : State} {m : MethodId} {args : Array Value} {below : List Frame} {meth : Method} {c : Code} {E : zE} {d : Nat} {Q : zQ} (hd1 : 1 ≤ d) (B : zB p s m args c E mX11_collect.1.cls mX11_collect.2.1 mX11_collect.2.2.1) (hr : meth.sig.returnType = mX11_collect.2.2.2) (hlk : meth.locks = false) : zLk (zG p l e (zrm d) s m args below meth c E mX11_collect.2.2.1 0 0 (MQ below (zQc E Q) args s 0 0 (zaA E))) 25 (b_X11_collect_25 d (zG p l e (zrm d) s m args below meth c E mX11_collect.2.2.1 0 0 (MQ below (zQc E Q) args s 0 0 (zaA E))) Q) := by
  unfold b_X11_collect_25
  exact lk_aln B dX11_collect_25 rfl (lk_gf (T := TX11) B cl_X11 (by decide) in_X11 zw_792 dX11_collect_26 (lk_iln B dX11_collect_29 rfl (lk_c B dX11_collect_30 (lk_zast B dX11_collect_31 (lk_inc B dX11_collect_32 (by decide) (lk_goto B dX11_collect_35 (by decide) (fun _ _ _ h => h)))))))
set_option maxRecDepth 20000 in
theorem k_X11_collect_14 {p : Program} {l : Launch} {e : Env} {s : State} {m : MethodId} {args : Array Value} {below : List Frame} {meth : Method} {c : Code} {E : zE} {d : Nat} {Q : zQ} (hd1 : 1 ≤ d) (B : zB p s m args c E mX11_collect.1.cls mX11_collect.2.1 mX11_collect.2.2.1) (hr : meth.sig.returnType = mX11_collect.2.2.2) (hlk : meth.locks = false) : zLk (zG p l e (zrm d) s m args below meth c E mX11_collect.2.2.1 0 0 (MQ below (zQc E Q) args s 0 0 (zaA E))) 14 (b_X11_collect_14 d (zG p l e (zrm d) s m args below meth c E mX11_collect.2.2.1 0 0 (MQ below (zQc E Q) args s 0 0 (zaA E))) Q) := by
  unfold b_X11_collect_14
  exact lk_iln B dX11_collect_14 rfl (lk_b B dX11_collect_15 rfl (lk_iln B dX11_collect_17 rfl (lk_mul B dX11_collect_18 (lk_b B dX11_collect_19 rfl (lk_add B dX11_collect_21 (lk_ige B dX11_collect_22 (by decide) (k_X11_collect_38 hd1 B hr hlk) (k_X11_collect_25 hd1 B hr hlk)))))))
set_option maxRecDepth 20000 in
theorem k_X11_collect_109 {p : Program} {l : Launch} {e : Env} {s : State} {m : MethodId} {args : Array Value} {below : List Frame} {meth : Method} {c : Code} {E : zE} {d : Nat} {Q : zQ} (hd1 : 1 ≤ d) (B : zB p s m args c E mX11_collect.1.cls mX11_collect.2.1 mX11_collect.2.2.1) (hr : meth.sig.returnType = mX11_collect.2.2.2) (hlk : meth.locks = false) : zLk (zG p l e (zrm d) s m args below meth c E mX11_collect.2.2.1 0 0 (MQ below (zQc E Q) args s 0 0 (zaA E))) 109 (b_X11_collect_109 d (zG p l e (zrm d) s m args below meth c E mX11_collect.2.2.1 0 0 (MQ below (zQc E Q) args s 0 0 (zaA E))) Q) := by
  unfold b_X11_collect_109
  exact lk_b B dX11_collect_109 rfl (lk_iln B dX11_collect_111 rfl (lk_mul B dX11_collect_112 (lk_isn B dX11_collect_113 rfl (by decide) (fun _ _ _ h => h))))
set_option maxRecDepth 20000 in
theorem k_X11_collect_98 {p : Program} {l : Launch} {e : Env} {s : State} {m : MethodId} {args : Array Value} {below : List Frame} {meth : Method} {c : Code} {E : zE} {d : Nat} {Q : zQ} (hd1 : 1 ≤ d) (B : zB p s m args c E mX11_collect.1.cls mX11_collect.2.1 mX11_collect.2.2.1) (hr : meth.sig.returnType = mX11_collect.2.2.2) (hlk : meth.locks = false) : zLk (zG p l e (zrm d) s m args below meth c E mX11_collect.2.2.1 0 0 (MQ below (zQc E Q) args s 0 0 (zaA E))) 98 (b_X11_collect_98 d (zG p l e (zrm d) s m args below meth c E mX11_collect.2.2.1 0 0 (MQ below (zQc E Q) args s 0 0 (zaA E))) Q) := by
  unfold b_X11_collect_98
  exact lk_aln B dX11_collect_98 rfl (lk_iln B dX11_collect_99 rfl (lk_aln B dX11_collect_100 rfl (lk_gf (T := TX11) B cl_X11 (by decide) in_X11 zw_797 dX11_collect_101 (lk_iln B dX11_collect_104 rfl (lk_iald B dX11_collect_105 (lk_callv (M := mX11_walk) (T := TX11) (N := 41) B (zhR hd1 (by decide)) ⟨Nat.zero_le _, Nat.zero_le _⟩ cl_X11 (zw5 zw_987 zw_984 zw_986 zw_26 zw_58) (by decide +kernel) dX11_collect_106 (k_X11_collect_109 hd1 B hr hlk)))))))
set_option maxRecDepth 20000 in
theorem k_X11_collect_88 {p : Program} {l : Launch} {e : Env} {s : State} {m : MethodId} {args : Array Value} {below : List Frame} {meth : Method} {c : Code} {E : zE} {d : Nat} {Q : zQ} (hd1 : 1 ≤ d) (B : zB p s m args c E mX11_collect.1.cls mX11_collect.2.1 mX11_collect.2.2.1) (hr : meth.sig.returnType = mX11_collect.2.2.2) (hlk : meth.locks = false) : zLk (zG p l e (zrm d) s m args below meth c E mX11_collect.2.2.1 0 0 (MQ below (zQc E Q) args s 0 0 (zaA E))) 88 (b_X11_collect_88 d (zG p l e (zrm d) s m args below meth c E mX11_collect.2.2.1 0 0 (MQ below (zQc E Q) args s 0 0 (zaA E))) Q) := by
  unfold b_X11_collect_88
  exact lk_aln B dX11_collect_88 rfl (lk_gf (T := TX11) B cl_X11 (by decide) in_X11 zw_796 dX11_collect_89 (lk_iln B dX11_collect_92 rfl (lk_iald B dX11_collect_93 (lk_c B dX11_collect_94 (lk_ine B dX11_collect_95 (by decide) (k_X11_collect_109 hd1 B hr hlk) (k_X11_collect_98 hd1 B hr hlk))))))
set_option maxRecDepth 20000 in
theorem k_X11_collect_82 {p : Program} {l : Launch} {e : Env} {s : State} {m : MethodId} {args : Array Value} {below : List Frame} {meth : Method} {c : Code} {E : zE} {d : Nat} {Q : zQ} (hd1 : 1 ≤ d) (B : zB p s m args c E mX11_collect.1.cls mX11_collect.2.1 mX11_collect.2.2.1) (hr : meth.sig.returnType = mX11_collect.2.2.2) (hlk : meth.locks = false) : zLk (zG p l e (zrm d) s m args below meth c E mX11_collect.2.2.1 0 0 (MQ below (zQc E Q) args s 0 0 (zaA E))) 82 (b_X11_collect_82 d (zG p l e (zrm d) s m args below meth c E mX11_collect.2.2.1 0 0 (MQ below (zQc E Q) args s 0 0 (zaA E))) Q) := by
  unfold b_X11_collect_82
  exact lk_inc B dX11_collect_82 (by decide) (lk_goto B dX11_collect_85 (by decide) (fun _ _ _ h => h))
set_option maxRecDepth 20000 in
theorem k_X11_collect_71 {p : Program} {l : Launch} {e : Env} {s : State} {m : MethodId} {args : Array Value} {below : List Frame} {meth : Method} {c : Code} {E : zE} {d : Nat} {Q : zQ} (hd1 : 1 ≤ d) (B : zB p s m args c E mX11_collect.1.cls mX11_collect.2.1 mX11_collect.2.2.1) (hr : meth.sig.returnType = mX11_collect.2.2.2) (hlk : meth.locks = false) : zLk (zG p l e (zrm d) s m args below meth c E mX11_collect.2.2.1 0 0 (MQ below (zQc E Q) args s 0 0 (zaA E))) 71 (b_X11_collect_71 d (zG p l e (zrm d) s m args below meth c E mX11_collect.2.2.1 0 0 (MQ below (zQc E Q) args s 0 0 (zaA E))) Q) := by
  unfold b_X11_collect_71
  exact lk_aln B dX11_collect_71 rfl (lk_iln B dX11_collect_72 rfl (lk_aln B dX11_collect_73 rfl (lk_gf (T := TX11) B cl_X11 (by decide) in_X11 zw_794 dX11_collect_74 (lk_iln B dX11_collect_77 rfl (lk_iald B dX11_collect_78 (lk_callv (M := mX11_walk) (T := TX11) (N := 41) B (zhR hd1 (by decide)) ⟨Nat.zero_le _, Nat.zero_le _⟩ cl_X11 (zw5 zw_987 zw_984 zw_986 zw_26 zw_58) (by decide +kernel) dX11_collect_79 (k_X11_collect_82 hd1 B hr hlk)))))))
set_option maxRecDepth 20000 in
theorem k_X11_collect_62 {p : Program} {l : Launch} {e : Env} {s : State} {m : MethodId} {args : Array Value} {below : List Frame} {meth : Method} {c : Code} {E : zE} {d : Nat} {Q : zQ} (hd1 : 1 ≤ d) (B : zB p s m args c E mX11_collect.1.cls mX11_collect.2.1 mX11_collect.2.2.1) (hr : meth.sig.returnType = mX11_collect.2.2.2) (hlk : meth.locks = false) : zLk (zG p l e (zrm d) s m args below meth c E mX11_collect.2.2.1 0 0 (MQ below (zQc E Q) args s 0 0 (zaA E))) 62 (b_X11_collect_62 d (zG p l e (zrm d) s m args below meth c E mX11_collect.2.2.1 0 0 (MQ below (zQc E Q) args s 0 0 (zaA E))) Q) := by
  unfold b_X11_collect_62
  exact lk_aln B dX11_collect_62 rfl (lk_gf (T := TX11) B cl_X11 (by decide) in_X11 zw_795 dX11_collect_63 (lk_iln B dX11_collect_66 rfl (lk_zald B dX11_collect_67 (lk_zeq B dX11_collect_68 (by decide) (k_X11_collect_82 hd1 B hr hlk) (k_X11_collect_71 hd1 B hr hlk)))))
set_option maxRecDepth 20000 in
theorem k_X11_collect_47 {p : Program} {l : Launch} {e : Env} {s : State} {m : MethodId} {args : Array Value} {below : List Frame} {meth : Method} {c : Code} {E : zE} {d : Nat} {Q : zQ} (hd1 : 1 ≤ d) (B : zB p s m args c E mX11_collect.1.cls mX11_collect.2.1 mX11_collect.2.2.1) (hr : meth.sig.returnType = mX11_collect.2.2.2) (hlk : meth.locks = false) : zLk (zG p l e (zrm d) s m args below meth c E mX11_collect.2.2.1 0 0 (MQ below (zQc E Q) args s 0 0 (zaA E))) 47 (b_X11_collect_47 d (zG p l e (zrm d) s m args below meth c E mX11_collect.2.2.1 0 0 (MQ below (zQc E Q) args s 0 0 (zaA E))) Q) := by
  unfold b_X11_collect_47
  exact lk_iln B dX11_collect_47 rfl (lk_b B dX11_collect_48 rfl (lk_iln B dX11_collect_50 rfl (lk_mul B dX11_collect_51 (lk_aln B dX11_collect_52 rfl (lk_gf (T := TX11) B cl_X11 (by decide) in_X11 zw_793 dX11_collect_53 (lk_iln B dX11_collect_56 rfl (lk_iald B dX11_collect_57 (lk_add B dX11_collect_58 (lk_ige B dX11_collect_59 (by decide) (k_X11_collect_88 hd1 B hr hlk) (k_X11_collect_62 hd1 B hr hlk))))))))))
set_option maxRecDepth 20000 in
theorem k_X11_collect_158 {p : Program} {l : Launch} {e : Env} {s : State} {m : MethodId} {args : Array Value} {below : List Frame} {meth : Method} {c : Code} {E : zE} {d : Nat} {Q : zQ} (hd1 : 1 ≤ d) (B : zB p s m args c E mX11_collect.1.cls mX11_collect.2.1 mX11_collect.2.2.1) (hr : meth.sig.returnType = mX11_collect.2.2.2) (hlk : meth.locks = false) : zLk (zG p l e (zrm d) s m args below meth c E mX11_collect.2.2.1 0 0 (MQ below (zQc E Q) args s 0 0 (zaA E))) 158 (b_X11_collect_158 d (zG p l e (zrm d) s m args below meth c E mX11_collect.2.2.1 0 0 (MQ below (zQc E Q) args s 0 0 (zaA E))) Q) := by
  unfold b_X11_collect_158
  exact lk_c B dX11_collect_158 (lk_isn B dX11_collect_159 rfl (by decide) (lk_b B dX11_collect_160 rfl (lk_iln B dX11_collect_162 rfl (lk_mul B dX11_collect_163 (lk_isn B dX11_collect_164 rfl (by decide) (fun _ _ _ h => h))))))
set_option maxRecDepth 20000 in
theorem k_X11_collect_152 {p : Program} {l : Launch} {e : Env} {s : State} {m : MethodId} {args : Array Value} {below : List Frame} {meth : Method} {c : Code} {E : zE} {d : Nat} {Q : zQ} (hd1 : 1 ≤ d) (B : zB p s m args c E mX11_collect.1.cls mX11_collect.2.1 mX11_collect.2.2.1) (hr : meth.sig.returnType = mX11_collect.2.2.2) (hlk : meth.locks = false) : zLk (zG p l e (zrm d) s m args below meth c E mX11_collect.2.2.1 0 0 (MQ below (zQc E Q) args s 0 0 (zaA E))) 152 (b_X11_collect_152 d (zG p l e (zrm d) s m args below meth c E mX11_collect.2.2.1 0 0 (MQ below (zQc E Q) args s 0 0 (zaA E))) Q) := by
  unfold b_X11_collect_152
  exact lk_inc B dX11_collect_152 (by decide) (lk_goto B dX11_collect_155 (by decide) (fun _ _ _ h => h))
set_option maxRecDepth 20000 in
theorem k_X11_collect_145 {p : Program} {l : Launch} {e : Env} {s : State} {m : MethodId} {args : Array Value} {below : List Frame} {meth : Method} {c : Code} {E : zE} {d : Nat} {Q : zQ} (hd1 : 1 ≤ d) (B : zB p s m args c E mX11_collect.1.cls mX11_collect.2.1 mX11_collect.2.2.1) (hr : meth.sig.returnType = mX11_collect.2.2.2) (hlk : meth.locks = false) : zLk (zG p l e (zrm d) s m args below meth c E mX11_collect.2.2.1 0 0 (MQ below (zQc E Q) args s 0 0 (zaA E))) 145 (b_X11_collect_145 d (zG p l e (zrm d) s m args below meth c E mX11_collect.2.2.1 0 0 (MQ below (zQc E Q) args s 0 0 (zaA E))) Q) := by
  unfold b_X11_collect_145
  exact lk_aln B dX11_collect_145 rfl (lk_gf (T := TX11) B cl_X11 (by decide) in_X11 zw_792 dX11_collect_146 (lk_iln B dX11_collect_149 rfl (lk_c B dX11_collect_150 (lk_zast B dX11_collect_151 (k_X11_collect_152 hd1 B hr hlk)))))
set_option maxRecDepth 20000 in
theorem k_X11_collect_129 {p : Program} {l : Launch} {e : Env} {s : State} {m : MethodId} {args : Array Value} {below : List Frame} {meth : Method} {c : Code} {E : zE} {d : Nat} {Q : zQ} (hd1 : 1 ≤ d) (B : zB p s m args c E mX11_collect.1.cls mX11_collect.2.1 mX11_collect.2.2.1) (hr : meth.sig.returnType = mX11_collect.2.2.2) (hlk : meth.locks = false) : zLk (zG p l e (zrm d) s m args below meth c E mX11_collect.2.2.1 0 0 (MQ below (zQc E Q) args s 0 0 (zaA E))) 129 (b_X11_collect_129 d (zG p l e (zrm d) s m args below meth c E mX11_collect.2.2.1 0 0 (MQ below (zQc E Q) args s 0 0 (zaA E))) Q) := by
  unfold b_X11_collect_129
  exact lk_aln B dX11_collect_129 rfl (lk_iln B dX11_collect_130 rfl (lk_aln B dX11_collect_131 rfl (lk_gf (T := TX11) B cl_X11 (by decide) in_X11 zw_794 dX11_collect_132 (lk_iln B dX11_collect_135 rfl (lk_iald B dX11_collect_136 (lk_callv (M := mX11_where) (T := TX11) (N := 41) B (zhR hd1 (by decide)) ⟨Nat.zero_le _, Nat.zero_le _⟩ cl_X11 (zw5 zw_963 zw_960 zw_962 zw_20 zw_58) (by decide +kernel) dX11_collect_137 (lk_isn B dX11_collect_140 rfl (by decide) (lk_iln B dX11_collect_141 rfl (lk_zlt B dX11_collect_142 (by decide) (k_X11_collect_152 hd1 B hr hlk) (k_X11_collect_145 hd1 B hr hlk))))))))))
set_option maxRecDepth 20000 in
theorem k_X11_collect_114 {p : Program} {l : Launch} {e : Env} {s : State} {m : MethodId} {args : Array Value} {below : List Frame} {meth : Method} {c : Code} {E : zE} {d : Nat} {Q : zQ} (hd1 : 1 ≤ d) (B : zB p s m args c E mX11_collect.1.cls mX11_collect.2.1 mX11_collect.2.2.1) (hr : meth.sig.returnType = mX11_collect.2.2.2) (hlk : meth.locks = false) : zLk (zG p l e (zrm d) s m args below meth c E mX11_collect.2.2.1 0 0 (MQ below (zQc E Q) args s 0 0 (zaA E))) 114 (b_X11_collect_114 d (zG p l e (zrm d) s m args below meth c E mX11_collect.2.2.1 0 0 (MQ below (zQc E Q) args s 0 0 (zaA E))) Q) := by
  unfold b_X11_collect_114
  exact lk_iln B dX11_collect_114 rfl (lk_b B dX11_collect_115 rfl (lk_iln B dX11_collect_117 rfl (lk_mul B dX11_collect_118 (lk_aln B dX11_collect_119 rfl (lk_gf (T := TX11) B cl_X11 (by decide) in_X11 zw_793 dX11_collect_120 (lk_iln B dX11_collect_123 rfl (lk_iald B dX11_collect_124 (lk_add B dX11_collect_125 (lk_ige B dX11_collect_126 (by decide) (k_X11_collect_158 hd1 B hr hlk) (k_X11_collect_129 hd1 B hr hlk))))))))))
set_option maxRecDepth 20000 in
theorem k_X11_collect_276 {p : Program} {l : Launch} {e : Env} {s : State} {m : MethodId} {args : Array Value} {below : List Frame} {meth : Method} {c : Code} {E : zE} {d : Nat} {Q : zQ} (hd1 : 1 ≤ d) (B : zB p s m args c E mX11_collect.1.cls mX11_collect.2.1 mX11_collect.2.2.1) (hr : meth.sig.returnType = mX11_collect.2.2.2) (hlk : meth.locks = false) : zLk (zG p l e (zrm d) s m args below meth c E mX11_collect.2.2.1 0 0 (MQ below (zQc E Q) args s 0 0 (zaA E))) 276 (b_X11_collect_276 d (zG p l e (zrm d) s m args below meth c E mX11_collect.2.2.1 0 0 (MQ below (zQc E Q) args s 0 0 (zaA E))) Q) := by
  unfold b_X11_collect_276
  exact lk_aln B dX11_collect_276 rfl (lk_gf (T := TX11) B cl_X11 (by decide) in_X11 zw_788 dX11_collect_277 (lk_iln B dX11_collect_280 rfl (lk_iald B dX11_collect_281 (lk_iln B dX11_collect_282 rfl (lk_sub B dX11_collect_283 (lk_isn B dX11_collect_284 rfl (by decide) (lk_aln B dX11_collect_285 rfl (lk_gf (T := TX11) B cl_X11 (by decide) in_X11 zw_788 dX11_collect_286 (lk_iln B dX11_collect_289 rfl (lk_iln B dX11_collect_290 rfl (lk_iast B dX11_collect_291 (lk_iln B dX11_collect_292 rfl (lk_iret B hr hlk dX11_collect_293)))))))))))))
set_option maxRecDepth 20000 in
theorem k_X11_collect_192 {p : Program} {l : Launch} {e : Env} {s : State} {m : MethodId} {args : Array Value} {below : List Frame} {meth : Method} {c : Code} {E : zE} {d : Nat} {Q : zQ} (hd1 : 1 ≤ d) (B : zB p s m args c E mX11_collect.1.cls mX11_collect.2.1 mX11_collect.2.2.1) (hr : meth.sig.returnType = mX11_collect.2.2.2) (hlk : meth.locks = false) : zLk (zG p l e (zrm d) s m args below meth c E mX11_collect.2.2.1 0 0 (MQ below (zQc E Q) args s 0 0 (zaA E))) 192 (b_X11_collect_192 d (zG p l e (zrm d) s m args below meth c E mX11_collect.2.2.1 0 0 (MQ below (zQc E Q) args s 0 0 (zaA E))) Q) := by
  unfold b_X11_collect_192
  exact lk_b B dX11_collect_192 rfl (lk_iln B dX11_collect_194 rfl (lk_mul B dX11_collect_195 (lk_iln B dX11_collect_196 rfl (lk_add B dX11_collect_197 (lk_is B dX11_collect_198 (by decide) (lk_aln B dX11_collect_200 rfl (lk_gf (T := TX11) B cl_X11 (by decide) in_X11 zw_789 dX11_collect_201 (lk_il B dX11_collect_204 (lk_aln B dX11_collect_206 rfl (lk_gf (T := TX11) B cl_X11 (by decide) in_X11 zw_789 dX11_collect_207 (lk_iln B dX11_collect_210 rfl (lk_iald B dX11_collect_211 (lk_iast B dX11_collect_212 (lk_aln B dX11_collect_213 rfl (lk_gf (T := TX11) B cl_X11 (by decide) in_X11 zw_790 dX11_collect_214 (lk_il B dX11_collect_217 (lk_aln B dX11_collect_219 rfl (lk_gf (T := TX11) B cl_X11 (by decide) in_X11 zw_790 dX11_collect_220 (lk_iln B dX11_collect_223 rfl (lk_iald B dX11_collect_224 (lk_iast B dX11_collect_225 (lk_c B dX11_collect_226 (lk_is B dX11_collect_227 (by decide) (fun _ _ _ h => h))))))))))))))))))))))))
set_option maxRecDepth 20000 in
theorem k_X11_collect_270 {p : Program} {l : Launch} {e : Env} {s : State} {m : MethodId} {args : Array Value} {below : List Frame} {meth : Method} {c : Code} {E : zE} {d : Nat} {Q : zQ} (hd1 : 1 ≤ d) (B : zB p s m args c E mX11_collect.1.cls mX11_collect.2.1 mX11_collect.2.2.1) (hr : meth.sig.returnType = mX11_collect.2.2.2) (hlk : meth.locks = false) : zLk (zG p l e (zrm d) s m args below meth c E mX11_collect.2.2.1 0 0 (MQ below (zQc E Q) args s 0 0 (zaA E))) 270 (b_X11_collect_270 d (zG p l e (zrm d) s m args below meth c E mX11_collect.2.2.1 0 0 (MQ below (zQc E Q) args s 0 0 (zaA E))) Q) := by
  unfold b_X11_collect_270
  exact lk_inc B dX11_collect_270 (by decide) (lk_goto B dX11_collect_273 (by decide) (fun _ _ _ h => h))
set_option maxRecDepth 20000 in
theorem k_X11_collect_189 {p : Program} {l : Launch} {e : Env} {s : State} {m : MethodId} {args : Array Value} {below : List Frame} {meth : Method} {c : Code} {E : zE} {d : Nat} {Q : zQ} (hd1 : 1 ≤ d) (B : zB p s m args c E mX11_collect.1.cls mX11_collect.2.1 mX11_collect.2.2.1) (hr : meth.sig.returnType = mX11_collect.2.2.2) (hlk : meth.locks = false) : zLk (zG p l e (zrm d) s m args below meth c E mX11_collect.2.2.1 0 0 (MQ below (zQc E Q) args s 0 0 (zaA E))) 189 (b_X11_collect_189 d (zG p l e (zrm d) s m args below meth c E mX11_collect.2.2.1 0 0 (MQ below (zQc E Q) args s 0 0 (zaA E))) Q) := by
  unfold b_X11_collect_189
  exact lk_goto B dX11_collect_189 (by decide) (k_X11_collect_270 hd1 B hr hlk)
set_option maxRecDepth 20000 in
theorem k_X11_collect_180 {p : Program} {l : Launch} {e : Env} {s : State} {m : MethodId} {args : Array Value} {below : List Frame} {meth : Method} {c : Code} {E : zE} {d : Nat} {Q : zQ} (hd1 : 1 ≤ d) (B : zB p s m args c E mX11_collect.1.cls mX11_collect.2.1 mX11_collect.2.2.1) (hr : meth.sig.returnType = mX11_collect.2.2.2) (hlk : meth.locks = false) : zLk (zG p l e (zrm d) s m args below meth c E mX11_collect.2.2.1 0 0 (MQ below (zQc E Q) args s 0 0 (zaA E))) 180 (b_X11_collect_180 d (zG p l e (zrm d) s m args below meth c E mX11_collect.2.2.1 0 0 (MQ below (zQc E Q) args s 0 0 (zaA E))) Q) := by
  unfold b_X11_collect_180
  exact lk_aln B dX11_collect_180 rfl (lk_gf (T := TX11) B cl_X11 (by decide) in_X11 zw_792 dX11_collect_181 (lk_iln B dX11_collect_184 rfl (lk_zald B dX11_collect_185 (lk_zne B dX11_collect_186 (by decide) (k_X11_collect_192 hd1 B hr hlk) (k_X11_collect_189 hd1 B hr hlk)))))
set_option maxRecDepth 20000 in
theorem k_X11_collect_165 {p : Program} {l : Launch} {e : Env} {s : State} {m : MethodId} {args : Array Value} {below : List Frame} {meth : Method} {c : Code} {E : zE} {d : Nat} {Q : zQ} (hd1 : 1 ≤ d) (B : zB p s m args c E mX11_collect.1.cls mX11_collect.2.1 mX11_collect.2.2.1) (hr : meth.sig.returnType = mX11_collect.2.2.2) (hlk : meth.locks = false) : zLk (zG p l e (zrm d) s m args below meth c E mX11_collect.2.2.1 0 0 (MQ below (zQc E Q) args s 0 0 (zaA E))) 165 (b_X11_collect_165 d (zG p l e (zrm d) s m args below meth c E mX11_collect.2.2.1 0 0 (MQ below (zQc E Q) args s 0 0 (zaA E))) Q) := by
  unfold b_X11_collect_165
  exact lk_iln B dX11_collect_165 rfl (lk_b B dX11_collect_166 rfl (lk_iln B dX11_collect_168 rfl (lk_mul B dX11_collect_169 (lk_aln B dX11_collect_170 rfl (lk_gf (T := TX11) B cl_X11 (by decide) in_X11 zw_788 dX11_collect_171 (lk_iln B dX11_collect_174 rfl (lk_iald B dX11_collect_175 (lk_add B dX11_collect_176 (lk_ige B dX11_collect_177 (by decide) (k_X11_collect_276 hd1 B hr hlk) (k_X11_collect_180 hd1 B hr hlk))))))))))
set_option maxRecDepth 20000 in
theorem k_X11_collect_267 {p : Program} {l : Launch} {e : Env} {s : State} {m : MethodId} {args : Array Value} {below : List Frame} {meth : Method} {c : Code} {E : zE} {d : Nat} {Q : zQ} (hd1 : 1 ≤ d) (B : zB p s m args c E mX11_collect.1.cls mX11_collect.2.1 mX11_collect.2.2.1) (hr : meth.sig.returnType = mX11_collect.2.2.2) (hlk : meth.locks = false) : zLk (zG p l e (zrm d) s m args below meth c E mX11_collect.2.2.1 0 0 (MQ below (zQc E Q) args s 0 0 (zaA E))) 267 (b_X11_collect_267 d (zG p l e (zrm d) s m args below meth c E mX11_collect.2.2.1 0 0 (MQ below (zQc E Q) args s 0 0 (zaA E))) Q) := by
  unfold b_X11_collect_267
  exact lk_inc B dX11_collect_267 (by decide) (k_X11_collect_270 hd1 B hr hlk)
set_option maxRecDepth 20000 in
theorem k_X11_collect_236 {p : Program} {l : Launch} {e : Env} {s : State} {m : MethodId} {args : Array Value} {below : List Frame} {meth : Method} {c : Code} {E : zE} {d : Nat} {Q : zQ} (hd1 : 1 ≤ d) (B : zB p s m args c E mX11_collect.1.cls mX11_collect.2.1 mX11_collect.2.2.1) (hr : meth.sig.returnType = mX11_collect.2.2.2) (hlk : meth.locks = false) : zLk (zG p l e (zrm d) s m args below meth c E mX11_collect.2.2.1 0 0 (MQ below (zQc E Q) args s 0 0 (zaA E))) 236 (b_X11_collect_236 d (zG p l e (zrm d) s m args below meth c E mX11_collect.2.2.1 0 0 (MQ below (zQc E Q) args s 0 0 (zaA E))) Q) := by
  unfold b_X11_collect_236
  exact lk_aln B dX11_collect_236 rfl (lk_gf (T := TX11) B cl_X11 (by decide) in_X11 zw_791 dX11_collect_237 (lk_b B dX11_collect_240 rfl (lk_il B dX11_collect_242 (lk_mul B dX11_collect_244 (lk_il B dX11_collect_245 (lk_add B dX11_collect_247 (lk_aln B dX11_collect_248 rfl (lk_gf (T := TX11) B cl_X11 (by decide) in_X11 zw_791 dX11_collect_249 (lk_b B dX11_collect_252 rfl (lk_iln B dX11_collect_254 rfl (lk_mul B dX11_collect_255 (lk_il B dX11_collect_256 (lk_add B dX11_collect_258 (lk_iald B dX11_collect_259 (lk_iast B dX11_collect_260 (lk_inc B dX11_collect_261 (by decide) (lk_goto B dX11_collect_264 (by decide) (fun _ _ _ h => h))))))))))))))))))
set_option maxRecDepth 20000 in
theorem k_X11_collect_229 {p : Program} {l : Launch} {e : Env} {s : State} {m : MethodId} {args : Array Value} {below : List Frame} {meth : Method} {c : Code} {E : zE} {d : Nat} {Q : zQ} (hd1 : 1 ≤ d) (B : zB p s m args c E mX11_collect.1.cls mX11_collect.2.1 mX11_collect.2.2.1) (hr : meth.sig.returnType = mX11_collect.2.2.2) (hlk : meth.locks = false) : zLk (zG p l e (zrm d) s m args below meth c E mX11_collect.2.2.1 0 0 (MQ below (zQc E Q) args s 0 0 (zaA E))) 229 (b_X11_collect_229 d (zG p l e (zrm d) s m args below meth c E mX11_collect.2.2.1 0 0 (MQ below (zQc E Q) args s 0 0 (zaA E))) Q) := by
  unfold b_X11_collect_229
  exact lk_il B dX11_collect_229 (lk_b B dX11_collect_231 rfl (lk_ige B dX11_collect_233 (by decide) (k_X11_collect_267 hd1 B hr hlk) (k_X11_collect_236 hd1 B hr hlk)))
def S_X11_collect (d : Nat) (G : Nat → zK) (Q : zQ) : Prop := zLk G 0 (b_X11_collect_0 d G Q) ∧ zLk G 14 (b_X11_collect_14 d G Q) ∧ zLk G 47 (b_X11_collect_47 d G Q) ∧ zLk G 114 (b_X11_collect_114 d G Q) ∧ zLk G 165 (b_X11_collect_165 d G Q) ∧ zLk G 229 (b_X11_collect_229 d G Q)
theorem s_X11_collect_0 {d : Nat} {G : Nat → zK} {Q : zQ} (h : S_X11_collect d G Q) {ls st : List zV} {μ : zM} (k : b_X11_collect_0 d G Q ls st μ) : G 0 ls st μ := h.1 ls st μ k
theorem s_X11_collect_14 {d : Nat} {G : Nat → zK} {Q : zQ} (h : S_X11_collect d G Q) {ls st : List zV} {μ : zM} (k : b_X11_collect_14 d G Q ls st μ) : G 14 ls st μ := h.2.1 ls st μ k
theorem s_X11_collect_47 {d : Nat} {G : Nat → zK} {Q : zQ} (h : S_X11_collect d G Q) {ls st : List zV} {μ : zM} (k : b_X11_collect_47 d G Q ls st μ) : G 47 ls st μ := h.2.2.1 ls st μ k
theorem s_X11_collect_114 {d : Nat} {G : Nat → zK} {Q : zQ} (h : S_X11_collect d G Q) {ls st : List zV} {μ : zM} (k : b_X11_collect_114 d G Q ls st μ) : G 114 ls st μ := h.2.2.2.1 ls st μ k
theorem s_X11_collect_165 {d : Nat} {G : Nat → zK} {Q : zQ} (h : S_X11_collect d G Q) {ls st : List zV} {μ : zM} (k : b_X11_collect_165 d G Q ls st μ) : G 165 ls st μ := h.2.2.2.2.1 ls st μ k
theorem s_X11_collect_229 {d : Nat} {G : Nat → zK} {Q : zQ} (h : S_X11_collect d G Q) {ls st : List zV} {μ : zM} (k : b_X11_collect_229 d G Q ls st μ) : G 229 ls st μ := h.2.2.2.2.2 ls st μ k
theorem of_X11_collect {d : Nat} {a0 a1 : zV} {μ : zM} {Q : zQ} (hd1 : 1 ≤ d) (h : ∀ G : Nat → zK, S_X11_collect d G Q → G 0 [a0, a1, .inr none, .inr none, .inr none, .inr none] [] μ) : zCt d mX11_collect [a0, a1] μ Q := zCt.mk (by decide) (Nat.le_of_ble_eq_true rfl) (fun p l e s m args below meth c E B hr hlk => h _ ⟨k_X11_collect_0 hd1 B hr hlk, k_X11_collect_14 hd1 B hr hlk, k_X11_collect_47 hd1 B hr hlk, k_X11_collect_114 hd1 B hr hlk, k_X11_collect_165 hd1 B hr hlk, k_X11_collect_229 hd1 B hr hlk⟩)
theorem dX11_blocks_0 : decode cX11_blocks 0 = .ok (.iload_n 1, 1) := by decide +kernel
theorem dX11_blocks_1 : decode cX11_blocks 1 = .ok (.invokestatic 132, 3) := by decide +kernel
theorem dX11_blocks_4 : decode cX11_blocks 4 = .ok (.ifCond .eq 12, 3) := by decide +kernel
theorem dX11_blocks_7 : decode cX11_blocks 7 = .ok (.aload_n 0, 1) := by decide +kernel
theorem dX11_blocks_8 : decode cX11_blocks 8 = .ok (.getfield 7, 3) := by decide +kernel
theorem dX11_blocks_11 : decode cX11_blocks 11 = .ok (.iload_n 1, 1) := by decide +kernel
theorem dX11_blocks_12 : decode cX11_blocks 12 = .ok (.iaload, 1) := by decide +kernel
theorem dX11_blocks_13 : decode cX11_blocks 13 = .ok (.goto 4, 3) := by decide +kernel
theorem dX11_blocks_16 : decode cX11_blocks 16 = .ok (.iconst (-1), 1) := by decide +kernel
theorem dX11_blocks_17 : decode cX11_blocks 17 = .ok (.ireturn, 1) := by decide +kernel
def b_X11_blocks_17 (d : Nat) (G : Nat → zK) (Q : zQ) : zK := t_iret Q
def b_X11_blocks_16 (d : Nat) (G : Nat → zK) (Q : zQ) : zK := o_c (-1) <| b_X11_blocks_17 d G Q
def b_X11_blocks_7 (d : Nat) (G : Nat → zK) (Q : zQ) : zK := o_al 0 <| o_gf 9 0 <| o_il 1 <| o_iald <| b_X11_blocks_17 d G Q
def b_X11_blocks_0 (d : Nat) (G : Nat → zK) (Q : zQ) : zK := o_il 1 <| o_call (zCt (d - 1) mX11_isStore) 1 <| t_zeq (b_X11_blocks_16 d G Q) (b_X11_blocks_7 d G Q)
set_option maxRecDepth 20000 in
theorem k_X11_blocks_17 {p : Program} {l : Launch} {e : Env} {s : State} {m : MethodId} {args : Array Value} {below : List Frame} {meth : Method} {c : Code} {E : zE} {d : Nat} {Q : zQ} (hd1 : 1 ≤ d) (B : zB p s m args c E mX11_blocks.1.cls mX11_blocks.2.1 mX11_blocks.2.2.1) (hr : meth.sig.returnType = mX11_blocks.2.2.2) (hlk : meth.locks = false) : zLk (zG p l e (zrm d) s m args below meth c E mX11_blocks.2.2.1 0 0 (MQ below (zQc E Q) args s 0 0 (zaA E))) 17 (b_X11_blocks_17 d (zG p l e (zrm d) s m args below meth c E mX11_blocks.2.2.1 0 0 (MQ below (zQc E Q) args s 0 0 (zaA E))) Q) := by
  unfold b_X11_blocks_17
  exact lk_iret B hr hlk dX11_blocks_17
set_option maxRecDepth 20000 in
theorem k_X11_blocks_16 {p : Program} {l : Launch} {e : Env} {s : State} {m : MethodId} {args : Array Value} {below : List Frame} {meth : Method} {c : Code} {E : zE} {d : Nat} {Q : zQ} (hd1 : 1 ≤ d) (B : zB p s m args c E mX11_blocks.1.cls mX11_blocks.2.1 mX11_blocks.2.2.1) (hr : meth.sig.returnType = mX11_blocks.2.2.2) (hlk : meth.locks = false) : zLk (zG p l e (zrm d) s m args below meth c E mX11_blocks.2.2.1 0 0 (MQ below (zQc E Q) args s 0 0 (zaA E))) 16 (b_X11_blocks_16 d (zG p l e (zrm d) s m args below meth c E mX11_blocks.2.2.1 0 0 (MQ below (zQc E Q) args s 0 0 (zaA E))) Q) := by
  unfold b_X11_blocks_16
  exact lk_c B dX11_blocks_16 (k_X11_blocks_17 hd1 B hr hlk)
set_option maxRecDepth 20000 in
theorem k_X11_blocks_7 {p : Program} {l : Launch} {e : Env} {s : State} {m : MethodId} {args : Array Value} {below : List Frame} {meth : Method} {c : Code} {E : zE} {d : Nat} {Q : zQ} (hd1 : 1 ≤ d) (B : zB p s m args c E mX11_blocks.1.cls mX11_blocks.2.1 mX11_blocks.2.2.1) (hr : meth.sig.returnType = mX11_blocks.2.2.2) (hlk : meth.locks = false) : zLk (zG p l e (zrm d) s m args below meth c E mX11_blocks.2.2.1 0 0 (MQ below (zQc E Q) args s 0 0 (zaA E))) 7 (b_X11_blocks_7 d (zG p l e (zrm d) s m args below meth c E mX11_blocks.2.2.1 0 0 (MQ below (zQc E Q) args s 0 0 (zaA E))) Q) := by
  unfold b_X11_blocks_7
  exact lk_aln B dX11_blocks_7 rfl (lk_gf (T := TX11) B cl_X11 (by decide) in_X11 zw_788 dX11_blocks_8 (lk_iln B dX11_blocks_11 rfl (lk_iald B dX11_blocks_12 (lk_goto B dX11_blocks_13 (by decide) (k_X11_blocks_17 hd1 B hr hlk)))))
set_option maxRecDepth 20000 in
theorem k_X11_blocks_0 {p : Program} {l : Launch} {e : Env} {s : State} {m : MethodId} {args : Array Value} {below : List Frame} {meth : Method} {c : Code} {E : zE} {d : Nat} {Q : zQ} (hd1 : 1 ≤ d) (B : zB p s m args c E mX11_blocks.1.cls mX11_blocks.2.1 mX11_blocks.2.2.1) (hr : meth.sig.returnType = mX11_blocks.2.2.2) (hlk : meth.locks = false) : zLk (zG p l e (zrm d) s m args below meth c E mX11_blocks.2.2.1 0 0 (MQ below (zQc E Q) args s 0 0 (zaA E))) 0 (b_X11_blocks_0 d (zG p l e (zrm d) s m args below meth c E mX11_blocks.2.2.1 0 0 (MQ below (zQc E Q) args s 0 0 (zaA E))) Q) := by
  unfold b_X11_blocks_0
  exact lk_iln B dX11_blocks_0 rfl (lk_calls (M := mX11_isStore) B (zhR hd1 (by decide)) ⟨Nat.zero_le _, Nat.zero_le _⟩ (zw4 zw_944 zw_942 zw_943 zw_58) (by decide +kernel) dX11_blocks_1 (lk_zeq B dX11_blocks_4 (by decide) (k_X11_blocks_16 hd1 B hr hlk) (k_X11_blocks_7 hd1 B hr hlk)))
def S_X11_blocks (d : Nat) (G : Nat → zK) (Q : zQ) : Prop := zLk G 0 (b_X11_blocks_0 d G Q)
theorem s_X11_blocks_0 {d : Nat} {G : Nat → zK} {Q : zQ} (h : S_X11_blocks d G Q) {ls st : List zV} {μ : zM} (k : b_X11_blocks_0 d G Q ls st μ) : G 0 ls st μ := h ls st μ k
theorem of_X11_blocks {d : Nat} {a0 a1 : zV} {μ : zM} {Q : zQ} (hd1 : 1 ≤ d) (h : ∀ G : Nat → zK, S_X11_blocks d G Q → G 0 [a0, a1] [] μ) : zCt d mX11_blocks [a0, a1] μ Q := zCt.mk (by decide) (Nat.le_of_ble_eq_true rfl) (fun p l e s m args below meth c E B hr hlk => h _ (k_X11_blocks_0 hd1 B hr hlk))
theorem dX11_send_0 : decode cX11_send 0 = .ok (.aload_n 0, 1) := by decide +kernel
theorem dX11_send_1 : decode cX11_send 1 = .ok (.getfield 236, 3) := by decide +kernel
theorem dX11_send_4 : decode cX11_send 4 = .ok (.bipush 24, 2) := by decide +kernel
theorem dX11_send_6 : decode cX11_send 6 = .ok (.if_icmp .ne 4, 3) := by decide +kernel
theorem dX11_send_9 : decode cX11_send 9 = .ok (.return_, 1) := by decide +kernel
theorem dX11_send_10 : decode cX11_send 10 = .ok (.aload_n 0, 1) := by decide +kernel
theorem dX11_send_11 : decode cX11_send 11 = .ok (.getfield 44, 3) := by decide +kernel
theorem dX11_send_14 : decode cX11_send 14 = .ok (.aload_n 0, 1) := by decide +kernel
theorem dX11_send_15 : decode cX11_send 15 = .ok (.getfield 236, 3) := by decide +kernel
theorem dX11_send_18 : decode cX11_send 18 = .ok (.iload_n 1, 1) := by decide +kernel
theorem dX11_send_19 : decode cX11_send 19 = .ok (.iastore, 1) := by decide +kernel
theorem dX11_send_20 : decode cX11_send 20 = .ok (.aload_n 0, 1) := by decide +kernel
theorem dX11_send_21 : decode cX11_send 21 = .ok (.getfield 47, 3) := by decide +kernel
theorem dX11_send_24 : decode cX11_send 24 = .ok (.aload_n 0, 1) := by decide +kernel
theorem dX11_send_25 : decode cX11_send 25 = .ok (.getfield 236, 3) := by decide +kernel
theorem dX11_send_28 : decode cX11_send 28 = .ok (.iload_n 2, 1) := by decide +kernel
theorem dX11_send_29 : decode cX11_send 29 = .ok (.iastore, 1) := by decide +kernel
theorem dX11_send_30 : decode cX11_send 30 = .ok (.aload_n 0, 1) := by decide +kernel
theorem dX11_send_31 : decode cX11_send 31 = .ok (.getfield 50, 3) := by decide +kernel
theorem dX11_send_34 : decode cX11_send 34 = .ok (.aload_n 0, 1) := by decide +kernel
theorem dX11_send_35 : decode cX11_send 35 = .ok (.getfield 236, 3) := by decide +kernel
theorem dX11_send_38 : decode cX11_send 38 = .ok (.iload_n 3, 1) := by decide +kernel
theorem dX11_send_39 : decode cX11_send 39 = .ok (.iastore, 1) := by decide +kernel
theorem dX11_send_40 : decode cX11_send 40 = .ok (.aload_n 0, 1) := by decide +kernel
theorem dX11_send_41 : decode cX11_send 41 = .ok (.getfield 53, 3) := by decide +kernel
theorem dX11_send_44 : decode cX11_send 44 = .ok (.aload_n 0, 1) := by decide +kernel
theorem dX11_send_45 : decode cX11_send 45 = .ok (.getfield 236, 3) := by decide +kernel
theorem dX11_send_48 : decode cX11_send 48 = .ok (.iload 4, 2) := by decide +kernel
theorem dX11_send_50 : decode cX11_send 50 = .ok (.iastore, 1) := by decide +kernel
theorem dX11_send_51 : decode cX11_send 51 = .ok (.aload_n 0, 1) := by decide +kernel
theorem dX11_send_52 : decode cX11_send 52 = .ok (.getfield 56, 3) := by decide +kernel
theorem dX11_send_55 : decode cX11_send 55 = .ok (.aload_n 0, 1) := by decide +kernel
theorem dX11_send_56 : decode cX11_send 56 = .ok (.getfield 236, 3) := by decide +kernel
theorem dX11_send_59 : decode cX11_send 59 = .ok (.iconst 0, 1) := by decide +kernel
theorem dX11_send_60 : decode cX11_send 60 = .ok (.iastore, 1) := by decide +kernel
theorem dX11_send_61 : decode cX11_send 61 = .ok (.aload_n 0, 1) := by decide +kernel
theorem dX11_send_62 : decode cX11_send 62 = .ok (.dup, 1) := by decide +kernel
theorem dX11_send_63 : decode cX11_send 63 = .ok (.getfield 236, 3) := by decide +kernel
theorem dX11_send_66 : decode cX11_send 66 = .ok (.iconst 1, 1) := by decide +kernel
theorem dX11_send_67 : decode cX11_send 67 = .ok (.iadd, 1) := by decide +kernel
theorem dX11_send_68 : decode cX11_send 68 = .ok (.putfield 236, 3) := by decide +kernel
theorem dX11_send_71 : decode cX11_send 71 = .ok (.return_, 1) := by decide +kernel
def b_X11_send_10 (d : Nat) (G : Nat → zK) (Q : zQ) : zK := o_al 0 <| o_gf 9 12 <| o_al 0 <| o_gf 9 11 <| o_il 1 <| o_iast <| o_al 0 <| o_gf 9 13 <| o_al 0 <| o_gf 9 11 <| o_il 2 <| o_iast <| o_al 0 <| o_gf 9 14 <| o_al 0 <| o_gf 9 11 <| o_il 3 <| o_iast <| o_al 0 <| o_gf 9 15 <| o_al 0 <| o_gf 9 11 <| o_il 4 <| o_iast <| o_al 0 <| o_gf 9 16 <| o_al 0 <| o_gf 9 11 <| o_c 0 <| o_iast <| o_al 0 <| o_dup <| o_gf 9 11 <| o_c 1 <| o_add <| o_pf 9 11 <| t_vret Q
def b_X11_send_9 (d : Nat) (G : Nat → zK) (Q : zQ) : zK := t_vret Q
def b_X11_send_0 (d : Nat) (G : Nat → zK) (Q : zQ) : zK := o_al 0 <| o_gf 9 11 <| o_c 24 <| t_ieq (b_X11_send_9 d G Q) (b_X11_send_10 d G Q)
set_option maxRecDepth 20000 in
theorem k_X11_send_10 {p : Program} {l : Launch} {e : Env} {s : State} {m : MethodId} {args : Array Value} {below : List Frame} {meth : Method} {c : Code} {E : zE} {d : Nat} {Q : zQ} (B : zB p s m args c E mX11_send.1.cls mX11_send.2.1 mX11_send.2.2.1) (hr : meth.sig.returnType = mX11_send.2.2.2) (hlk : meth.locks = false) : zLk (zG p l e (zrm d) s m args below meth c E mX11_send.2.2.1 0 0 (MQ below (zQc E Q) args s 0 0 (zaA E))) 10 (b_X11_send_10 d (zG p l e (zrm d) s m args below meth c E mX11_send.2.2.1 0 0 (MQ below (zQc E Q) args s 0 0 (zaA E))) Q) := by
  unfold b_X11_send_10
  exact lk_aln B dX11_send_10 rfl (lk_gf (T := TX11) B cl_X11 (by decide) in_X11 zw_800 dX11_send_11 (lk_aln B dX11_send_14 rfl (lk_gf (T := TX11) B cl_X11 (by decide) in_X11 zw_799 dX11_send_15 (lk_iln B dX11_send_18 rfl (lk_iast B dX11_send_19 (lk_aln B dX11_send_20 rfl (lk_gf (T := TX11) B cl_X11 (by decide) in_X11 zw_801 dX11_send_21 (lk_aln B dX11_send_24 rfl (lk_gf (T := TX11) B cl_X11 (by decide) in_X11 zw_799 dX11_send_25 (lk_iln B dX11_send_28 rfl (lk_iast B dX11_send_29 (lk_aln B dX11_send_30 rfl (lk_gf (T := TX11) B cl_X11 (by decide) in_X11 zw_802 dX11_send_31 (lk_aln B dX11_send_34 rfl (lk_gf (T := TX11) B cl_X11 (by decide) in_X11 zw_799 dX11_send_35 (lk_iln B dX11_send_38 rfl (lk_iast B dX11_send_39 (lk_aln B dX11_send_40 rfl (lk_gf (T := TX11) B cl_X11 (by decide) in_X11 zw_803 dX11_send_41 (lk_aln B dX11_send_44 rfl (lk_gf (T := TX11) B cl_X11 (by decide) in_X11 zw_799 dX11_send_45 (lk_il B dX11_send_48 (lk_iast B dX11_send_50 (lk_aln B dX11_send_51 rfl (lk_gf (T := TX11) B cl_X11 (by decide) in_X11 zw_804 dX11_send_52 (lk_aln B dX11_send_55 rfl (lk_gf (T := TX11) B cl_X11 (by decide) in_X11 zw_799 dX11_send_56 (lk_c B dX11_send_59 (lk_iast B dX11_send_60 (lk_aln B dX11_send_61 rfl (lk_dup B dX11_send_62 (lk_gf (T := TX11) B cl_X11 (by decide) in_X11 zw_799 dX11_send_63 (lk_c B dX11_send_66 (lk_add B dX11_send_67 (lk_pf (T := TX11) B cl_X11 (by decide) in_X11 tyX11_ok nmX11 zw_799 rfl (by decide +kernel) dX11_send_68 (lk_vret B hr hlk dX11_send_71))))))))))))))))))))))))))))))))))))
set_option maxRecDepth 20000 in
theorem k_X11_send_9 {p : Program} {l : Launch} {e : Env} {s : State} {m : MethodId} {args : Array Value} {below : List Frame} {meth : Method} {c : Code} {E : zE} {d : Nat} {Q : zQ} (B : zB p s m args c E mX11_send.1.cls mX11_send.2.1 mX11_send.2.2.1) (hr : meth.sig.returnType = mX11_send.2.2.2) (hlk : meth.locks = false) : zLk (zG p l e (zrm d) s m args below meth c E mX11_send.2.2.1 0 0 (MQ below (zQc E Q) args s 0 0 (zaA E))) 9 (b_X11_send_9 d (zG p l e (zrm d) s m args below meth c E mX11_send.2.2.1 0 0 (MQ below (zQc E Q) args s 0 0 (zaA E))) Q) := by
  unfold b_X11_send_9
  exact lk_vret B hr hlk dX11_send_9
set_option maxRecDepth 20000 in
theorem k_X11_send_0 {p : Program} {l : Launch} {e : Env} {s : State} {m : MethodId} {args : Array Value} {below : List Frame} {meth : Method} {c : Code} {E : zE} {d : Nat} {Q : zQ} (B : zB p s m args c E mX11_send.1.cls mX11_send.2.1 mX11_send.2.2.1) (hr : meth.sig.returnType = mX11_send.2.2.2) (hlk : meth.locks = false) : zLk (zG p l e (zrm d) s m args below meth c E mX11_send.2.2.1 0 0 (MQ below (zQc E Q) args s 0 0 (zaA E))) 0 (b_X11_send_0 d (zG p l e (zrm d) s m args below meth c E mX11_send.2.2.1 0 0 (MQ below (zQc E Q) args s 0 0 (zaA E))) Q) := by
  unfold b_X11_send_0
  exact lk_aln B dX11_send_0 rfl (lk_gf (T := TX11) B cl_X11 (by decide) in_X11 zw_799 dX11_send_1 (lk_b B dX11_send_4 rfl (lk_ine B dX11_send_6 (by decide) (k_X11_send_10 B hr hlk) (k_X11_send_9 B hr hlk))))
def S_X11_send (d : Nat) (G : Nat → zK) (Q : zQ) : Prop := zLk G 0 (b_X11_send_0 d G Q)
theorem s_X11_send_0 {d : Nat} {G : Nat → zK} {Q : zQ} (h : S_X11_send d G Q) {ls st : List zV} {μ : zM} (k : b_X11_send_0 d G Q ls st μ) : G 0 ls st μ := h ls st μ k
theorem of_X11_send {d : Nat} {a0 a1 a2 a3 a4 : zV} {μ : zM} {Q : zQ} (h : ∀ G : Nat → zK, S_X11_send d G Q → G 0 [a0, a1, a2, a3, a4] [] μ) : zCt d mX11_send [a0, a1, a2, a3, a4] μ Q := zCt.mk (by decide) (Nat.le_of_ble_eq_true rfl) (fun p l e s m args below meth c E B hr hlk => h _ (k_X11_send_0 B hr hlk))
theorem dX11_wantAll_0 : decode cX11_wantAll 0 = .ok (.iconst 0, 1) := by decide +kernel
theorem dX11_wantAll_1 : decode cX11_wantAll 1 = .ok (.istore_n 2, 1) := by decide +kernel
theorem dX11_wantAll_2 : decode cX11_wantAll 2 = .ok (.iload_n 2, 1) := by decide +kernel
theorem dX11_wantAll_3 : decode cX11_wantAll 3 = .ok (.aload_n 0, 1) := by decide +kernel
theorem dX11_wantAll_4 : decode cX11_wantAll 4 = .ok (.getfield 214, 3) := by decide +kernel
theorem dX11_wantAll_7 : decode cX11_wantAll 7 = .ok (.if_icmp .ge 27, 3) := by decide +kernel
theorem dX11_wantAll_10 : decode cX11_wantAll 10 = .ok (.aload_n 0, 1) := by decide +kernel
theorem dX11_wantAll_11 : decode cX11_wantAll 11 = .ok (.iconst 0, 1) := by decide +kernel
theorem dX11_wantAll_12 : decode cX11_wantAll 12 = .ok (.iload_n 1, 1) := by decide +kernel
theorem dX11_wantAll_13 : decode cX11_wantAll 13 = .ok (.aload_n 0, 1) := by decide +kernel
theorem dX11_wantAll_14 : decode cX11_wantAll 14 = .ok (.getfield 41, 3) := by decide +kernel
theorem dX11_wantAll_17 : decode cX11_wantAll 17 = .ok (.iload_n 1, 1) := by decide +kernel
theorem dX11_wantAll_18 : decode cX11_wantAll 18 = .ok (.iaload, 1) := by decide +kernel
theorem dX11_wantAll_19 : decode cX11_wantAll 19 = .ok (.aload_n 0, 1) := by decide +kernel
theorem dX11_wantAll_20 : decode cX11_wantAll 20 = .ok (.getfield 89, 3) := by decide +kernel
theorem dX11_wantAll_23 : decode cX11_wantAll 23 = .ok (.iload_n 2, 1) := by decide +kernel
theorem dX11_wantAll_24 : decode cX11_wantAll 24 = .ok (.iaload, 1) := by decide +kernel
theorem dX11_wantAll_25 : decode cX11_wantAll 25 = .ok (.invokevirtual 239, 3) := by decide +kernel
theorem dX11_wantAll_28 : decode cX11_wantAll 28 = .ok (.iinc 2 1, 3) := by decide +kernel
theorem dX11_wantAll_31 : decode cX11_wantAll 31 = .ok (.goto (-29), 3) := by decide +kernel
theorem dX11_wantAll_34 : decode cX11_wantAll 34 = .ok (.return_, 1) := by decide +kernel
def b_X11_wantAll_0 (d : Nat) (G : Nat → zK) (Q : zQ) : zK := o_c 0 <| o_is 2 <| G 2
def b_X11_wantAll_34 (d : Nat) (G : Nat → zK) (Q : zQ) : zK := t_vret Q
def b_X11_wantAll_10 (d : Nat) (G : Nat → zK) (Q : zQ) : zK := o_al 0 <| o_c 0 <| o_il 1 <| o_al 0 <| o_gf 9 10 <| o_il 1 <| o_iald <| o_al 0 <| o_gf 9 35 <| o_il 2 <| o_iald <| o_callv (zCt (d - 1) mX11_send) 9 5 <| o_inc 2 1 <| G 2
def b_X11_wantAll_2 (d : Nat) (G : Nat → zK) (Q : zQ) : zK := o_il 2 <| o_al 0 <| o_gf 9 34 <| t_ilt (b_X11_wantAll_10 d G Q) (b_X11_wantAll_34 d G Q)
set_option maxRecDepth 20000 in
theorem k_X11_wantAll_0 {p : Program} {l : Launch} {e : Env} {s : State} {m : MethodId} {args : Array Value} {below : List Frame} {meth : Method} {c : Code} {E : zE} {d : Nat} {Q : zQ} (hd1 : 1 ≤ d) (B : zB p s m args c E mX11_wantAll.1.cls mX11_wantAll.2.1 mX11_wantAll.2.2.1) (hr : meth.sig.returnType = mX11_wantAll.2.2.2) (hlk : meth.locks = false) : zLk (zG p l e (zrm d) s m args below meth c E mX11_wantAll.2.2.1 0 0 (MQ below (zQc E Q) args s 0 0 (zaA E))) 0 (b_X11_wantAll_0 d (zG p l e (zrm d) s m args below meth c E mX11_wantAll.2.2.1 0 0 (MQ below (zQc E Q) args s 0 0 (zaA E))) Q) := by
  unfold b_X11_wantAll_0
  exact lk_c B dX11_wantAll_0 (lk_isn B dX11_wantAll_1 rfl (by decide) (fun _ _ _ h => h))
set_option maxRecDepth 20000 in
theorem k_X11_wantAll_34 {p : Program} {l : Launch} {e : Env} {s : State} {m : MethodId} {args : Array Value} {below : List Frame} {meth : Method} {c : Code} {E : zE} {d : Nat} {Q : zQ} (hd1 : 1 ≤ d) (B : zB p s m args c E mX11_wantAll.1.cls mX11_wantAll.2.1 mX11_wantAll.2.2.1) (hr : meth.sig.returnType = mX11_wantAll.2.2.2) (hlk : meth.locks = false) : zLk (zG p l e (zrm d) s m args below meth c E mX11_wantAll.2.2.1 0 0 (MQ below (zQc E Q) args s 0 0 (zaA E))) 34 (b_X11_wantAll_34 d (zG p l e (zrm d) s m args below meth c E mX11_wantAll.2.2.1 0 0 (MQ below (zQc E Q) args s 0 0 (zaA E))) Q) := by
  unfold b_X11_wantAll_34
  exact lk_vret B hr hlk dX11_wantAll_34
set_option maxRecDepth 20000 in
theorem k_X11_wantAll_10 {p : Program} {l : Launch} {e : Env} {s : State} {m : MethodId} {args : Array Value} {below : List Frame} {meth : Method} {c : Code} {E : zE} {d : Nat} {Q : zQ} (hd1 : 1 ≤ d) (B : zB p s m args c E mX11_wantAll.1.cls mX11_wantAll.2.1 mX11_wantAll.2.2.1) (hr : meth.sig.returnType = mX11_wantAll.2.2.2) (hlk : meth.locks = false) : zLk (zG p l e (zrm d) s m args below meth c E mX11_wantAll.2.2.1 0 0 (MQ below (zQc E Q) args s 0 0 (zaA E))) 10 (b_X11_wantAll_10 d (zG p l e (zrm d) s m args below meth c E mX11_wantAll.2.2.1 0 0 (MQ below (zQc E Q) args s 0 0 (zaA E))) Q) := by
  unfold b_X11_wantAll_10
  exact lk_aln B dX11_wantAll_10 rfl (lk_c B dX11_wantAll_11 (lk_iln B dX11_wantAll_12 rfl (lk_aln B dX11_wantAll_13 rfl (lk_gf (T := TX11) B cl_X11 (by decide) in_X11 zw_798 dX11_wantAll_14 (lk_iln B dX11_wantAll_17 rfl (lk_iald B dX11_wantAll_18 (lk_aln B dX11_wantAll_19 rfl (lk_gf (T := TX11) B cl_X11 (by decide) in_X11 zw_823 dX11_wantAll_20 (lk_iln B dX11_wantAll_23 rfl (lk_iald B dX11_wantAll_24 (lk_callv (M := mX11_send) (T := TX11) (N := 41) B (zhR hd1 (by decide)) ⟨Nat.zero_le _, Nat.zero_le _⟩ cl_X11 (zw5 zw_1105 zw_1102 zw_1104 zw_43 zw_58) (by decide +kernel) dX11_wantAll_25 (lk_inc B dX11_wantAll_28 (by decide) (lk_goto B dX11_wantAll_31 (by decide) (fun _ _ _ h => h))))))))))))))
set_option maxRecDepth 20000 in
theorem k_X11_wantAll_2 {p : Program} {l : Launch} {e : Env} {s : State} {m : MethodId} {args : Array Value} {below : List Frame} {meth : Method} {c : Code} {E : zE} {d : Nat} {Q : zQ} (hd1 : 1 ≤ d) (B : zB p s m args c E mX11_wantAll.1.cls mX11_wantAll.2.1 mX11_wantAll.2.2.1) (hr : meth.sig.returnType = mX11_wantAll.2.2.2) (hlk : meth.locks = false) : zLk (zG p l e (zrm d) s m args below meth c E mX11_wantAll.2.2.1 0 0 (MQ below (zQc E Q) args s 0 0 (zaA E))) 2 (b_X11_wantAll_2 d (zG p l e (zrm d) s m args below meth c E mX11_wantAll.2.2.1 0 0 (MQ below (zQc E Q) args s 0 0 (zaA E))) Q) := by
  unfold b_X11_wantAll_2
  exact lk_iln B dX11_wantAll_2 rfl (lk_aln B dX11_wantAll_3 rfl (lk_gf (T := TX11) B cl_X11 (by decide) in_X11 zw_822 dX11_wantAll_4 (lk_ige B dX11_wantAll_7 (by decide) (k_X11_wantAll_34 hd1 B hr hlk) (k_X11_wantAll_10 hd1 B hr hlk))))
def S_X11_wantAll (d : Nat) (G : Nat → zK) (Q : zQ) : Prop := zLk G 0 (b_X11_wantAll_0 d G Q) ∧ zLk G 2 (b_X11_wantAll_2 d G Q)
theorem s_X11_wantAll_0 {d : Nat} {G : Nat → zK} {Q : zQ} (h : S_X11_wantAll d G Q) {ls st : List zV} {μ : zM} (k : b_X11_wantAll_0 d G Q ls st μ) : G 0 ls st μ := h.1 ls st μ k
theorem s_X11_wantAll_2 {d : Nat} {G : Nat → zK} {Q : zQ} (h : S_X11_wantAll d G Q) {ls st : List zV} {μ : zM} (k : b_X11_wantAll_2 d G Q ls st μ) : G 2 ls st μ := h.2 ls st μ k
theorem of_X11_wantAll {d : Nat} {a0 a1 : zV} {μ : zM} {Q : zQ} (hd1 : 1 ≤ d) (h : ∀ G : Nat → zK, S_X11_wantAll d G Q → G 0 [a0, a1, .inr none] [] μ) : zCt d mX11_wantAll [a0, a1] μ Q := zCt.mk (by decide) (Nat.le_of_ble_eq_true rfl) (fun p l e s m args below meth c E B hr hlk => h _ ⟨k_X11_wantAll_0 hd1 B hr hlk, k_X11_wantAll_2 hd1 B hr hlk⟩)
theorem dX11_fetch_0 : decode cX11_fetch 0 = .ok (.iload_n 1, 1) := by decide +kernel
theorem dX11_fetch_1 : decode cX11_fetch 1 = .ok (.invokestatic 132, 3) := by decide +kernel
theorem dX11_fetch_4 : decode cX11_fetch 4 = .ok (.ifCond .eq 25, 3) := by decide +kernel
theorem dX11_fetch_7 : decode cX11_fetch 7 = .ok (.iload_n 2, 1) := by decide +kernel
theorem dX11_fetch_8 : decode cX11_fetch 8 = .ok (.invokestatic 132, 3) := by decide +kernel
theorem dX11_fetch_11 : decode cX11_fetch 11 = .ok (.ifCond .eq 18, 3) := by decide +kernel
theorem dX11_fetch_14 : decode cX11_fetch 14 = .ok (.iload_n 1, 1) := by decide +kernel
theorem dX11_fetch_15 : decode cX11_fetch 15 = .ok (.iload_n 2, 1) := by decide +kernel
theorem dX11_fetch_16 : decode cX11_fetch 16 = .ok (.if_icmp .eq 13, 3) := by decide +kernel
theorem dX11_fetch_19 : decode cX11_fetch 19 = .ok (.iload_n 3, 1) := by decide +kernel
theorem dX11_fetch_20 : decode cX11_fetch 20 = .ok (.ifCond .lt 9, 3) := by decide +kernel
theorem dX11_fetch_23 : decode cX11_fetch 23 = .ok (.iload_n 3, 1) := by decide +kernel
theorem dX11_fetch_24 : decode cX11_fetch 24 = .ok (.ldc 117, 2) := by decide +kernel
theorem dX11_fetch_26 : decode cX11_fetch 26 = .ok (.if_icmp .le 5, 3) := by decide +kernel
theorem dX11_fetch_29 : decode cX11_fetch 29 = .ok (.iconst (-1), 1) := by decide +kernel
theorem dX11_fetch_30 : decode cX11_fetch 30 = .ok (.ireturn, 1) := by decide +kernel
theorem dX11_fetch_31 : decode cX11_fetch 31 = .ok (.aload_n 0, 1) := by decide +kernel
theorem dX11_fetch_32 : decode cX11_fetch 32 = .ok (.getfield 38, 3) := by decide +kernel
theorem dX11_fetch_35 : decode cX11_fetch 35 = .ok (.iload_n 1, 1) := by decide +kernel
theorem dX11_fetch_36 : decode cX11_fetch 36 = .ok (.iload_n 3, 1) := by decide +kernel
theorem dX11_fetch_37 : decode cX11_fetch 37 = .ok (.iastore, 1) := by decide +kernel
theorem dX11_fetch_38 : decode cX11_fetch 38 = .ok (.aload_n 0, 1) := by decide +kernel
theorem dX11_fetch_39 : decode cX11_fetch 39 = .ok (.getfield 41, 3) := by decide +kernel
theorem dX11_fetch_42 : decode cX11_fetch 42 = .ok (.iload_n 1, 1) := by decide +kernel
theorem dX11_fetch_43 : decode cX11_fetch 43 = .ok (.iload_n 2, 1) := by decide +kernel
theorem dX11_fetch_44 : decode cX11_fetch 44 = .ok (.iastore, 1) := by decide +kernel
theorem dX11_fetch_45 : decode cX11_fetch 45 = .ok (.aload_n 0, 1) := by decide +kernel
theorem dX11_fetch_46 : decode cX11_fetch 46 = .ok (.iload_n 1, 1) := by decide +kernel
theorem dX11_fetch_47 : decode cX11_fetch 47 = .ok (.invokevirtual 229, 3) := by decide +kernel
theorem dX11_fetch_50 : decode cX11_fetch 50 = .ok (.aload_n 0, 1) := by decide +kernel
theorem dX11_fetch_51 : decode cX11_fetch 51 = .ok (.getfield 35, 3) := by decide +kernel
theorem dX11_fetch_54 : decode cX11_fetch 54 = .ok (.iload_n 1, 1) := by decide +kernel
theorem dX11_fetch_55 : decode cX11_fetch 55 = .ok (.aload_n 0, 1) := by decide +kernel
theorem dX11_fetch_56 : decode cX11_fetch 56 = .ok (.getfield 214, 3) := by decide +kernel
theorem dX11_fetch_59 : decode cX11_fetch 59 = .ok (.ifCond .ne 7, 3) := by decide +kernel
theorem dX11_fetch_62 : decode cX11_fetch 62 = .ok (.iconst 2, 1) := by decide +kernel
theorem dX11_fetch_63 : decode cX11_fetch 63 = .ok (.goto 4, 3) := by decide +kernel
theorem dX11_fetch_66 : decode cX11_fetch 66 = .ok (.iconst 1, 1) := by decide +kernel
theorem dX11_fetch_67 : decode cX11_fetch 67 = .ok (.iastore, 1) := by decide +kernel
theorem dX11_fetch_68 : decode cX11_fetch 68 = .ok (.aload_n 0, 1) := by decide +kernel
theorem dX11_fetch_69 : decode cX11_fetch 69 = .ok (.iload_n 1, 1) := by decide +kernel
theorem dX11_fetch_70 : decode cX11_fetch 70 = .ok (.invokevirtual 243, 3) := by decide +kernel
theorem dX11_fetch_73 : decode cX11_fetch 73 = .ok (.aload_n 0, 1) := by decide +kernel
theorem dX11_fetch_74 : decode cX11_fetch 74 = .ok (.getfield 214, 3) := by decide +kernel
theorem dX11_fetch_77 : decode cX11_fetch 77 = .ok (.ireturn, 1) := by decide +kernel
def b_X11_fetch_29 (d : Nat) (G : Nat → zK) (Q : zQ) : zK := o_c (-1) <| t_iret Q
def b_X11_fetch_67 (d : Nat) (G : Nat → zK) (Q : zQ) : zK := o_iast <| o_al 0 <| o_il 1 <| o_callv (zCt (d - 1) mX11_wantAll) 9 2 <| o_al 0 <| o_gf 9 34 <| t_iret Q
def b_X11_fetch_66 (d : Nat) (G : Nat → zK) (Q : zQ) : zK := o_c 1 <| b_X11_fetch_67 d G Q
def b_X11_fetch_62 (d : Nat) (G : Nat → zK) (Q : zQ) : zK := o_c 2 <| b_X11_fetch_67 d G Q
def b_X11_fetch_31 (d : Nat) (G : Nat → zK) (Q : zQ) : zK := o_al 0 <| o_gf 9 9 <| o_il 1 <| o_il 3 <| o_iast <| o_al 0 <| o_gf 9 10 <| o_il 1 <| o_il 2 <| o_iast <| o_al 0 <| o_il 1 <| o_callv (zCt (d - 1) mX11_findMissing) 9 2 <| o_al 0 <| o_gf 9 8 <| o_il 1 <| o_al 0 <| o_gf 9 34 <| t_zeq (b_X11_fetch_62 d G Q) (b_X11_fetch_66 d G Q)
def b_X11_fetch_23 (d : Nat) (G : Nat → zK) (Q : zQ) : zK := o_il 3 <| o_c 65520 <| t_igt (b_X11_fetch_29 d G Q) (b_X11_fetch_31 d G Q)
def b_X11_fetch_19 (d : Nat) (G : Nat → zK) (Q : zQ) : zK := o_il 3 <| t_zlt (b_X11_fetch_29 d G Q) (b_X11_fetch_23 d G Q)
def b_X11_fetch_14 (d : Nat) (G : Nat → zK) (Q : zQ) : zK := o_il 1 <| o_il 2 <| t_ieq (b_X11_fetch_29 d G Q) (b_X11_fetch_19 d G Q)
def b_X11_fetch_7 (d : Nat) (G : Nat → zK) (Q : zQ) : zK := o_il 2 <| o_call (zCt (d - 1) mX11_isStore) 1 <| t_zeq (b_X11_fetch_29 d G Q) (b_X11_fetch_14 d G Q)
def b_X11_fetch_0 (d : Nat) (G : Nat → zK) (Q : zQ) : zK := o_il 1 <| o_call (zCt (d - 1) mX11_isStore) 1 <| t_zeq (b_X11_fetch_29 d G Q) (b_X11_fetch_7 d G Q)
set_option maxRecDepth 20000 in
theorem k_X11_fetch_29 {p : Program} {l : Launch} {e : Env} {s : State} {m : MethodId} {args : Array Value} {below : List Frame} {meth : Method} {c : Code} {E : zE} {d : Nat} {Q : zQ} (hd1 : 1 ≤ d) (B : zB p s m args c E mX11_fetch.1.cls mX11_fetch.2.1 mX11_fetch.2.2.1) (hr : meth.sig.returnType = mX11_fetch.2.2.2) (hlk : meth.locks = false) : zLk (zG p l e (zrm d) s m args below meth c E mX11_fetch.2.2.1 0 0 (MQ below (zQc E Q) args s 0 0 (zaA E))) 29 (b_X11_fetch_29 d (zG p l e (zrm d) s m args below meth c E mX11_fetch.2.2.1 0 0 (MQ below (zQc E Q) args s 0 0 (zaA E))) Q) := by
  unfold b_X11_fetch_29
  exact lk_c B dX11_fetch_29 (lk_iret B hr hlk dX11_fetch_30)
set_option maxRecDepth 20000 in
theorem k_X11_fetch_67 {p : Program} {l : Launch} {e : Env} {s : State} {m : MethodId} {args : Array Value} {below : List Frame} {meth : Method} {c : Code} {E : zE} {d : Nat} {Q : zQ} (hd1 : 1 ≤ d) (B : zB p s m args c E mX11_fetch.1.cls mX11_fetch.2.1 mX11_fetch.2.2.1) (hr : meth.sig.returnType = mX11_fetch.2.2.2) (hlk : meth.locks = false) : zLk (zG p l e (zrm d) s m args below meth c E mX11_fetch.2.2.1 0 0 (MQ below (zQc E Q) args s 0 0 (zaA E))) 67 (b_X11_fetch_67 d (zG p l e (zrm d) s m args below meth c E mX11_fetch.2.2.1 0 0 (MQ below (zQc E Q) args s 0 0 (zaA E))) Q) := by
  unfold b_X11_fetch_67
  exact lk_iast B dX11_fetch_67 (lk_aln B dX11_fetch_68 rfl (lk_iln B dX11_fetch_69 rfl (lk_callv (M := mX11_wantAll) (T := TX11) (N := 41) B (zhR hd1 (by decide)) ⟨Nat.zero_le _, Nat.zero_le _⟩ cl_X11 (zw5 zw_1101 zw_1098 zw_1100 zw_42 zw_58) (by decide +kernel) dX11_fetch_70 (lk_aln B dX11_fetch_73 rfl (lk_gf (T := TX11) B cl_X11 (by decide) in_X11 zw_822 dX11_fetch_74 (lk_iret B hr hlk dX11_fetch_77))))))
set_option maxRecDepth 20000 in
theorem k_X11_fetch_66 {p : Program} {l : Launch} {e : Env} {s : State} {m : MethodId} {args : Array Value} {below : List Frame} {meth : Method} {c : Code} {E : zE} {d : Nat} {Q : zQ} (hd1 : 1 ≤ d) (B : zB p s m args c E mX11_fetch.1.cls mX11_fetch.2.1 mX11_fetch.2.2.1) (hr : meth.sig.returnType = mX11_fetch.2.2.2) (hlk : meth.locks = false) : zLk (zG p l e (zrm d) s m args below meth c E mX11_fetch.2.2.1 0 0 (MQ below (zQc E Q) args s 0 0 (zaA E))) 66 (b_X11_fetch_66 d (zG p l e (zrm d) s m args below meth c E mX11_fetch.2.2.1 0 0 (MQ below (zQc E Q) args s 0 0 (zaA E))) Q) := by
  unfold b_X11_fetch_66
  exact lk_c B dX11_fetch_66 (k_X11_fetch_67 hd1 B hr hlk)
set_option maxRecDepth 20000 in
theorem k_X11_fetch_62 {p : Program} {l : Launch} {e : Env} {s : State} {m : MethodId} {args : Array Value} {below : List Frame} {meth : Method} {c : Code} {E : zE} {d : Nat} {Q : zQ} (hd1 : 1 ≤ d) (B : zB p s m args c E mX11_fetch.1.cls mX11_fetch.2.1 mX11_fetch.2.2.1) (hr : meth.sig.returnType = mX11_fetch.2.2.2) (hlk : meth.locks = false) : zLk (zG p l e (zrm d) s m args below meth c E mX11_fetch.2.2.1 0 0 (MQ below (zQc E Q) args s 0 0 (zaA E))) 62 (b_X11_fetch_62 d (zG p l e (zrm d) s m args below meth c E mX11_fetch.2.2.1 0 0 (MQ below (zQc E Q) args s 0 0 (zaA E))) Q) := by
  unfold b_X11_fetch_62
  exact lk_c B dX11_fetch_62 (lk_goto B dX11_fetch_63 (by decide) (k_X11_fetch_67 hd1 B hr hlk))
set_option maxRecDepth 20000 in
theorem k_X11_fetch_31 {p : Program} {l : Launch} {e : Env} {s : State} {m : MethodId} {args : Array Value} {below : List Frame} {meth : Method} {c : Code} {E : zE} {d : Nat} {Q : zQ} (hd1 : 1 ≤ d) (B : zB p s m args c E mX11_fetch.1.cls mX11_fetch.2.1 mX11_fetch.2.2.1) (hr : meth.sig.returnType = mX11_fetch.2.2.2) (hlk : meth.locks = false) : zLk (zG p l e (zrm d) s m args below meth c E mX11_fetch.2.2.1 0 0 (MQ below (zQc E Q) args s 0 0 (zaA E))) 31 (b_X11_fetch_31 d (zG p l e (zrm d) s m args below meth c E mX11_fetch.2.2.1 0 0 (MQ below (zQc E Q) args s 0 0 (zaA E))) Q) := by
  unfold b_X11_fetch_31
  exact lk_aln B dX11_fetch_31 rfl (lk_gf (T := TX11) B cl_X11 (by decide) in_X11 zw_797 dX11_fetch_32 (lk_iln B dX11_fetch_35 rfl (lk_iln B dX11_fetch_36 rfl (lk_iast B dX11_fetch_37 (lk_aln B dX11_fetch_38 rfl (lk_gf (T := TX11) B cl_X11 (by decide) in_X11 zw_798 dX11_fetch_39 (lk_iln B dX11_fetch_42 rfl (lk_iln B dX11_fetch_43 rfl (lk_iast B dX11_fetch_44 (lk_aln B dX11_fetch_45 rfl (lk_iln B dX11_fetch_46 rfl (lk_callv (M := mX11_findMissing) (T := TX11) (N := 41) B (zhR hd1 (by decide)) ⟨Nat.zero_le _, Nat.zero_le _⟩ cl_X11 (zw5 zw_979 zw_976 zw_978 zw_24 zw_58) (by decide +kernel) dX11_fetch_47 (lk_aln B dX11_fetch_50 rfl (lk_gf (T := TX11) B cl_X11 (by decide) in_X11 zw_796 dX11_fetch_51 (lk_iln B dX11_fetch_54 rfl (lk_aln B dX11_fetch_55 rfl (lk_gf (T := TX11) B cl_X11 (by decide) in_X11 zw_822 dX11_fetch_56 (lk_zne B dX11_fetch_59 (by decide) (k_X11_fetch_66 hd1 B hr hlk) (k_X11_fetch_62 hd1 B hr hlk)))))))))))))))))))
set_option maxRecDepth 20000 in
theorem k_X11_fetch_23 {p : Program} {l : Launch} {e : Env} {s : State} {m : MethodId} {args : Array Value} {below : List Frame} {meth : Method} {c : Code} {E : zE} {d : Nat} {Q : zQ} (hd1 : 1 ≤ d) (B : zB p s m args c E mX11_fetch.1.cls mX11_fetch.2.1 mX11_fetch.2.2.1) (hr : meth.sig.returnType = mX11_fetch.2.2.2) (hlk : meth.locks = false) : zLk (zG p l e (zrm d) s m args below meth c E mX11_fetch.2.2.1 0 0 (MQ below (zQc E Q) args s 0 0 (zaA E))) 23 (b_X11_fetch_23 d (zG p l e (zrm d) s m args below meth c E mX11_fetch.2.2.1 0 0 (MQ below (zQc E Q) args s 0 0 (zaA E))) Q) := by
  unfold b_X11_fetch_23
  exact lk_iln B dX11_fetch_23 rfl (lk_ldc B zw_933 rfl dX11_fetch_24 (lk_ile B dX11_fetch_26 (by decide) (k_X11_fetch_31 hd1 B hr hlk) (k_X11_fetch_29 hd1 B hr hlk)))
set_option maxRecDepth 20000 in
theorem k_X11_fetch_19 {p : Program} {l : Launch} {e : Env} {s : State} {m : MethodId} {args : Array Value} {below : List Frame} {meth : Method} {c : Code} {E : zE} {d : Nat} {Q : zQ} (hd1 : 1 ≤ d) (B : zB p s m args c E mX11_fetch.1.cls mX11_fetch.2.1 mX11_fetch.2.2.1) (hr : meth.sig.returnType = mX11_fetch.2.2.2) (hlk : meth.locks = false) : zLk (zG p l e (zrm d) s m args below meth c E mX11_fetch.2.2.1 0 0 (MQ below (zQc E Q) args s 0 0 (zaA E))) 19 (b_X11_fetch_19 d (zG p l e (zrm d) s m args below meth c E mX11_fetch.2.2.1 0 0 (MQ below (zQc E Q) args s 0 0 (zaA E))) Q) := by
  unfold b_X11_fetch_19
  exact lk_iln B dX11_fetch_19 rfl (lk_zlt B dX11_fetch_20 (by decide) (k_X11_fetch_29 hd1 B hr hlk) (k_X11_fetch_23 hd1 B hr hlk))
set_option maxRecDepth 20000 in
theorem k_X11_fetch_14 {p : Program} {l : Launch} {e : Env} {s : State} {m : MethodId} {args : Array Value} {below : List Frame} {meth : Method} {c : Code} {E : zE} {d : Nat} {Q : zQ} (hd1 : 1 ≤ d) (B : zB p s m args c E mX11_fetch.1.cls mX11_fetch.2.1 mX11_fetch.2.2.1) (hr : meth.sig.returnType = mX11_fetch.2.2.2) (hlk : meth.locks = false) : zLk (zG p l e (zrm d) s m args below meth c E mX11_fetch.2.2.1 0 0 (MQ below (zQc E Q) args s 0 0 (zaA E))) 14 (b_X11_fetch_14 d (zG p l e (zrm d) s m args below meth c E mX11_fetch.2.2.1 0 0 (MQ below (zQc E Q) args s 0 0 (zaA E))) Q) := by
  unfold b_X11_fetch_14
  exact lk_iln B dX11_fetch_14 rfl (lk_iln B dX11_fetch_15 rfl (lk_ieq B dX11_fetch_16 (by decide) (k_X11_fetch_29 hd1 B hr hlk) (k_X11_fetch_19 hd1 B hr hlk)))
set_option maxRecDepth 20000 in
theorem k_X11_fetch_7 {p : Program} {l : Launch} {e : Env} {s : State} {m : MethodId} {args : Array Value} {below : List Frame} {meth : Method} {c : Code} {E : zE} {d : Nat} {Q : zQ} (hd1 : 1 ≤ d) (B : zB p s m args c E mX11_fetch.1.cls mX11_fetch.2.1 mX11_fetch.2.2.1) (hr : meth.sig.returnType = mX11_fetch.2.2.2) (hlk : meth.locks = false) : zLk (zG p l e (zrm d) s m args below meth c E mX11_fetch.2.2.1 0 0 (MQ below (zQc E Q) args s 0 0 (zaA E))) 7 (b_X11_fetch_7 d (zG p l e (zrm d) s m args below meth c E mX11_fetch.2.2.1 0 0 (MQ below (zQc E Q) args s 0 0 (zaA E))) Q) := by
  unfold b_X11_fetch_7
  exact lk_iln B dX11_fetch_7 rfl (lk_calls (M := mX11_isStore) B (zhR hd1 (by decide)) ⟨Nat.zero_le _, Nat.zero_le _⟩ (zw4 zw_944 zw_942 zw_943 zw_58) (by decide +kernel) dX11_fetch_8 (lk_zeq B dX11_fetch_11 (by decide) (k_X11_fetch_29 hd1 B hr hlk) (k_X11_fetch_14 hd1 B hr hlk)))
set_option maxRecDepth 20000 in
theorem k_X11_fetch_0 {p : Program} {l : Launch} {e : Env} {s : State} {m : MethodId} {args : Array Value} {below : List Frame} {meth : Method} {c : Code} {E : zE} {d : Nat} {Q : zQ} (hd1 : 1 ≤ d) (B : zB p s m args c E mX11_fetch.1.cls mX11_fetch.2.1 mX11_fetch.2.2.1) (hr : meth.sig.returnType = mX11_fetch.2.2.2) (hlk : meth.locks = false) : zLk (zG p l e (zrm d) s m args below meth c E mX11_fetch.2.2.1 0 0 (MQ below (zQc E Q) args s 0 0 (zaA E))) 0 (b_X11_fetch_0 d (zG p l e (zrm d) s m args below meth c E mX11_fetch.2.2.1 0 0 (MQ below (zQc E Q) args s 0 0 (zaA E))) Q) := by
  unfold b_X11_fetch_0
  exact lk_iln B dX11_fetch_0 rfl (lk_calls (M := mX11_isStore) B (zhR hd1 (by decide)) ⟨Nat.zero_le _, Nat.zero_le _⟩ (zw4 zw_944 zw_942 zw_943 zw_58) (by decide +kernel) dX11_fetch_1 (lk_zeq B dX11_fetch_4 (by decide) (k_X11_fetch_29 hd1 B hr hlk) (k_X11_fetch_7 hd1 B hr hlk)))
def S_X11_fetch (d : Nat) (G : Nat → zK) (Q : zQ) : Prop := zLk G 0 (b_X11_fetch_0 d G Q)
theorem s_X11_fetch_0 {d : Nat} {G : Nat → zK} {Q : zQ} (h : S_X11_fetch d G Q) {ls st : List zV} {μ : zM} (k : b_X11_fetch_0 d G Q ls st μ) : G 0 ls st μ := h ls st μ k
theorem of_X11_fetch {d : Nat} {a0 a1 a2 a3 : zV} {μ : zM} {Q : zQ} (hd1 : 1 ≤ d) (h : ∀ G : Nat → zK, S_X11_fetch d G Q → G 0 [a0, a1, a2, a3] [] μ) : zCt d mX11_fetch [a0, a1, a2, a3] μ Q := zCt.mk (by decide) (Nat.le_of_ble_eq_true rfl) (fun p l e s m args below meth c E B hr hlk => h _ (k_X11_fetch_0 hd1 B hr hlk))
theorem dX11_retry_0 : decode cX11_retry 0 = .ok (.iload_n 1, 1) := by decide +kernel
theorem dX11_retry_1 : decode cX11_retry 1 = .ok (.invokestatic 132, 3) := by decide +kernel
theorem dX11_retry_4 : decode cX11_retry 4 = .ok (.ifCond .eq 13, 3) := by decide +kernel
theorem dX11_retry_7 : decode cX11_retry 7 = .ok (.aload_n 0, 1) := by decide +kernel
theorem dX11_retry_8 : decode cX11_retry 8 = .ok (.getfield 35, 3) := by decide +kernel
theorem dX11_retry_11 : decode cX11_retry 11 = .ok (.iload_n 1, 1) := by decide +kernel
theorem dX11_retry_12 : decode cX11_retry 12 = .ok (.iaload, 1) := by decide +kernel
theorem dX11_retry_13 : decode cX11_retry 13 = .ok (.iconst 1, 1) := by decide +kernel
theorem dX11_retry_14 : decode cX11_retry 14 = .ok (.if_icmp .eq 5, 3) := by decide +kernel
theorem dX11_retry_17 : decode cX11_retry 17 = .ok (.iconst (-1), 1) := by decide +kernel
theorem dX11_retry_18 : decode cX11_retry 18 = .ok (.ireturn, 1) := by decide +kernel
theorem dX11_retry_19 : decode cX11_retry 19 = .ok (.aload_n 0, 1) := by decide +kernel
theorem dX11_retry_20 : decode cX11_retry 20 = .ok (.iload_n 1, 1) := by decide +kernel
theorem dX11_retry_21 : decode cX11_retry 21 = .ok (.invokevirtual 229, 3) := by decide +kernel
theorem dX11_retry_24 : decode cX11_retry 24 = .ok (.aload_n 0, 1) := by decide +kernel
theorem dX11_retry_25 : decode cX11_retry 25 = .ok (.iload_n 1, 1) := by decide +kernel
theorem dX11_retry_26 : decode cX11_retry 26 = .ok (.invokevirtual 243, 3) := by decide +kernel
theorem dX11_retry_29 : decode cX11_retry 29 = .ok (.aload_n 0, 1) := by decide +kernel
theorem dX11_retry_30 : decode cX11_retry 30 = .ok (.getfield 214, 3) := by decide +kernel
theorem dX11_retry_33 : decode cX11_retry 33 = .ok (.ireturn, 1) := by decide +kernel
def b_X11_retry_17 (d : Nat) (G : Nat → zK) (Q : zQ) : zK := o_c (-1) <| t_iret Q
def b_X11_retry_19 (d : Nat) (G : Nat → zK) (Q : zQ) : zK := o_al 0 <| o_il 1 <| o_callv (zCt (d - 1) mX11_findMissing) 9 2 <| o_al 0 <| o_il 1 <| o_callv (zCt (d - 1) mX11_wantAll) 9 2 <| o_al 0 <| o_gf 9 34 <| t_iret Q
def b_X11_retry_7 (d : Nat) (G : Nat → zK) (Q : zQ) : zK := o_al 0 <| o_gf 9 8 <| o_il 1 <| o_iald <| o_c 1 <| t_ieq (b_X11_retry_19 d G Q) (b_X11_retry_17 d G Q)
def b_X11_retry_0 (d : Nat) (G : Nat → zK) (Q : zQ) : zK := o_il 1 <| o_call (zCt (d - 1) mX11_isStore) 1 <| t_zeq (b_X11_retry_17 d G Q) (b_X11_retry_7 d G Q)
set_option maxRecDepth 20000 in
theorem k_X11_retry_17 {p : Program} {l : Launch} {e : Env} {s : State} {m : MethodId} {args : Array Value} {below : List Frame} {meth : Method} {c : Code} {E : zE} {d : Nat} {Q : zQ} (hd1 : 1 ≤ d) (B : zB p s m args c E mX11_retry.1.cls mX11_retry.2.1 mX11_retry.2.2.1) (hr : meth.sig.returnType = mX11_retry.2.2.2) (hlk : meth.locks = false) : zLk (zG p l e (zrm d) s m args below meth c E mX11_retry.2.2.1 0 0 (MQ below (zQc E Q) args s 0 0 (zaA E))) 17 (b_X11_retry_17 d (zG p l e (zrm d) s m args below meth c E mX11_retry.2.2.1 0 0 (MQ below (zQc E Q) args s 0 0 (zaA E))) Q) := by
  unfold b_X11_retry_17
  exact lk_c B dX11_retry_17 (lk_iret B hr hlk dX11_retry_18)
set_option maxRecDepth 20000 in
theorem k_X11_retry_19 {p : Program} {l : Launch} {e : Env} {s : State} {m : MethodId} {args : Array Value} {below : List Frame} {meth : Method} {c : Code} {E : zE} {d : Nat} {Q : zQ} (hd1 : 1 ≤ d) (B : zB p s m args c E mX11_retry.1.cls mX11_retry.2.1 mX11_retry.2.2.1) (hr : meth.sig.returnType = mX11_retry.2.2.2) (hlk : meth.locks = false) : zLk (zG p l e (zrm d) s m args below meth c E mX11_retry.2.2.1 0 0 (MQ below (zQc E Q) args s 0 0 (zaA E))) 19 (b_X11_retry_19 d (zG p l e (zrm d) s m args below meth c E mX11_retry.2.2.1 0 0 (MQ below (zQc E Q) args s 0 0 (zaA E))) Q) := by
  unfold b_X11_retry_19
  exact lk_aln B dX11_retry_19 rfl (lk_iln B dX11_retry_20 rfl (lk_callv (M := mX11_findMissing) (T := TX11) (N := 41) B (zhR hd1 (by decide)) ⟨Nat.zero_le _, Nat.zero_le _⟩ cl_X11 (zw5 zw_979 zw_976 zw_978 zw_24 zw_58) (by decide +kernel) dX11_retry_21 (lk_aln B dX11_retry_24 rfl (lk_iln B dX11_retry_25 rfl (lk_callv (M := mX11_wantAll) (T := TX11) (N := 41) B (zhR hd1 (by decide)) ⟨Nat.zero_le _, Nat.zero_le _⟩ cl_X11 (zw5 zw_1101 zw_1098 zw_1100 zw_42 zw_58) (by decide +kernel) dX11_retry_26 (lk_aln B dX11_retry_29 rfl (lk_gf (T := TX11) B cl_X11 (by decide) in_X11 zw_822 dX11_retry_30 (lk_iret B hr hlk dX11_retry_33))))))))
set_option maxRecDepth 20000 in
theorem k_X11_retry_7 {p : Program} {l : Launch} {e : Env} {s : State} {m : MethodId} {args : Array Value} {below : List Frame} {meth : Method} {c : Code} {E : zE} {d : Nat} {Q : zQ} (hd1 : 1 ≤ d) (B : zB p s m args c E mX11_retry.1.cls mX11_retry.2.1 mX11_retry.2.2.1) (hr : meth.sig.returnType = mX11_retry.2.2.2) (hlk : meth.locks = false) : zLk (zG p l e (zrm d) s m args below meth c E mX11_retry.2.2.1 0 0 (MQ below (zQc E Q) args s 0 0 (zaA E))) 7 (b_X11_retry_7 d (zG p l e (zrm d) s m args below meth c E mX11_retry.2.2.1 0 0 (MQ below (zQc E Q) args s 0 0 (zaA E))) Q) := by
  unfold b_X11_retry_7
  exact lk_aln B dX11_retry_7 rfl (lk_gf (T := TX11) B cl_X11 (by decide) in_X11 zw_796 dX11_retry_8 (lk_iln B dX11_retry_11 rfl (lk_iald B dX11_retry_12 (lk_c B dX11_retry_13 (lk_ieq B dX11_retry_14 (by decide) (k_X11_retry_19 hd1 B hr hlk) (k_X11_retry_17 hd1 B hr hlk))))))
set_option maxRecDepth 20000 in
theorem k_X11_retry_0 {p : Program} {l : Launch} {e : Env} {s : State} {m : MethodId} {args : Array Value} {below : List Frame} {meth : Method} {c : Code} {E : zE} {d : Nat} {Q : zQ} (hd1 : 1 ≤ d) (B : zB p s m args c E mX11_retry.1.cls mX11_retry.2.1 mX11_retry.2.2.1) (hr : meth.sig.returnType = mX11_retry.2.2.2) (hlk : meth.locks = false) : zLk (zG p l e (zrm d) s m args below meth c E mX11_retry.2.2.1 0 0 (MQ below (zQc E Q) args s 0 0 (zaA E))) 0 (b_X11_retry_0 d (zG p l e (zrm d) s m args below meth c E mX11_retry.2.2.1 0 0 (MQ below (zQc E Q) args s 0 0 (zaA E))) Q) := by
  unfold b_X11_retry_0
  exact lk_iln B dX11_retry_0 rfl (lk_calls (M := mX11_isStore) B (zhR hd1 (by decide)) ⟨Nat.zero_le _, Nat.zero_le _⟩ (zw4 zw_944 zw_942 zw_943 zw_58) (by decide +kernel) dX11_retry_1 (lk_zeq B dX11_retry_4 (by decide) (k_X11_retry_17 hd1 B hr hlk) (k_X11_retry_7 hd1 B hr hlk)))
def S_X11_retry (d : Nat) (G : Nat → zK) (Q : zQ) : Prop := zLk G 0 (b_X11_retry_0 d G Q)
theorem s_X11_retry_0 {d : Nat} {G : Nat → zK} {Q : zQ} (h : S_X11_retry d G Q) {ls st : List zV} {μ : zM} (k : b_X11_retry_0 d G Q ls st μ) : G 0 ls st μ := h ls st μ k
theorem of_X11_retry {d : Nat} {a0 a1 : zV} {μ : zM} {Q : zQ} (hd1 : 1 ≤ d) (h : ∀ G : Nat → zK, S_X11_retry d G Q → G 0 [a0, a1] [] μ) : zCt d mX11_retry [a0, a1] μ Q := zCt.mk (by decide) (Nat.le_of_ble_eq_true rfl) (fun p l e s m args below meth c E B hr hlk => h _ (k_X11_retry_0 hd1 B hr hlk))
theorem dX11_takeOut_0 : decode cX11_takeOut 0 = .ok (.iload_n 1, 1) := by decide +kernel
theorem dX11_takeOut_1 : decode cX11_takeOut 1 = .ok (.istore_n 2, 1) := by decide +kernel
theorem dX11_takeOut_2 : decode cX11_takeOut 2 = .ok (.iload_n 2, 1) := by decide +kernel
theorem dX11_takeOut_3 : decode cX11_takeOut 3 = .ok (.iconst 1, 1) := by decide +kernel
theorem dX11_takeOut_4 : decode cX11_takeOut 4 = .ok (.iadd, 1) := by decide +kernel
theorem dX11_takeOut_5 : decode cX11_takeOut 5 = .ok (.aload_n 0, 1) := by decide +kernel
theorem dX11_takeOut_6 : decode cX11_takeOut 6 = .ok (.getfield 236, 3) := by decide +kernel
theorem dX11_takeOut_9 : decode cX11_takeOut 9 = .ok (.if_icmp .ge 118, 3) := by decide +kernel
theorem dX11_takeOut_12 : decode cX11_takeOut 12 = .ok (.aload_n 0, 1) := by decide +kernel
theorem dX11_takeOut_13 : decode cX11_takeOut 13 = .ok (.getfield 44, 3) := by decide +kernel
theorem dX11_takeOut_16 : decode cX11_takeOut 16 = .ok (.iload_n 2, 1) := by decide +kernel
theorem dX11_takeOut_17 : decode cX11_takeOut 17 = .ok (.aload_n 0, 1) := by decide +kernel
theorem dX11_takeOut_18 : decode cX11_takeOut 18 = .ok (.getfield 44, 3) := by decide +kernel
theorem dX11_takeOut_21 : decode cX11_takeOut 21 = .ok (.iload_n 2, 1) := by decide +kernel
theorem dX11_takeOut_22 : decode cX11_takeOut 22 = .ok (.iconst 1, 1) := by decide +kernel
theorem dX11_takeOut_23 : decode cX11_takeOut 23 = .ok (.iadd, 1) := by decide +kernel
theorem dX11_takeOut_24 : decode cX11_takeOut 24 = .ok (.iaload, 1) := by decide +kernel
theorem dX11_takeOut_25 : decode cX11_takeOut 25 = .ok (.iastore, 1) := by decide +kernel
theorem dX11_takeOut_26 : decode cX11_takeOut 26 = .ok (.aload_n 0, 1) := by decide +kernel
theorem dX11_takeOut_27 : decode cX11_takeOut 27 = .ok (.getfield 47, 3) := by decide +kernel
theorem dX11_takeOut_30 : decode cX11_takeOut 30 = .ok (.iload_n 2, 1) := by decide +kernel
theorem dX11_takeOut_31 : decode cX11_takeOut 31 = .ok (.aload_n 0, 1) := by decide +kernel
theorem dX11_takeOut_32 : decode cX11_takeOut 32 = .ok (.getfield 47, 3) := by decide +kernel
theorem dX11_takeOut_35 : decode cX11_takeOut 35 = .ok (.iload_n 2, 1) := by decide +kernel
theorem dX11_takeOut_36 : decode cX11_takeOut 36 = .ok (.iconst 1, 1) := by decide +kernel
theorem dX11_takeOut_37 : decode cX11_takeOut 37 = .ok (.iadd, 1) := by decide +kernel
theorem dX11_takeOut_38 : decode cX11_takeOut 38 = .ok (.iaload, 1) := by decide +kernel
theorem dX11_takeOut_39 : decode cX11_takeOut 39 = .ok (.iastore, 1) := by decide +kernel
theorem dX11_takeOut_40 : decode cX11_takeOut 40 = .ok (.aload_n 0, 1) := by decide +kernel
theorem dX11_takeOut_41 : decode cX11_takeOut 41 = .ok (.getfield 50, 3) := by decide +kernel
theorem dX11_takeOut_44 : decode cX11_takeOut 44 = .ok (.iload_n 2, 1) := by decide +kernel
theorem dX11_takeOut_45 : decode cX11_takeOut 45 = .ok (.aload_n 0, 1) := by decide +kernel
theorem dX11_takeOut_46 : decode cX11_takeOut 46 = .ok (.getfield 50, 3) := by decide +kernel
theorem dX11_takeOut_49 : decode cX11_takeOut 49 = .ok (.iload_n 2, 1) := by decide +kernel
theorem dX11_takeOut_50 : decode cX11_takeOut 50 = .ok (.iconst 1, 1) := by decide +kernel
theorem dX11_takeOut_51 : decode cX11_takeOut 51 = .ok (.iadd, 1) := by decide +kernel
theorem dX11_takeOut_52 : decode cX11_takeOut 52 = .ok (.iaload, 1) := by decide +kernel
theorem dX11_takeOut_53 : decode cX11_takeOut 53 = .ok (.iastore, 1) := by decide +kernel
theorem dX11_takeOut_54 : decode cX11_takeOut 54 = .ok (.aload_n 0, 1) := by decide +kernel
theorem dX11_takeOut_55 : decode cX11_takeOut 55 = .ok (.getfield 53, 3) := by decide +kernel
theorem dX11_takeOut_58 : decode cX11_takeOut 58 = .ok (.iload_n 2, 1) := by decide +kernel
theorem dX11_takeOut_59 : decode cX11_takeOut 59 = .ok (.aload_n 0, 1) := by decide +kernel
theorem dX11_takeOut_60 : decode cX11_takeOut 60 = .ok (.getfield 53, 3) := by decide +kernel
theorem dX11_takeOut_63 : decode cX11_takeOut 63 = .ok (.iload_n 2, 1) := by decide +kernel
theorem dX11_takeOut_64 : decode cX11_takeOut 64 = .ok (.iconst 1, 1) := by decide +kernel
theorem dX11_takeOut_65 : decode cX11_takeOut 65 = .ok (.iadd, 1) := by decide +kernel
theorem dX11_takeOut_66 : decode cX11_takeOut 66 = .ok (.iaload, 1) := by decide +kernel
theorem dX11_takeOut_67 : decode cX11_takeOut 67 = .ok (.iastore, 1) := by decide +kernel
theorem dX11_takeOut_68 : decode cX11_takeOut 68 = .ok (.aload_n 0, 1) := by decide +kernel
theorem dX11_takeOut_69 : decode cX11_takeOut 69 = .ok (.getfield 56, 3) := by decide +kernel
theorem dX11_takeOut_72 : decode cX11_takeOut 72 = .ok (.iload_n 2, 1) := by decide +kernel
theorem dX11_takeOut_73 : decode cX11_takeOut 73 = .ok (.aload_n 0, 1) := by decide +kernel
theorem dX11_takeOut_74 : decode cX11_takeOut 74 = .ok (.getfield 56, 3) := by decide +kernel
theorem dX11_takeOut_77 : decode cX11_takeOut 77 = .ok (.iload_n 2, 1) := by decide +kernel
theorem dX11_takeOut_78 : decode cX11_takeOut 78 = .ok (.iconst 1, 1) := by decide +kernel
theorem dX11_takeOut_79 : decode cX11_takeOut 79 = .ok (.iadd, 1) := by decide +kernel
theorem dX11_takeOut_80 : decode cX11_takeOut 80 = .ok (.iaload, 1) := by decide +kernel
theorem dX11_takeOut_81 : decode cX11_takeOut 81 = .ok (.iastore, 1) := by decide +kernel
theorem dX11_takeOut_82 : decode cX11_takeOut 82 = .ok (.iconst 0, 1) := by decide +kernel
theorem dX11_takeOut_83 : decode cX11_takeOut 83 = .ok (.istore_n 3, 1) := by decide +kernel
theorem dX11_takeOut_84 : decode cX11_takeOut 84 = .ok (.iload_n 3, 1) := by decide +kernel
theorem dX11_takeOut_85 : decode cX11_takeOut 85 = .ok (.bipush 18, 2) := by decide +kernel
theorem dX11_takeOut_87 : decode cX11_takeOut 87 = .ok (.if_icmp .ge 34, 3) := by decide +kernel
theorem dX11_takeOut_90 : decode cX11_takeOut 90 = .ok (.aload_n 0, 1) := by decide +kernel
theorem dX11_takeOut_91 : decode cX11_takeOut 91 = .ok (.getfield 59, 3) := by decide +kernel
theorem dX11_takeOut_94 : decode cX11_takeOut 94 = .ok (.bipush 18, 2) := by decide +kernel
theorem dX11_takeOut_96 : decode cX11_takeOut 96 = .ok (.iload_n 2, 1) := by decide +kernel
theorem dX11_takeOut_97 : decode cX11_takeOut 97 = .ok (.imul, 1) := by decide +kernel
theorem dX11_takeOut_98 : decode cX11_takeOut 98 = .ok (.iload_n 3, 1) := by decide +kernel
theorem dX11_takeOut_99 : decode cX11_takeOut 99 = .ok (.iadd, 1) := by decide +kernel
theorem dX11_takeOut_100 : decode cX11_takeOut 100 = .ok (.aload_n 0, 1) := by decide +kernel
theorem dX11_takeOut_101 : decode cX11_takeOut 101 = .ok (.getfield 59, 3) := by decide +kernel
theorem dX11_takeOut_104 : decode cX11_takeOut 104 = .ok (.bipush 18, 2) := by decide +kernel
theorem dX11_takeOut_106 : decode cX11_takeOut 106 = .ok (.iload_n 2, 1) := by decide +kernel
theorem dX11_takeOut_107 : decode cX11_takeOut 107 = .ok (.imul, 1) := by decide +kernel
theorem dX11_takeOut_108 : decode cX11_takeOut 108 = .ok (.bipush 18, 2) := by decide +kernel
theorem dX11_takeOut_110 : decode cX11_takeOut 110 = .ok (.iadd, 1) := by decide +kernel
theorem dX11_takeOut_111 : decode cX11_takeOut 111 = .ok (.iload_n 3, 1) := by decide +kernel
theorem dX11_takeOut_112 : decode cX11_takeOut 112 = .ok (.iadd, 1) := by decide +kernel
theorem dX11_takeOut_113 : decode cX11_takeOut 113 = .ok (.iaload, 1) := by decide +kernel
theorem dX11_takeOut_114 : decode cX11_takeOut 114 = .ok (.iastore, 1) := by decide +kernel
theorem dX11_takeOut_115 : decode cX11_takeOut 115 = .ok (.iinc 3 1, 3) := by decide +kernel
theorem dX11_takeOut_118 : decode cX11_takeOut 118 = .ok (.goto (-34), 3) := by decide +kernel
theorem dX11_takeOut_121 : decode cX11_takeOut 121 = .ok (.iinc 2 1, 3) := by decide +kernel
theorem dX11_takeOut_124 : decode cX11_takeOut 124 = .ok (.goto (-122), 3) := by decide +kernel
theorem dX11_takeOut_127 : decode cX11_takeOut 127 = .ok (.aload_n 0, 1) := by decide +kernel
theorem dX11_takeOut_128 : decode cX11_takeOut 128 = .ok (.dup, 1) := by decide +kernel
theorem dX11_takeOut_129 : decode cX11_takeOut 129 = .ok (.getfield 236, 3) := by decide +kernel
theorem dX11_takeOut_132 : decode cX11_takeOut 132 = .ok (.iconst 1, 1) := by decide +kernel
theorem dX11_takeOut_133 : decode cX11_takeOut 133 = .ok (.isub, 1) := by decide +kernel
theorem dX11_takeOut_134 : decode cX11_takeOut 134 = .ok (.putfield 236, 3) := by decide +kernel
theorem dX11_takeOut_137 : decode cX11_takeOut 137 = .ok (.return_, 1) := by decide +kernel
def b_X11_takeOut_0 (d : Nat) (G : Nat → zK) (Q : zQ) : zK := o_il 1 <| o_is 2 <| G 2
def b_X11_takeOut_127 (d : Nat) (G : Nat → zK) (Q : zQ) : zK := o_al 0 <| o_dup <| o_gf 9 11 <| o_c 1 <| o_sub <| o_pf 9 11 <| t_vret Q
def b_X11_takeOut_12 (d : Nat) (G : Nat → zK) (Q : zQ) : zK := o_al 0 <| o_gf 9 12 <| o_il 2 <| o_al 0 <| o_gf 9 12 <| o_il 2 <| o_c 1 <| o_add <| o_iald <| o_iast <| o_al 0 <| o_gf 9 13 <| o_il 2 <| o_al 0 <| o_gf 9 13 <| o_il 2 <| o_c 1 <| o_add <| o_iald <| o_iast <| o_al 0 <| o_gf 9 14 <| o_il 2 <| o_al 0 <| o_gf 9 14 <| o_il 2 <| o_c 1 <| o_add <| o_iald <| o_iast <| o_al 0 <| o_gf 9 15 <| o_il 2 <| o_al 0 <| o_gf 9 15 <| o_il 2 <| o_c 1 <| o_add <| o_iald <| o_iast <| o_al 0 <| o_gf 9 16 <| o_il 2 <| o_al 0 <| o_gf 9 16 <| o_il 2 <| o_c 1 <| o_add <| o_iald <| o_iast <| o_c 0 <| o_is 3 <| G 84
def b_X11_takeOut_2 (d : Nat) (G : Nat → zK) (Q : zQ) : zK := o_il 2 <| o_c 1 <| o_add <| o_al 0 <| o_gf 9 11 <| t_ilt (b_X11_takeOut_12 d G Q) (b_X11_takeOut_127 d G Q)
def b_X11_takeOut_121 (d : Nat) (G : Nat → zK) (Q : zQ) : zK := o_inc 2 1 <| G 2
def b_X11_takeOut_90 (d : Nat) (G : Nat → zK) (Q : zQ) : zK := o_al 0 <| o_gf 9 17 <| o_c 18 <| o_il 2 <| o_mul <| o_il 3 <| o_add <| o_al 0 <| o_gf 9 17 <| o_c 18 <| o_il 2 <| o_mul <| o_c 18 <| o_add <| o_il 3 <| o_add <| o_iald <| o_iast <| o_inc 3 1 <| G 84
def b_X11_takeOut_84 (d : Nat) (G : Nat → zK) (Q : zQ) : zK := o_il 3 <| o_c 18 <| t_ilt (b_X11_takeOut_90 d G Q) (b_X11_takeOut_121 d G Q)
set_option maxRecDepth 20000 in
theorem k_X11_takeOut_0 {p : Program} {l : Launch} {e : Env} {s : State} {m : MethodId} {args : Array Value} {below : List Frame} {meth : Method} {c : Code} {E : zE} {d : Nat} {Q : zQ} (B : zB p s m args c E mX11_takeOut.1.cls mX11_takeOut.2.1 mX11_takeOut.2.2.1) (hr : meth.sig.returnType = mX11_takeOut.2.2.2) (hlk : meth.locks = false) : zLk (zG p l e (zrm d) s m args below meth c E mX11_takeOut.2.2.1 0 0 (MQ below (zQc E Q) args s 0 0 (zaA E))) 0 (b_X11_takeOut_0 d (zG p l e (zrm d) s m args below meth c E mX11_takeOut.2.2.1 0 0 (MQ below (zQc E Q) args s 0 0 (zaA E))) Q) := by
  unfold b_X11_takeOut_0
  exact lk_iln B dX11_takeOut_0 rfl (lk_isn B dX11_takeOut_1 rfl (by decide) (fun _ _ _ h => h))
set_option maxRecDepth 20000 in
theorem k_X11_takeOut_127 {p : Program} {l : Launch} {e : Env} {s : State} {m : MethodId} {args : Array Value} {below : List Frame} {meth : Method} {c : Code} {E : zE} {d : Nat} {Q : zQ} (B : zB p s m args c E mX11_takeOut.1.cls mX11_takeOut.2.1 mX11_takeOut.2.2.1) (hr : meth.sig.returnType = mX11_takeOut.2.2.2) (hlk : meth.locks = false) : zLk (zG p l e (zrm d) s m args below meth c E mX11_takeOut.2.2.1 0 0 (MQ below (zQc E Q) args s 0 0 (zaA E))) 127 (b_X11_takeOut_127 d (zG p l e (zrm d) s m args below meth c E mX11_takeOut.2.2.1 0 0 (MQ below (zQc E Q) args s 0 0 (zaA E))) Q) := by
  unfold b_X11_takeOut_127
  exact lk_aln B dX11_takeOut_127 rfl (lk_dup B dX11_takeOut_128 (lk_gf (T := TX11) B cl_X11 (by decide) in_X11 zw_799 dX11_takeOut_129 (lk_c B dX11_takeOut_132 (lk_sub B dX11_takeOut_133 (lk_pf (T := TX11) B cl_X11 (by decide) in_X11 tyX11_ok nmX11 zw_799 rfl (by decide +kernel) dX11_takeOut_134 (lk_vret B hr hlk dX11_takeOut_137))))))
set_option maxRecDepth 20000 in
theorem k_X11_takeOut_12 {p : Program} {l : Launch} {e : Env} {s : State} {m : MethodId} {args : Array Value} {below : List Frame} {meth : Method} {c : Code} {E : zE} {d : Nat} {Q : zQ} (B : zB p s m args c E mX11_takeOut.1.cls mX11_takeOut.2.1 mX11_takeOut.2.2.1) (hr : meth.sig.returnType = mX11_takeOut.2.2.2) (hlk : meth.locks = false) : zLk (zG p l e (zrm d) s m args below meth c E mX11_takeOut.2.2.1 0 0 (MQ below (zQc E Q) args s 0 0 (zaA E))) 12 (b_X11_takeOut_12 d (zG p l e (zrm d) s m args below meth c E mX11_takeOut.2.2.1 0 0 (MQ below (zQc E Q) args s 0 0 (zaA E))) Q) := by
  unfold b_X11_takeOut_12
  exact lk_aln B dX11_takeOut_12 rfl (lk_gf (T := TX11) B cl_X11 (by decide) in_X11 zw_800 dX11_takeOut_13 (lk_iln B dX11_takeOut_16 rfl (lk_aln B dX11_takeOut_17 rfl (lk_gf (T := TX11) B cl_X11 (by decide) in_X11 zw_800 dX11_takeOut_18 (lk_iln B dX11_takeOut_21 rfl (lk_c B dX11_takeOut_22 (lk_add B dX11_takeOut_23 (lk_iald B dX11_takeOut_24 (lk_iast B dX11_takeOut_25 (lk_aln B dX11_takeOut_26 rfl (lk_gf (T := TX11) B cl_X11 (by decide) in_X11 zw_801 dX11_takeOut_27 (lk_iln B dX11_takeOut_30 rfl (lk_aln B dX11_takeOut_31 rfl (lk_gf (T := TX11) B cl_X11 (by decide) in_X11 zw_801 dX11_takeOut_32 (lk_iln B dX11_takeOut_35 rfl (lk_c B dX11_takeOut_36 (lk_add B dX11_takeOut_37 (lk_iald B dX11_takeOut_38 (lk_iast B dX11_takeOut_39 (lk_aln B dX11_takeOut_40 rfl (lk_gf (T := TX11) B cl_X11 (by decide) in_X11 zw_802 dX11_takeOut_41 (lk_iln B dX11_takeOut_44 rfl (lk_aln B dX11_takeOut_45 rfl (lk_gf (T := TX11) B cl_X11 (by decide) in_X11 zw_802 dX11_takeOut_46 (lk_iln B dX11_takeOut_49 rfl (lk_c B dX11_takeOut_50 (lk_add B dX11_takeOut_51 (lk_iald B dX11_takeOut_52 (lk_iast B dX11_takeOut_53 (lk_aln B dX11_takeOut_54 rfl (lk_gf (T := TX11) B cl_X11 (by decide) in_X11 zw_803 dX11_takeOut_55 (lk_iln B dX11_takeOut_58 rfl (lk_aln B dX11_takeOut_59 rfl (lk_gf (T := TX11) B cl_X11 (by decide) in_X11 zw_803 dX11_takeOut_60 (lk_iln B dX11_takeOut_63 rfl (lk_c B dX11_takeOut_64 (lk_add B dX11_takeOut_65 (lk_iald B dX11_takeOut_66 (lk_iast B dX11_takeOut_67 (lk_aln B dX11_takeOut_68 rfl (lk_gf (T := TX11) B cl_X11 (by decide) in_X11 zw_804 dX11_takeOut_69 (lk_iln B dX11_takeOut_72 rfl (lk_aln B dX11_takeOut_73 rfl (lk_gf (T := TX11) B cl_X11 (by decide) in_X11 zw_804 dX11_takeOut_74 (lk_iln B dX11_takeOut_77 rfl (lk_c B dX11_takeOut_78 (lk_add B dX11_takeOut_79 (lk_iald B dX11_takeOut_80 (lk_iast B dX11_takeOut_81 (lk_c B dX11_takeOut_82 (lk_isn B dX11_takeOut_83 rfl (by decide) (fun _ _ _ h => h))))))))))))))))))))))))))))))))))))))))))))))))))))
set_option maxRecDepth 20000 in
theorem k_X11_takeOut_2 {p : Program} {l : Launch} {e : Env} {s : State} {m : MethodId} {args : Array Value} {below : List Frame} {meth : Method} {c : Code} {E : zE} {d : Nat} {Q : zQ} (B : zB p s m args c E mX11_takeOut.1.cls mX11_takeOut.2.1 mX11_takeOut.2.2.1) (hr : meth.sig.returnType = mX11_takeOut.2.2.2) (hlk : meth.locks = false) : zLk (zG p l e (zrm d) s m args below meth c E mX11_takeOut.2.2.1 0 0 (MQ below (zQc E Q) args s 0 0 (zaA E))) 2 (b_X11_takeOut_2 d (zG p l e (zrm d) s m args below meth c E mX11_takeOut.2.2.1 0 0 (MQ below (zQc E Q) args s 0 0 (zaA E))) Q) := by
  unfold b_X11_takeOut_2
  exact lk_iln B dX11_takeOut_2 rfl (lk_c B dX11_takeOut_3 (lk_add B dX11_takeOut_4 (lk_aln B dX11_takeOut_5 rfl (lk_gf (T := TX11) B cl_X11 (by decide) in_X11 zw_799 dX11_takeOut_6 (lk_ige B dX11_takeOut_9 (by decide) (k_X11_takeOut_127 B hr hlk) (k_X11_takeOut_12 B hr hlk))))))
set_option maxRecDepth 20000 in
theorem k_X11_takeOut_121 {p : Program} {l : Launch} {e : Env} {s : State} {m : MethodId} {args : Array Value} {below : List Frame} {meth : Method} {c : Code} {E : zE} {d : Nat} {Q : zQ} (B : zB p s m args c E mX11_takeOut.1.cls mX11_takeOut.2.1 mX11_takeOut.2.2.1) (hr : meth.sig.returnType = mX11_takeOut.2.2.2) (hlk : meth.locks = false) : zLk (zG p l e (zrm d) s m args below meth c E mX11_takeOut.2.2.1 0 0 (MQ below (zQc E Q) args s 0 0 (zaA E))) 121 (b_X11_takeOut_121 d (zG p l e (zrm d) s m args below meth c E mX11_takeOut.2.2.1 0 0 (MQ below (zQc E Q) args s 0 0 (zaA E))) Q) := by
  unfold b_X11_takeOut_121
  exact lk_inc B dX11_takeOut_121 (by decide) (lk_goto B dX11_takeOut_124 (by decide) (fun _ _ _ h => h))
set_option maxRecDepth 20000 in
theorem k_X11_takeOut_90 {p : Program} {l : Launch} {e : Env} {s : State} {m : MethodId} {args : Array Value} {below : List Frame} {meth : Method} {c : Code} {E : zE} {d : Nat} {Q : zQ} (B : zB p s m args c E mX11_takeOut.1.cls mX11_takeOut.2.1 mX11_takeOut.2.2.1) (hr : meth.sig.returnType = mX11_takeOut.2.2.2) (hlk : meth.locks = false) : zLk (zG p l e (zrm d) s m args below meth c E mX11_takeOut.2.2.1 0 0 (MQ below (zQc E Q) args s 0 0 (zaA E))) 90 (b_X11_takeOut_90 d (zG p l e (zrm d) s m args below meth c E mX11_takeOut.2.2.1 0 0 (MQ below (zQc E Q) args s 0 0 (zaA E))) Q) := by
  unfold b_X11_takeOut_90
  exact lk_aln B dX11_takeOut_90 rfl (lk_gf (T := TX11) B cl_X11 (by decide) in_X11 zw_805 dX11_takeOut_91 (lk_b B dX11_takeOut_94 rfl (lk_iln B dX11_takeOut_96 rfl (lk_mul B dX11_takeOut_97 (lk_iln B dX11_takeOut_98 rfl (lk_add B dX11_takeOut_99 (lk_aln B dX11_takeOut_100 rfl (lk_gf (T := TX11) B cl_X11 (by decide) in_X11 zw_805 dX11_takeOut_101 (lk_b B dX11_takeOut_104 rfl (lk_iln B dX11_takeOut_106 rfl (lk_mul B dX11_takeOut_107 (lk_b B dX11_takeOut_108 rfl (lk_add B dX11_takeOut_110 (lk_iln B dX11_takeOut_111 rfl (lk_add B dX11_takeOut_112 (lk_iald B dX11_takeOut_113 (lk_iast B dX11_takeOut_114 (lk_inc B dX11_takeOut_115 (by decide) (lk_goto B dX11_takeOut_118 (by decide) (fun _ _ _ h => h))))))))))))))))))))
set_option maxRecDepth 20000 in
theorem k_X11_takeOut_84 {p : Program} {l : Launch} {e : Env} {s : State} {m : MethodId} {args : Array Value} {below : List Frame} {meth : Method} {c : Code} {E : zE} {d : Nat} {Q : zQ} (B : zB p s m args c E mX11_takeOut.1.cls mX11_takeOut.2.1 mX11_takeOut.2.2.1) (hr : meth.sig.returnType = mX11_takeOut.2.2.2) (hlk : meth.locks = false) : zLk (zG p l e (zrm d) s m args below meth c E mX11_takeOut.2.2.1 0 0 (MQ below (zQc E Q) args s 0 0 (zaA E))) 84 (b_X11_takeOut_84 d (zG p l e (zrm d) s m args below meth c E mX11_takeOut.2.2.1 0 0 (MQ below (zQc E Q) args s 0 0 (zaA E))) Q) := by
  unfold b_X11_takeOut_84
  exact lk_iln B dX11_takeOut_84 rfl (lk_b B dX11_takeOut_85 rfl (lk_ige B dX11_takeOut_87 (by decide) (k_X11_takeOut_121 B hr hlk) (k_X11_takeOut_90 B hr hlk)))
def S_X11_takeOut (d : Nat) (G : Nat → zK) (Q : zQ) : Prop := zLk G 0 (b_X11_takeOut_0 d G Q) ∧ zLk G 2 (b_X11_takeOut_2 d G Q) ∧ zLk G 84 (b_X11_takeOut_84 d G Q)
theorem s_X11_takeOut_0 {d : Nat} {G : Nat → zK} {Q : zQ} (h : S_X11_takeOut d G Q) {ls st : List zV} {μ : zM} (k : b_X11_takeOut_0 d G Q ls st μ) : G 0 ls st μ := h.1 ls st μ k
theorem s_X11_takeOut_2 {d : Nat} {G : Nat → zK} {Q : zQ} (h : S_X11_takeOut d G Q) {ls st : List zV} {μ : zM} (k : b_X11_takeOut_2 d G Q ls st μ) : G 2 ls st μ := h.2.1 ls st μ k
theorem s_X11_takeOut_84 {d : Nat} {G : Nat → zK} {Q : zQ} (h : S_X11_takeOut d G Q) {ls st : List zV} {μ : zM} (k : b_X11_takeOut_84 d G Q ls st μ) : G 84 ls st μ := h.2.2 ls st μ k
theorem of_X11_takeOut {d : Nat} {a0 a1 : zV} {μ : zM} {Q : zQ} (h : ∀ G : Nat → zK, S_X11_takeOut d G Q → G 0 [a0, a1, .inr none, .inr none] [] μ) : zCt d mX11_takeOut [a0, a1] μ Q := zCt.mk (by decide) (Nat.le_of_ble_eq_true rfl) (fun p l e s m args below meth c E B hr hlk => h _ ⟨k_X11_takeOut_0 B hr hlk, k_X11_takeOut_2 B hr hlk, k_X11_takeOut_84 B hr hlk⟩)
theorem dX11_isMissing_0 : decode cX11_isMissing 0 = .ok (.iconst 0, 1) := by decide +kernel
theorem dX11_isMissing_1 : decode cX11_isMissing 1 = .ok (.istore_n 2, 1) := by decide +kernel
theorem dX11_isMissing_2 : decode cX11_isMissing 2 = .ok (.iconst 0, 1) := by decide +kernel
theorem dX11_isMissing_3 : decode cX11_isMissing 3 = .ok (.istore_n 3, 1) := by decide +kernel
theorem dX11_isMissing_4 : decode cX11_isMissing 4 = .ok (.iload_n 3, 1) := by decide +kernel
theorem dX11_isMissing_5 : decode cX11_isMissing 5 = .ok (.aload_n 0, 1) := by decide +kernel
theorem dX11_isMissing_6 : decode cX11_isMissing 6 = .ok (.getfield 214, 3) := by decide +kernel
theorem dX11_isMissing_9 : decode cX11_isMissing 9 = .ok (.if_icmp .ge 29, 3) := by decide +kernel
theorem dX11_isMissing_12 : decode cX11_isMissing 12 = .ok (.iload_n 2, 1) := by decide +kernel
theorem dX11_isMissing_13 : decode cX11_isMissing 13 = .ok (.ifCond .ne 13, 3) := by decide +kernel
theorem dX11_isMissing_16 : decode cX11_isMissing 16 = .ok (.aload_n 0, 1) := by decide +kernel
theorem dX11_isMissing_17 : decode cX11_isMissing 17 = .ok (.getfield 89, 3) := by decide +kernel
theorem dX11_isMissing_20 : decode cX11_isMissing 20 = .ok (.iload_n 3, 1) := by decide +kernel
theorem dX11_isMissing_21 : decode cX11_isMissing 21 = .ok (.iaload, 1) := by decide +kernel
theorem dX11_isMissing_22 : decode cX11_isMissing 22 = .ok (.iload_n 1, 1) := by decide +kernel
theorem dX11_isMissing_23 : decode cX11_isMissing 23 = .ok (.if_icmp .ne 7, 3) := by decide +kernel
theorem dX11_isMissing_26 : decode cX11_isMissing 26 = .ok (.iconst 1, 1) := by decide +kernel
theorem dX11_isMissing_27 : decode cX11_isMissing 27 = .ok (.goto 4, 3) := by decide +kernel
theorem dX11_isMissing_30 : decode cX11_isMissing 30 = .ok (.iconst 0, 1) := by decide +kernel
theorem dX11_isMissing_31 : decode cX11_isMissing 31 = .ok (.istore_n 2, 1) := by decide +kernel
theorem dX11_isMissing_32 : decode cX11_isMissing 32 = .ok (.iinc 3 1, 3) := by decide +kernel
theorem dX11_isMissing_35 : decode cX11_isMissing 35 = .ok (.goto (-31), 3) := by decide +kernel
theorem dX11_isMissing_38 : decode cX11_isMissing 38 = .ok (.iload_n 2, 1) := by decide +kernel
theorem dX11_isMissing_39 : decode cX11_isMissing 39 = .ok (.ireturn, 1) := by decide +kernel
def b_X11_isMissing_0 (d : Nat) (G : Nat → zK) (Q : zQ) : zK := o_c 0 <| o_is 2 <| o_c 0 <| o_is 3 <| G 4
def b_X11_isMissing_38 (d : Nat) (G : Nat → zK) (Q : zQ) : zK := o_il 2 <| t_zret Q
def b_X11_isMissing_31 (d : Nat) (G : Nat → zK) (Q : zQ) : zK := o_is 2 <| o_inc 3 1 <| G 4
def b_X11_isMissing_26 (d : Nat) (G : Nat → zK) (Q : zQ) : zK := o_c 1 <| b_X11_isMissing_31 d G Q
def b_X11_isMissing_30 (d : Nat) (G : Nat → zK) (Q : zQ) : zK := o_c 0 <| b_X11_isMissing_31 d G Q
def b_X11_isMissing_16 (d : Nat) (G : Nat → zK) (Q : zQ) : zK := o_al 0 <| o_gf 9 35 <| o_il 3 <| o_iald <| o_il 1 <| t_ieq (b_X11_isMissing_26 d G Q) (b_X11_isMissing_30 d G Q)
def b_X11_isMissing_12 (d : Nat) (G : Nat → zK) (Q : zQ) : zK := o_il 2 <| t_zeq (b_X11_isMissing_16 d G Q) (b_X11_isMissing_26 d G Q)
def b_X11_isMissing_4 (d : Nat) (G : Nat → zK) (Q : zQ) : zK := o_il 3 <| o_al 0 <| o_gf 9 34 <| t_ilt (b_X11_isMissing_12 d G Q) (b_X11_isMissing_38 d G Q)
set_option maxRecDepth 20000 in
theorem k_X11_isMissing_0 {p : Program} {l : Launch} {e : Env} {s : State} {m : MethodId} {args : Array Value} {below : List Frame} {meth : Method} {c : Code} {E : zE} {d : Nat} {Q : zQ} (B : zB p s m args c E mX11_isMissing.1.cls mX11_isMissing.2.1 mX11_isMissing.2.2.1) (hr : meth.sig.returnType = mX11_isMissing.2.2.2) (hlk : meth.locks = false) : zLk (zG p l e (zrm d) s m args below meth c E mX11_isMissing.2.2.1 0 0 (MQ below (zQc E Q) args s 0 0 (zaA E))) 0 (b_X11_isMissing_0 d (zG p l e (zrm d) s m args below meth c E mX11_isMissing.2.2.1 0 0 (MQ below (zQc E Q) args s 0 0 (zaA E))) Q) := by
  unfold b_X11_isMissing_0
  exact lk_c B dX11_isMissing_0 (lk_isn B dX11_isMissing_1 rfl (by decide) (lk_c B dX11_isMissing_2 (lk_isn B dX11_isMissing_3 rfl (by decide) (fun _ _ _ h => h))))
set_option maxRecDepth 20000 in
theorem k_X11_isMissing_38 {p : Program} {l : Launch} {e : Env} {s : State} {m : MethodId} {args : Array Value} {below : List Frame} {meth : Method} {c : Code} {E : zE} {d : Nat} {Q : zQ} (B : zB p s m args c E mX11_isMissing.1.cls mX11_isMissing.2.1 mX11_isMissing.2.2.1) (hr : meth.sig.returnType = mX11_isMissing.2.2.2) (hlk : meth.locks = false) : zLk (zG p l e (zrm d) s m args below meth c E mX11_isMissing.2.2.1 0 0 (MQ below (zQc E Q) args s 0 0 (zaA E))) 38 (b_X11_isMissing_38 d (zG p l e (zrm d) s m args below meth c E mX11_isMissing.2.2.1 0 0 (MQ below (zQc E Q) args s 0 0 (zaA E))) Q) := by
  unfold b_X11_isMissing_38
  exact lk_iln B dX11_isMissing_38 rfl (lk_zret B hr hlk dX11_isMissing_39)
set_option maxRecDepth 20000 in
theorem k_X11_isMissing_31 {p : Program} {l : Launch} {e : Env} {s : State} {m : MethodId} {args : Array Value} {below : List Frame} {meth : Method} {c : Code} {E : zE} {d : Nat} {Q : zQ} (B : zB p s m args c E mX11_isMissing.1.cls mX11_isMissing.2.1 mX11_isMissing.2.2.1) (hr : meth.sig.returnType = mX11_isMissing.2.2.2) (hlk : meth.locks = false) : zLk (zG p l e (zrm d) s m args below meth c E mX11_isMissing.2.2.1 0 0 (MQ below (zQc E Q) args s 0 0 (zaA E))) 31 (b_X11_isMissing_31 d (zG p l e (zrm d) s m args below meth c E mX11_isMissing.2.2.1 0 0 (MQ below (zQc E Q) args s 0 0 (zaA E))) Q) := by
  unfold b_X11_isMissing_31
  exact lk_isn B dX11_isMissing_31 rfl (by decide) (lk_inc B dX11_isMissing_32 (by decide) (lk_goto B dX11_isMissing_35 (by decide) (fun _ _ _ h => h)))
set_option maxRecDepth 20000 in
theorem k_X11_isMissing_26 {p : Program} {l : Launch} {e : Env} {s : State} {m : MethodId} {args : Array Value} {below : List Frame} {meth : Method} {c : Code} {E : zE} {d : Nat} {Q : zQ} (B : zB p s m args c E mX11_isMissing.1.cls mX11_isMissing.2.1 mX11_isMissing.2.2.1) (hr : meth.sig.returnType = mX11_isMissing.2.2.2) (hlk : meth.locks = false) : zLk (zG p l e (zrm d) s m args below meth c E mX11_isMissing.2.2.1 0 0 (MQ below (zQc E Q) args s 0 0 (zaA E))) 26 (b_X11_isMissing_26 d (zG p l e (zrm d) s m args below meth c E mX11_isMissing.2.2.1 0 0 (MQ below (zQc E Q) args s 0 0 (zaA E))) Q) := by
  unfold b_X11_isMissing_26
  exact lk_c B dX11_isMissing_26 (lk_goto B dX11_isMissing_27 (by decide) (k_X11_isMissing_31 B hr hlk))
set_option maxRecDepth 20000 in
theorem k_X11_isMissing_30 {p : Program} {l : Launch} {e : Env} {s : State} {m : MethodId} {args : Array Value} {below : List Frame} {meth : Method} {c : Code} {E : zE} {d : Nat} {Q : zQ} (B : zB p s m args c E mX11_isMissing.1.cls mX11_isMissing.2.1 mX11_isMissing.2.2.1) (hr : meth.sig.returnType = mX11_isMissing.2.2.2) (hlk : meth.locks = false) : zLk (zG p l e (zrm d) s m args below meth c E mX11_isMissing.2.2.1 0 0 (MQ below (zQc E Q) args s 0 0 (zaA E))) 30 (b_X11_isMissing_30 d (zG p l e (zrm d) s m args below meth c E mX11_isMissing.2.2.1 0 0 (MQ below (zQc E Q) args s 0 0 (zaA E))) Q) := by
  unfold b_X11_isMissing_30
  exact lk_c B dX11_isMissing_30 (k_X11_isMissing_31 B hr hlk)
set_option maxRecDepth 20000 in
theorem k_X11_isMissing_16 {p : Program} {l : Launch} {e : Env} {s : State} {m : MethodId} {args : Array Value} {below : List Frame} {meth : Method} {c : Code} {E : zE} {d : Nat} {Q : zQ} (B : zB p s m args c E mX11_isMissing.1.cls mX11_isMissing.2.1 mX11_isMissing.2.2.1) (hr : meth.sig.returnType = mX11_isMissing.2.2.2) (hlk : meth.locks = false) : zLk (zG p l e (zrm d) s m args below meth c E mX11_isMissing.2.2.1 0 0 (MQ below (zQc E Q) args s 0 0 (zaA E))) 16 (b_X11_isMissing_16 d (zG p l e (zrm d) s m args below meth c E mX11_isMissing.2.2.1 0 0 (MQ below (zQc E Q) args s 0 0 (zaA E))) Q) := by
  unfold b_X11_isMissing_16
  exact lk_aln B dX11_isMissing_16 rfl (lk_gf (T := TX11) B cl_X11 (by decide) in_X11 zw_823 dX11_isMissing_17 (lk_iln B dX11_isMissing_20 rfl (lk_iald B dX11_isMissing_21 (lk_iln B dX11_isMissing_22 rfl (lk_ine B dX11_isMissing_23 (by decide) (k_X11_isMissing_30 B hr hlk) (k_X11_isMissing_26 B hr hlk))))))
set_option maxRecDepth 20000 in
theorem k_X11_isMissing_12 {p : Program} {l : Launch} {e : Env} {s : State} {m : MethodId} {args : Array Value} {below : List Frame} {meth : Method} {c : Code} {E : zE} {d : Nat} {Q : zQ} (B : zB p s m args c E mX11_isMissing.1.cls mX11_isMissing.2.1 mX11_isMissing.2.2.1) (hr : meth.sig.returnType = mX11_isMissing.2.2.2) (hlk : meth.locks = false) : zLk (zG p l e (zrm d) s m args below meth c E mX11_isMissing.2.2.1 0 0 (MQ below (zQc E Q) args s 0 0 (zaA E))) 12 (b_X11_isMissing_12 d (zG p l e (zrm d) s m args below meth c E mX11_isMissing.2.2.1 0 0 (MQ below (zQc E Q) args s 0 0 (zaA E))) Q) := by
  unfold b_X11_isMissing_12
  exact lk_iln B dX11_isMissing_12 rfl (lk_zne B dX11_isMissing_13 (by decide) (k_X11_isMissing_26 B hr hlk) (k_X11_isMissing_16 B hr hlk))
set_option maxRecDepth 20000 in
theorem k_X11_isMissing_4 {p : Program} {l : Launch} {e : Env} {s : State} {m : MethodId} {args : Array Value} {below : List Frame} {meth : Method} {c : Code} {E : zE} {d : Nat} {Q : zQ} (B : zB p s m args c E mX11_isMissing.1.cls mX11_isMissing.2.1 mX11_isMissing.2.2.1) (hr : meth.sig.returnType = mX11_isMissing.2.2.2) (hlk : meth.locks = false) : zLk (zG p l e (zrm d) s m args below meth c E mX11_isMissing.2.2.1 0 0 (MQ below (zQc E Q) args s 0 0 (zaA E))) 4 (b_X11_isMissing_4 d (zG p l e (zrm d) s m args below meth c E mX11_isMissing.2.2.1 0 0 (MQ below (zQc E Q) args s 0 0 (zaA E))) Q) := by
  unfold b_X11_isMissing_4
  exact lk_iln B dX11_isMissing_4 rfl (lk_aln B dX11_isMissing_5 rfl (lk_gf (T := TX11) B cl_X11 (by decide) in_X11 zw_822 dX11_isMissing_6 (lk_ige B dX11_isMissing_9 (by decide) (k_X11_isMissing_38 B hr hlk) (k_X11_isMissing_12 B hr hlk))))
def S_X11_isMissing (d : Nat) (G : Nat → zK) (Q : zQ) : Prop := zLk G 0 (b_X11_isMissing_0 d G Q) ∧ zLk G 4 (b_X11_isMissing_4 d G Q)
theorem s_X11_isMissing_0 {d : Nat} {G : Nat → zK} {Q : zQ} (h : S_X11_isMissing d G Q) {ls st : List zV} {μ : zM} (k : b_X11_isMissing_0 d G Q ls st μ) : G 0 ls st μ := h.1 ls st μ k
theorem s_X11_isMissing_4 {d : Nat} {G : Nat → zK} {Q : zQ} (h : S_X11_isMissing d G Q) {ls st : List zV} {μ : zM} (k : b_X11_isMissing_4 d G Q ls st μ) : G 4 ls st μ := h.2 ls st μ k
theorem of_X11_isMissing {d : Nat} {a0 a1 : zV} {μ : zM} {Q : zQ} (h : ∀ G : Nat → zK, S_X11_isMissing d G Q → G 0 [a0, a1, .inr none, .inr none] [] μ) : zCt d mX11_isMissing [a0, a1] μ Q := zCt.mk (by decide) (Nat.le_of_ble_eq_true rfl) (fun p l e s m args below meth c E B hr hlk => h _ ⟨k_X11_isMissing_0 B hr hlk, k_X11_isMissing_4 B hr hlk⟩)
theorem dX11_deliver_0 : decode cX11_deliver 0 = .ok (.iload_n 1, 1) := by decide +kernel
theorem dX11_deliver_1 : decode cX11_deliver 1 = .ok (.ifCond .lt 11, 3) := by decide +kernel
theorem dX11_deliver_4 : decode cX11_deliver 4 = .ok (.iload_n 1, 1) := by decide +kernel
theorem dX11_deliver_5 : decode cX11_deliver 5 = .ok (.aload_n 0, 1) := by decide +kernel
theorem dX11_deliver_6 : decode cX11_deliver 6 = .ok (.getfield 236, 3) := by decide +kernel
theorem dX11_deliver_9 : decode cX11_deliver 9 = .ok (.if_icmp .lt 5, 3) := by decide +kernel
theorem dX11_deliver_12 : decode cX11_deliver 12 = .ok (.iconst (-1), 1) := by decide +kernel
theorem dX11_deliver_13 : decode cX11_deliver 13 = .ok (.ireturn, 1) := by decide +kernel
theorem dX11_deliver_14 : decode cX11_deliver 14 = .ok (.aload_n 0, 1) := by decide +kernel
theorem dX11_deliver_15 : decode cX11_deliver 15 = .ok (.getfield 44, 3) := by decide +kernel
theorem dX11_deliver_18 : decode cX11_deliver 18 = .ok (.iload_n 1, 1) := by decide +kernel
theorem dX11_deliver_19 : decode cX11_deliver 19 = .ok (.iaload, 1) := by decide +kernel
theorem dX11_deliver_20 : decode cX11_deliver 20 = .ok (.istore_n 2, 1) := by decide +kernel
theorem dX11_deliver_21 : decode cX11_deliver 21 = .ok (.aload_n 0, 1) := by decide +kernel
theorem dX11_deliver_22 : decode cX11_deliver 22 = .ok (.getfield 47, 3) := by decide +kernel
theorem dX11_deliver_25 : decode cX11_deliver 25 = .ok (.iload_n 1, 1) := by decide +kernel
theorem dX11_deliver_26 : decode cX11_deliver 26 = .ok (.iaload, 1) := by decide +kernel
theorem dX11_deliver_27 : decode cX11_deliver 27 = .ok (.istore_n 3, 1) := by decide +kernel
theorem dX11_deliver_28 : decode cX11_deliver 28 = .ok (.aload_n 0, 1) := by decide +kernel
theorem dX11_deliver_29 : decode cX11_deliver 29 = .ok (.getfield 50, 3) := by decide +kernel
theorem dX11_deliver_32 : decode cX11_deliver 32 = .ok (.iload_n 1, 1) := by decide +kernel
theorem dX11_deliver_33 : decode cX11_deliver 33 = .ok (.iaload, 1) := by decide +kernel
theorem dX11_deliver_34 : decode cX11_deliver 34 = .ok (.istore 4, 2) := by decide +kernel
theorem dX11_deliver_36 : decode cX11_deliver 36 = .ok (.aload_n 0, 1) := by decide +kernel
theorem dX11_deliver_37 : decode cX11_deliver 37 = .ok (.getfield 53, 3) := by decide +kernel
theorem dX11_deliver_40 : decode cX11_deliver 40 = .ok (.iload_n 1, 1) := by decide +kernel
theorem dX11_deliver_41 : decode cX11_deliver 41 = .ok (.iaload, 1) := by decide +kernel
theorem dX11_deliver_42 : decode cX11_deliver 42 = .ok (.istore 5, 2) := by decide +kernel
theorem dX11_deliver_44 : decode cX11_deliver 44 = .ok (.aload_n 0, 1) := by decide +kernel
theorem dX11_deliver_45 : decode cX11_deliver 45 = .ok (.iconst 0, 1) := by decide +kernel
theorem dX11_deliver_46 : decode cX11_deliver 46 = .ok (.putfield 118, 3) := by decide +kernel
theorem dX11_deliver_49 : decode cX11_deliver 49 = .ok (.iconst 0, 1) := by decide +kernel
theorem dX11_deliver_50 : decode cX11_deliver 50 = .ok (.istore 6, 2) := by decide +kernel
theorem dX11_deliver_52 : decode cX11_deliver 52 = .ok (.iload 6, 2) := by decide +kernel
theorem dX11_deliver_54 : decode cX11_deliver 54 = .ok (.aload_n 0, 1) := by decide +kernel
theorem dX11_deliver_55 : decode cX11_deliver 55 = .ok (.getfield 56, 3) := by decide +kernel
theorem dX11_deliver_58 : decode cX11_deliver 58 = .ok (.iload_n 1, 1) := by decide +kernel
theorem dX11_deliver_59 : decode cX11_deliver 59 = .ok (.iaload, 1) := by decide +kernel
theorem dX11_deliver_60 : decode cX11_deliver 60 = .ok (.if_icmp .ge 25, 3) := by decide +kernel
theorem dX11_deliver_63 : decode cX11_deliver 63 = .ok (.aload_n 0, 1) := by decide +kernel
theorem dX11_deliver_64 : decode cX11_deliver 64 = .ok (.aload_n 0, 1) := by decide +kernel
theorem dX11_deliver_65 : decode cX11_deliver 65 = .ok (.getfield 59, 3) := by decide +kernel
theorem dX11_deliver_68 : decode cX11_deliver 68 = .ok (.bipush 18, 2) := by decide +kernel
theorem dX11_deliver_70 : decode cX11_deliver 70 = .ok (.iload_n 1, 1) := by decide +kernel
theorem dX11_deliver_71 : decode cX11_deliver 71 = .ok (.imul, 1) := by decide +kernel
theorem dX11_deliver_72 : decode cX11_deliver 72 = .ok (.iload 6, 2) := by decide +kernel
theorem dX11_deliver_74 : decode cX11_deliver 74 = .ok (.iadd, 1) := by decide +kernel
theorem dX11_deliver_75 : decode cX11_deliver 75 = .ok (.iaload, 1) := by decide +kernel
theorem dX11_deliver_76 : decode cX11_deliver 76 = .ok (.invokevirtual 121, 3) := by decide +kernel
theorem dX11_deliver_79 : decode cX11_deliver 79 = .ok (.iinc 6 1, 3) := by decide +kernel
theorem dX11_deliver_82 : decode cX11_deliver 82 = .ok (.goto (-30), 3) := by decide +kernel
theorem dX11_deliver_85 : decode cX11_deliver 85 = .ok (.aload_n 0, 1) := by decide +kernel
theorem dX11_deliver_86 : decode cX11_deliver 86 = .ok (.iload_n 1, 1) := by decide +kernel
theorem dX11_deliver_87 : decode cX11_deliver 87 = .ok (.invokevirtual 246, 3) := by decide +kernel
theorem dX11_deliver_90 : decode cX11_deliver 90 = .ok (.iload_n 2, 1) := by decide +kernel
theorem dX11_deliver_91 : decode cX11_deliver 91 = .ok (.ifCond .ne 14, 3) := by decide +kernel
theorem dX11_deliver_94 : decode cX11_deliver 94 = .ok (.aload_n 0, 1) := by decide +kernel
theorem dX11_deliver_95 : decode cX11_deliver 95 = .ok (.iload_n 3, 1) := by decide +kernel
theorem dX11_deliver_96 : decode cX11_deliver 96 = .ok (.iload 4, 2) := by decide +kernel
theorem dX11_deliver_98 : decode cX11_deliver 98 = .ok (.iload 5, 2) := by decide +kernel
theorem dX11_deliver_100 : decode cX11_deliver 100 = .ok (.invokevirtual 249, 3) := by decide +kernel
theorem dX11_deliver_103 : decode cX11_deliver 103 = .ok (.iload_n 2, 1) := by decide +kernel
theorem dX11_deliver_104 : decode cX11_deliver 104 = .ok (.ireturn, 1) := by decide +kernel
theorem dX11_deliver_105 : decode cX11_deliver 105 = .ok (.aload_n 0, 1) := by decide +kernel
theorem dX11_deliver_106 : decode cX11_deliver 106 = .ok (.getfield 35, 3) := by decide +kernel
theorem dX11_deliver_109 : decode cX11_deliver 109 = .ok (.iload 4, 2) := by decide +kernel
theorem dX11_deliver_111 : decode cX11_deliver 111 = .ok (.iaload, 1) := by decide +kernel
theorem dX11_deliver_112 : decode cX11_deliver 112 = .ok (.iconst 1, 1) := by decide +kernel
theorem dX11_deliver_113 : decode cX11_deliver 113 = .ok (.if_icmp .ne 14, 3) := by decide +kernel
theorem dX11_deliver_116 : decode cX11_deliver 116 = .ok (.aload_n 0, 1) := by decide +kernel
theorem dX11_deliver_117 : decode cX11_deliver 117 = .ok (.getfield 41, 3) := by decide +kernel
theorem dX11_deliver_120 : decode cX11_deliver 120 = .ok (.iload 4, 2) := by decide +kernel
theorem dX11_deliver_122 : decode cX11_deliver 122 = .ok (.iaload, 1) := by decide +kernel
theorem dX11_deliver_123 : decode cX11_deliver 123 = .ok (.iload_n 3, 1) := by decide +kernel
theorem dX11_deliver_124 : decode cX11_deliver 124 = .ok (.if_icmp .eq 5, 3) := by decide +kernel
theorem dX11_deliver_127 : decode cX11_deliver 127 = .ok (.iload_n 2, 1) := by decide +kernel
theorem dX11_deliver_128 : decode cX11_deliver 128 = .ok (.ireturn, 1) := by decide +kernel
theorem dX11_deliver_129 : decode cX11_deliver 129 = .ok (.aload_n 0, 1) := by decide +kernel
theorem dX11_deliver_130 : decode cX11_deliver 130 = .ok (.iload 4, 2) := by decide +kernel
theorem dX11_deliver_132 : decode cX11_deliver 132 = .ok (.invokevirtual 229, 3) := by decide +kernel
theorem dX11_deliver_135 : decode cX11_deliver 135 = .ok (.iload_n 2, 1) := by decide +kernel
theorem dX11_deliver_136 : decode cX11_deliver 136 = .ok (.iconst 1, 1) := by decide +kernel
theorem dX11_deliver_137 : decode cX11_deliver 137 = .ok (.if_icmp .ne 12, 3) := by decide +kernel
theorem dX11_deliver_140 : decode cX11_deliver 140 = .ok (.aload_n 0, 1) := by decide +kernel
theorem dX11_deliver_141 : decode cX11_deliver 141 = .ok (.iload 4, 2) := by decide +kernel
theorem dX11_deliver_143 : decode cX11_deliver 143 = .ok (.invokevirtual 253, 3) := by decide +kernel
theorem dX11_deliver_146 : decode cX11_deliver 146 = .ok (.goto 20, 3) := by decide +kernel
theorem dX11_deliver_149 : decode cX11_deliver 149 = .ok (.aload_n 0, 1) := by decide +kernel
theorem dX11_deliver_150 : decode cX11_deliver 150 = .ok (.iload 5, 2) := by decide +kernel
theorem dX11_deliver_152 : decode cX11_deliver 152 = .ok (.invokevirtual 256, 3) := by decide +kernel
theorem dX11_deliver_155 : decode cX11_deliver 155 = .ok (.ifCond .eq 11, 3) := by decide +kernel
theorem dX11_deliver_158 : decode cX11_deliver 158 = .ok (.aload_n 0, 1) := by decide +kernel
theorem dX11_deliver_159 : decode cX11_deliver 159 = .ok (.getfield 35, 3) := by decide +kernel
theorem dX11_deliver_162 : decode cX11_deliver 162 = .ok (.iload 4, 2) := by decide +kernel
theorem dX11_deliver_164 : decode cX11_deliver 164 = .ok (.iconst 3, 1) := by decide +kernel
theorem dX11_deliver_165 : decode cX11_deliver 165 = .ok (.iastore, 1) := by decide +kernel
theorem dX11_deliver_166 : decode cX11_deliver 166 = .ok (.iload_n 2, 1) := by decide +kernel
theorem dX11_deliver_167 : decode cX11_deliver 167 = .ok (.ireturn, 1) := by decide +kernel
def b_X11_deliver_12 (d : Nat) (G : Nat → zK) (Q : zQ) : zK := o_c (-1) <| t_iret Q
def b_X11_deliver_14 (d : Nat) (G : Nat → zK) (Q : zQ) : zK := o_al 0 <| o_gf 9 12 <| o_il 1 <| o_iald <| o_is 2 <| o_al 0 <| o_gf 9 13 <| o_il 1 <| o_iald <| o_is 3 <| o_al 0 <| o_gf 9 14 <| o_il 1 <| o_iald <| o_is 4 <| o_al 0 <| o_gf 9 15 <| o_il 1 <| o_iald <| o_is 5 <| o_al 0 <| o_c 0 <| o_pf 9 24 <| o_c 0 <| o_is 6 <| G 52
def b_X11_deliver_4 (d : Nat) (G : Nat → zK) (Q : zQ) : zK := o_il 1 <| o_al 0 <| o_gf 9 11 <| t_ilt (b_X11_deliver_14 d G Q) (b_X11_deliver_12 d G Q)
def b_X11_deliver_0 (d : Nat) (G : Nat → zK) (Q : zQ) : zK := o_il 1 <| t_zlt (b_X11_deliver_12 d G Q) (b_X11_deliver_4 d G Q)
def b_X11_deliver_127 (d : Nat) (G : Nat → zK) (Q : zQ) : zK := o_il 2 <| t_iret Q
def b_X11_deliver_166 (d : Nat) (G : Nat → zK) (Q : zQ) : zK := o_il 2 <| t_iret Q
def b_X11_deliver_158 (d : Nat) (G : Nat → zK) (Q : zQ) : zK := o_al 0 <| o_gf 9 8 <| o_il 4 <| o_c 3 <| o_iast <| b_X11_deliver_166 d G Q
def b_X11_deliver_149 (d : Nat) (G : Nat → zK) (Q : zQ) : zK := o_al 0 <| o_il 5 <| o_callv (zCt (d - 1) mX11_isMissing) 9 2 <| t_zeq (b_X11_deliver_166 d G Q) (b_X11_deliver_158 d G Q)
def b_X11_deliver_140 (d : Nat) (G : Nat → zK) (Q : zQ) : zK := o_al 0 <| o_il 4 <| o_callv (zCt (d - 1) mX11_given) 9 2 <| b_X11_deliver_166 d G Q
def b_X11_deliver_129 (d : Nat) (G : Nat → zK) (Q : zQ) : zK := o_al 0 <| o_il 4 <| o_callv (zCt (d - 1) mX11_findMissing) 9 2 <| o_il 2 <| o_c 1 <| t_ieq (b_X11_deliver_140 d G Q) (b_X11_deliver_149 d G Q)
def b_X11_deliver_116 (d : Nat) (G : Nat → zK) (Q : zQ) : zK := o_al 0 <| o_gf 9 10 <| o_il 4 <| o_iald <| o_il 3 <| t_ieq (b_X11_deliver_129 d G Q) (b_X11_deliver_127 d G Q)
def b_X11_deliver_105 (d : Nat) (G : Nat → zK) (Q : zQ) : zK := o_al 0 <| o_gf 9 8 <| o_il 4 <| o_iald <| o_c 1 <| t_ieq (b_X11_deliver_116 d G Q) (b_X11_deliver_127 d G Q)
def b_X11_deliver_94 (d : Nat) (G : Nat → zK) (Q : zQ) : zK := o_al 0 <| o_il 3 <| o_il 4 <| o_il 5 <| o_callv (zCt (d - 1) mX11_wanted) 9 4 <| o_il 2 <| t_iret Q
def b_X11_deliver_85 (d : Nat) (G : Nat → zK) (Q : zQ) : zK := o_al 0 <| o_il 1 <| o_callv (zCt (d - 1) mX11_takeOut) 9 2 <| o_il 2 <| t_zeq (b_X11_deliver_94 d G Q) (b_X11_deliver_105 d G Q)
def b_X11_deliver_63 (d : Nat) (G : Nat → zK) (Q : zQ) : zK := o_al 0 <| o_al 0 <| o_gf 9 17 <| o_c 18 <| o_il 1 <| o_mul <| o_il 6 <| o_add <| o_iald <| o_callv (zCt (d - 1) mX11_push) 9 2 <| o_inc 6 1 <| G 52
def b_X11_deliver_52 (d : Nat) (G : Nat → zK) (Q : zQ) : zK := o_il 6 <| o_al 0 <| o_gf 9 16 <| o_il 1 <| o_iald <| t_ilt (b_X11_deliver_63 d G Q) (b_X11_deliver_85 d G Q)
set_option maxRecDepth 20000 in
theorem k_X11_deliver_12 {p : Program} {l : Launch} {e : Env} {s : State} {m : MethodId} {args : Array Value} {below : List Frame} {meth : Method} {c : Code} {E : zE} {d : Nat} {Q : zQ} (hd1 : 1 ≤ d) (B : zB p s m args c E mX11_deliver.1.cls mX11_deliver.2.1 mX11_deliver.2.2.1) (hr : meth.sig.returnType = mX11_deliver.2.2.2) (hlk : meth.locks = false) : zLk (zG p l e (zrm d) s m args below meth c E mX11_deliver.2.2.1 0 0 (MQ below (zQc E Q) args s 0 0 (zaA E))) 12 (b_X11_deliver_12 d (zG p l e (zrm d) s m args below meth c E mX11_deliver.2.2.1 0 0 (MQ below (zQc E Q) args s 0 0 (zaA E))) Q) := by
  unfold b_X11_deliver_12
  exact lk_c B dX11_deliver_12 (lk_iret B hr hlk dX11_deliver_13)
set_option maxRecDepth 20000 in
theorem k_X11_deliver_14 {p : Program} {l : Launch} {e : Env} {s : State} {m : MethodId} {args : Array Value} {below : List Frame} {meth : Method} {c : Code} {E : zE} {d : Nat} {Q : zQ} (hd1 : 1 ≤ d) (B : zB p s m args c E mX11_deliver.1.cls mX11_deliver.2.1 mX11_deliver.2.2.1) (hr : meth.sig.returnType = mX11_deliver.2.2.2) (hlk : meth.locks = false) : zLk (zG p l e (zrm d) s m args below meth c E mX11_deliver.2.2.1 0 0 (MQ below (zQc E Q) args s 0 0 (zaA E))) 14 (b_X11_deliver_14 d (zG p l e (zrm d) s m args below meth c E mX11_deliver.2.2.1 0 0 (MQ below (zQc E Q) args s 0 0 (zaA E))) Q) := by
  unfold b_X11_deliver_14
  exact lk_aln B dX11_deliver_14 rfl (lk_gf (T := TX11) B cl_X11 (by decide) in_X11 zw_800 dX11_deliver_15 (lk_iln B dX11_deliver_18 rfl (lk_iald B dX11_deliver_19 (lk_isn B dX11_deliver_20 rfl (by decide) (lk_aln B dX11_deliver_21 rfl (lk_gf (T := TX11) B cl_X11 (by decide) in_X11 zw_801 dX11_deliver_22 (lk_iln B dX11_deliver_25 rfl (lk_iald B dX11_deliver_26 (lk_isn B dX11_deliver_27 rfl (by decide) (lk_aln B dX11_deliver_28 rfl (lk_gf (T := TX11) B cl_X11 (by decide) in_X11 zw_802 dX11_deliver_29 (lk_iln B dX11_deliver_32 rfl (lk_iald B dX11_deliver_33 (lk_is B dX11_deliver_34 (by decide) (lk_aln B dX11_deliver_36 rfl (lk_gf (T := TX11) B cl_X11 (by decide) in_X11 zw_803 dX11_deliver_37 (lk_iln B dX11_deliver_40 rfl (lk_iald B dX11_deliver_41 (lk_is B dX11_deliver_42 (by decide) (lk_aln B dX11_deliver_44 rfl (lk_c B dX11_deliver_45 (lk_pf (T := TX11) B cl_X11 (by decide) in_X11 tyX11_ok nmX11 zw_812 rfl (by decide +kernel) dX11_deliver_46 (lk_c B dX11_deliver_49 (lk_is B dX11_deliver_50 (by decide) (fun _ _ _ h => h)))))))))))))))))))))))))
set_option maxRecDepth 20000 in
theorem k_X11_deliver_4 {p : Program} {l : Launch} {e : Env} {s : State} {m : MethodId} {args : Array Value} {below : List Frame} {meth : Method} {c : Code} {E : zE} {d : Nat} {Q : zQ} (hd1 : 1 ≤ d) (B : zB p s m args c E mX11_deliver.1.cls mX11_deliver.2.1 mX11_deliver.2.2.1) (hr : meth.sig.returnType = mX11_deliver.2.2.2) (hlk : meth.locks = false) : zLk (zG p l e (zrm d) s m args below meth c E mX11_deliver.2.2.1 0 0 (MQ below (zQc E Q) args s 0 0 (zaA E))) 4 (b_X11_deliver_4 d (zG p l e (zrm d) s m args below meth c E mX11_deliver.2.2.1 0 0 (MQ below (zQc E Q) args s 0 0 (zaA E))) Q) := by
  unfold b_X11_deliver_4
  exact lk_iln B dX11_deliver_4 rfl (lk_aln B dX11_deliver_5 rfl (lk_gf (T := TX11) B cl_X11 (by decide) in_X11 zw_799 dX11_deliver_6 (lk_ilt B dX11_deliver_9 (by decide) (k_X11_deliver_14 hd1 B hr hlk) (k_X11_deliver_12 hd1 B hr hlk))))
set_option maxRecDepth 20000 in
theorem k_X11_deliver_0 {p : Program} {l : Launch} {e : Env} {s : State} {m : MethodId} {args : Array Value} {below : List Frame} {meth : Method} {c : Code} {E : zE} {d : Nat} {Q : zQ} (hd1 : 1 ≤ d) (B : zB p s m args c E mX11_deliver.1.cls mX11_deliver.2.1 mX11_deliver.2.2.1) (hr : meth.sig.returnType = mX11_deliver.2.2.2) (hlk : meth.locks = false) : zLk (zG p l e (zrm d) s m args below meth c E mX11_deliver.2.2.1 0 0 (MQ below (zQc E Q) args s 0 0 (zaA E))) 0 (b_X11_deliver_0 d (zG p l e (zrm d) s m args below meth c E mX11_deliver.2.2.1 0 0 (MQ below (zQc E Q) args s 0 0 (zaA E))) Q) := by
  unfold b_X11_deliver_0
  exact lk_iln B dX11_deliver_0 rfl (lk_zlt B dX11_deliver_1 (by decide) (k_X11_deliver_12 hd1 B hr hlk) (k_X11_deliver_4 hd1 B hr hlk))
set_option maxRecDepth 20000 in
theorem k_X11_deliver_127 {p : Program} {l : Launch} {e : Env} {s : State} {m : MethodId} {args : Array Value} {below : List Frame} {meth : Method} {c : Code} {E : zE} {d : Nat} {Q : zQ} (hd1 : 1 ≤ d) (B : zB p s m args c E mX11_deliver.1.cls mX11_deliver.2.1 mX11_deliver.2.2.1) (hr : meth.sig.returnType = mX11_deliver.2.2.2) (hlk : meth.locks = false) : zLk (zG p l e (zrm d) s m args below meth c E mX11_deliver.2.2.1 0 0 (MQ below (zQc E Q) args s 0 0 (zaA E))) 127 (b_X11_deliver_127 d (zG p l e (zrm d) s m args below meth c E mX11_deliver.2.2.1 0 0 (MQ below (zQc E Q) args s 0 0 (zaA E))) Q) := by
  unfold b_X11_deliver_127
  exact lk_iln B dX11_deliver_127 rfl (lk_iret B hr hlk dX11_deliver_128)
set_option maxRecDepth 20000 in
theorem k_X11_deliver_166 {p : Program} {l : Launch} {e : Env} {s : State} {m : MethodId} {args : Array Value} {below : List Frame} {meth : Method} {c : Code} {E : zE} {d : Nat} {Q : zQ} (hd1 : 1 ≤ d) (B : zB p s m args c E mX11_deliver.1.cls mX11_deliver.2.1 mX11_deliver.2.2.1) (hr : meth.sig.returnType = mX11_deliver.2.2.2) (hlk : meth.locks = false) : zLk (zG p l e (zrm d) s m args below meth c E mX11_deliver.2.2.1 0 0 (MQ below (zQc E Q) args s 0 0 (zaA E))) 166 (b_X11_deliver_166 d (zG p l e (zrm d) s m args below meth c E mX11_deliver.2.2.1 0 0 (MQ below (zQc E Q) args s 0 0 (zaA E))) Q) := by
  unfold b_X11_deliver_166
  exact lk_iln B dX11_deliver_166 rfl (lk_iret B hr hlk dX11_deliver_167)
set_option maxRecDepth 20000 in
theorem k_X11_deliver_158 {p : Program} {l : Launch} {e : Env} {s : State} {m : MethodId} {args : Array Value} {below : List Frame} {meth : Method} {c : Code} {E : zE} {d : Nat} {Q : zQ} (hd1 : 1 ≤ d) (B : zB p s m args c E mX11_deliver.1.cls mX11_deliver.2.1 mX11_deliver.2.2.1) (hr : meth.sig.returnType = mX11_deliver.2.2.2) (hlk : meth.locks = false) : zLk (zG p l e (zrm d) s m args below meth c E mX11_deliver.2.2.1 0 0 (MQ below (zQc E Q) args s 0 0 (zaA E))) 158 (b_X11_deliver_158 d (zG p l e (zrm d) s m args below meth c E mX11_deliver.2.2.1 0 0 (MQ below (zQc E Q) args s 0 0 (zaA E))) Q) := by
  unfold b_X11_deliver_158
  exact lk_aln B dX11_deliver_158 rfl (lk_gf (T := TX11) B cl_X11 (by decide) in_X11 zw_796 dX11_deliver_159 (lk_il B dX11_deliver_162 (lk_c B dX11_deliver_164 (lk_iast B dX11_deliver_165 (k_X11_deliver_166 hd1 B hr hlk)))))
set_option maxRecDepth 20000 in
theorem k_X11_deliver_149 {p : Program} {l : Launch} {e : Env} {s : State} {m : MethodId} {args : Array Value} {below : List Frame} {meth : Method} {c : Code} {E : zE} {d : Nat} {Q : zQ} (hd1 : 1 ≤ d) (B : zB p s m args c E mX11_deliver.1.cls mX11_deliver.2.1 mX11_deliver.2.2.1) (hr : meth.sig.returnType = mX11_deliver.2.2.2) (hlk : meth.locks = false) : zLk (zG p l e (zrm d) s m args below meth c E mX11_deliver.2.2.1 0 0 (MQ below (zQc E Q) args s 0 0 (zaA E))) 149 (b_X11_deliver_149 d (zG p l e (zrm d) s m args below meth c E mX11_deliver.2.2.1 0 0 (MQ below (zQc E Q) args s 0 0 (zaA E))) Q) := by
  unfold b_X11_deliver_149
  exact lk_aln B dX11_deliver_149 rfl (lk_il B dX11_deliver_150 (lk_callv (M := mX11_isMissing) (T := TX11) (N := 41) B (zhR hd1 (by decide)) ⟨Nat.zero_le _, Nat.zero_le _⟩ cl_X11 (zw5 zw_1129 zw_1126 zw_1128 zw_47 zw_58) (by decide +kernel) dX11_deliver_152 (lk_zeq B dX11_deliver_155 (by decide) (k_X11_deliver_166 hd1 B hr hlk) (k_X11_deliver_158 hd1 B hr hlk))))
set_option maxRecDepth 20000 in
theorem k_X11_deliver_140 {p : Program} {l : Launch} {e : Env} {s : State} {m : MethodId} {args : Array Value} {below : List Frame} {meth : Method} {c : Code} {E : zE} {d : Nat} {Q : zQ} (hd1 : 1 ≤ d) (B : zB p s m args c E mX11_deliver.1.cls mX11_deliver.2.1 mX11_deliver.2.2.1) (hr : meth.sig.returnType = mX11_deliver.2.2.2) (hlk : meth.locks = false) : zLk (zG p l e (zrm d) s m args below meth c E mX11_deliver.2.2.1 0 0 (MQ below (zQc E Q) args s 0 0 (zaA E))) 140 (b_X11_deliver_140 d (zG p l e (zrm d) s m args below meth c E mX11_deliver.2.2.1 0 0 (MQ below (zQc E Q) args s 0 0 (zaA E))) Q) := by
  unfold b_X11_deliver_140
  exact lk_aln B dX11_deliver_140 rfl (lk_il B dX11_deliver_141 (lk_callv (M := mX11_given) (T := TX11) (N := 41) B (zhR hd1 (by decide)) ⟨Nat.zero_le _, Nat.zero_le _⟩ cl_X11 (zw5 zw_1125 zw_1122 zw_1124 zw_46 zw_58) (by decide +kernel) dX11_deliver_143 (lk_goto B dX11_deliver_146 (by decide) (k_X11_deliver_166 hd1 B hr hlk))))
set_option maxRecDepth 20000 in
theorem k_X11_deliver_129 {p : Program} {l : Launch} {e : Env} {s : State} {m : MethodId} {args : Array Value} {below : List Frame} {meth : Method} {c : Code} {E : zE} {d : Nat} {Q : zQ} (hd1 : 1 ≤ d) (B : zB p s m args c E mX11_deliver.1.cls mX11_deliver.2.1 mX11_deliver.2.2.1) (hr : meth.sig.returnType = mX11_deliver.2.2.2) (hlk : meth.locks = false) : zLk (zG p l e (zrm d) s m args below meth c E mX11_deliver.2.2.1 0 0 (MQ below (zQc E Q) args s 0 0 (zaA E))) 129 (b_X11_deliver_129 d (zG p l e (zrm d) s m args below meth c E mX11_deliver.2.2.1 0 0 (MQ below (zQc E Q) args s 0 0 (zaA E))) Q) := by
  unfold b_X11_deliver_129
  exact lk_aln B dX11_deliver_129 rfl (lk_il B dX11_deliver_130 (lk_callv (M := mX11_findMissing) (T := TX11) (N := 41) B (zhR hd1 (by decide)) ⟨Nat.zero_le _, Nat.zero_le _⟩ cl_X11 (zw5 zw_979 zw_976 zw_978 zw_24 zw_58) (by decide +kernel) dX11_deliver_132 (lk_iln B dX11_deliver_135 rfl (lk_c B dX11_deliver_136 (lk_ine B dX11_deliver_137 (by decide) (k_X11_deliver_149 hd1 B hr hlk) (k_X11_deliver_140 hd1 B hr hlk))))))
set_option maxRecDepth 20000 in
theorem k_X11_deliver_116 {p : Program} {l : Launch} {e : Env} {s : State} {m : MethodId} {args : Array Value} {below : List Frame} {meth : Method} {c : Code} {E : zE} {d : Nat} {Q : zQ} (hd1 : 1 ≤ d) (B : zB p s m args c E mX11_deliver.1.cls mX11_deliver.2.1 mX11_deliver.2.2.1) (hr : meth.sig.returnType = mX11_deliver.2.2.2) (hlk : meth.locks = false) : zLk (zG p l e (zrm d) s m args below meth c E mX11_deliver.2.2.1 0 0 (MQ below (zQc E Q) args s 0 0 (zaA E))) 116 (b_X11_deliver_116 d (zG p l e (zrm d) s m args below meth c E mX11_deliver.2.2.1 0 0 (MQ below (zQc E Q) args s 0 0 (zaA E))) Q) := by
  unfold b_X11_deliver_116
  exact lk_aln B dX11_deliver_116 rfl (lk_gf (T := TX11) B cl_X11 (by decide) in_X11 zw_798 dX11_deliver_117 (lk_il B dX11_deliver_120 (lk_iald B dX11_deliver_122 (lk_iln B dX11_deliver_123 rfl (lk_ieq B dX11_deliver_124 (by decide) (k_X11_deliver_129 hd1 B hr hlk) (k_X11_deliver_127 hd1 B hr hlk))))))
set_option maxRecDepth 20000 in
theorem k_X11_deliver_105 {p : Program} {l : Launch} {e : Env} {s : State} {m : MethodId} {args : Array Value} {below : List Frame} {meth : Method} {c : Code} {E : zE} {d : Nat} {Q : zQ} (hd1 : 1 ≤ d) (B : zB p s m args c E mX11_deliver.1.cls mX11_deliver.2.1 mX11_deliver.2.2.1) (hr : meth.sig.returnType = mX11_deliver.2.2.2) (hlk : meth.locks = false) : zLk (zG p l e (zrm d) s m args below meth c E mX11_deliver.2.2.1 0 0 (MQ below (zQc E Q) args s 0 0 (zaA E))) 105 (b_X11_deliver_105 d (zG p l e (zrm d) s m args below meth c E mX11_deliver.2.2.1 0 0 (MQ below (zQc E Q) args s 0 0 (zaA E))) Q) := by
  unfold b_X11_deliver_105
  exact lk_aln B dX11_deliver_105 rfl (lk_gf (T := TX11) B cl_X11 (by decide) in_X11 zw_796 dX11_deliver_106 (lk_il B dX11_deliver_109 (lk_iald B dX11_deliver_111 (lk_c B dX11_deliver_112 (lk_ine B dX11_deliver_113 (by decide) (k_X11_deliver_127 hd1 B hr hlk) (k_X11_deliver_116 hd1 B hr hlk))))))
set_option maxRecDepth 20000 in
theorem k_X11_deliver_94 {p : Program} {l : Launch} {e : Env} {s : State} {m : MethodId} {args : Array Value} {below : List Frame} {meth : Method} {c : Code} {E : zE} {d : Nat} {Q : zQ} (hd1 : 1 ≤ d) (B : zB p s m args c E mX11_deliver.1.cls mX11_deliver.2.1 mX11_deliver.2.2.1) (hr : meth.sig.returnType = mX11_deliver.2.2.2) (hlk : meth.locks = false) : zLk (zG p l e (zrm d) s m args below meth c E mX11_deliver.2.2.1 0 0 (MQ below (zQc E Q) args s 0 0 (zaA E))) 94 (b_X11_deliver_94 d (zG p l e (zrm d) s m args below meth c E mX11_deliver.2.2.1 0 0 (MQ below (zQc E Q) args s 0 0 (zaA E))) Q) := by
  unfold b_X11_deliver_94
  exact lk_aln B dX11_deliver_94 rfl (lk_iln B dX11_deliver_95 rfl (lk_il B dX11_deliver_96 (lk_il B dX11_deliver_98 (lk_callv (M := mX11_wanted) (T := TX11) (N := 41) B (zhR hd1 (by decide)) ⟨Nat.zero_le _, Nat.zero_le _⟩ cl_X11 (zw5 zw_1121 zw_1118 zw_1120 zw_45 zw_58) (by decide +kernel) dX11_deliver_100 (lk_iln B dX11_deliver_103 rfl (lk_iret B hr hlk dX11_deliver_104))))))
set_option maxRecDepth 20000 in
theorem k_X11_deliver_85 {p : Program} {l : Launch} {e : Env} {s : State} {m : MethodId} {args : Array Value} {below : List Frame} {meth : Method} {c : Code} {E : zE} {d : Nat} {Q : zQ} (hd1 : 1 ≤ d) (B : zB p s m args c E mX11_deliver.1.cls mX11_deliver.2.1 mX11_deliver.2.2.1) (hr : meth.sig.returnType = mX11_deliver.2.2.2) (hlk : meth.locks = false) : zLk (zG p l e (zrm d) s m args below meth c E mX11_deliver.2.2.1 0 0 (MQ below (zQc E Q) args s 0 0 (zaA E))) 85 (b_X11_deliver_85 d (zG p l e (zrm d) s m args below meth c E mX11_deliver.2.2.1 0 0 (MQ below (zQc E Q) args s 0 0 (zaA E))) Q) := by
  unfold b_X11_deliver_85
  exact lk_aln B dX11_deliver_85 rfl (lk_iln B dX11_deliver_86 rfl (lk_callv (M := mX11_takeOut) (T := TX11) (N := 41) B (zhR hd1 (by decide)) ⟨Nat.zero_le _, Nat.zero_le _⟩ cl_X11 (zw5 zw_1117 zw_1114 zw_1116 zw_44 zw_58) (by decide +kernel) dX11_deliver_87 (lk_iln B dX11_deliver_90 rfl (lk_zne B dX11_deliver_91 (by decide) (k_X11_deliver_105 hd1 B hr hlk) (k_X11_deliver_94 hd1 B hr hlk)))))
set_option maxRecDepth 20000 in
theorem k_X11_deliver_63 {p : Program} {l : Launch} {e : Env} {s : State} {m : MethodId} {args : Array Value} {below : List Frame} {meth : Method} {c : Code} {E : zE} {d : Nat} {Q : zQ} (hd1 : 1 ≤ d) (B : zB p s m args c E mX11_deliver.1.cls mX11_deliver.2.1 mX11_deliver.2.2.1) (hr : meth.sig.returnType = mX11_deliver.2.2.2) (hlk : meth.locks = false) : zLk (zG p l e (zrm d) s m args below meth c E mX11_deliver.2.2.1 0 0 (MQ below (zQc E Q) args s 0 0 (zaA E))) 63 (b_X11_deliver_63 d (zG p l e (zrm d) s m args below meth c E mX11_deliver.2.2.1 0 0 (MQ below (zQc E Q) args s 0 0 (zaA E))) Q) := by
  unfold b_X11_deliver_63
  exact lk_aln B dX11_deliver_63 rfl (lk_aln B dX11_deliver_64 rfl (lk_gf (T := TX11) B cl_X11 (by decide) in_X11 zw_805 dX11_deliver_65 (lk_b B dX11_deliver_68 rfl (lk_iln B dX11_deliver_70 rfl (lk_mul B dX11_deliver_71 (lk_il B dX11_deliver_72 (lk_add B dX11_deliver_74 (lk_iald B dX11_deliver_75 (lk_callv (M := mX11_push) (T := TX11) (N := 41) B (zhR hd1 (by decide)) ⟨Nat.zero_le _, Nat.zero_le _⟩ cl_X11 (zw5 zw_941 zw_938 zw_940 zw_16 zw_58) (by decide +kernel) dX11_deliver_76 (lk_inc B dX11_deliver_79 (by decide) (lk_goto B dX11_deliver_82 (by decide) (fun _ _ _ h => h))))))))))))
set_option maxRecDepth 20000 in
theorem k_X11_deliver_52 {p : Program} {l : Launch} {e : Env} {s : State} {m : MethodId} {args : Array Value} {below : List Frame} {meth : Method} {c : Code} {E : zE} {d : Nat} {Q : zQ} (hd1 : 1 ≤ d) (B : zB p s m args c E mX11_deliver.1.cls mX11_deliver.2.1 mX11_deliver.2.2.1) (hr : meth.sig.returnType = mX11_deliver.2.2.2) (hlk : meth.locks = false) : zLk (zG p l e (zrm d) s m args below meth c E mX11_deliver.2.2.1 0 0 (MQ below (zQc E Q) args s 0 0 (zaA E))) 52 (b_X11_deliver_52 d (zG p l e (zrm d) s m args below meth c E mX11_deliver.2.2.1 0 0 (MQ below (zQc E Q) args s 0 0 (zaA E))) Q) := by
  unfold b_X11_deliver_52
  exact lk_il B dX11_deliver_52 (lk_aln B dX11_deliver_54 rfl (lk_gf (T := TX11) B cl_X11 (by decide) in_X11 zw_804 dX11_deliver_55 (lk_iln B dX11_deliver_58 rfl (lk_iald B dX11_deliver_59 (lk_ige B dX11_deliver_60 (by decide) (k_X11_deliver_85 hd1 B hr hlk) (k_X11_deliver_63 hd1 B hr hlk))))))
def S_X11_deliver (d : Nat) (G : Nat → zK) (Q : zQ) : Prop := zLk G 0 (b_X11_deliver_0 d G Q) ∧ zLk G 52 (b_X11_deliver_52 d G Q)
theorem s_X11_deliver_0 {d : Nat} {G : Nat → zK} {Q : zQ} (h : S_X11_deliver d G Q) {ls st : List zV} {μ : zM} (k : b_X11_deliver_0 d G Q ls st μ) : G 0 ls st μ := h.1 ls st μ k
theorem s_X11_deliver_52 {d : Nat} {G : Nat → zK} {Q : zQ} (h : S_X11_deliver d G Q) {ls st : List zV} {μ : zM} (k : b_X11_deliver_52 d G Q ls st μ) : G 52 ls st μ := h.2 ls st μ k
theorem of_X11_deliver {d : Nat} {a0 a1 : zV} {μ : zM} {Q : zQ} (hd1 : 1 ≤ d) (h : ∀ G : Nat → zK, S_X11_deliver d G Q → G 0 [a0, a1, .inr none, .inr none, .inr none, .inr none, .inr none] [] μ) : zCt d mX11_deliver [a0, a1] μ Q := zCt.mk (by decide) (Nat.le_of_ble_eq_true rfl) (fun p l e s m args below meth c E B hr hlk => h _ ⟨k_X11_deliver_0 hd1 B hr hlk, k_X11_deliver_52 hd1 B hr hlk⟩)
theorem dX11_wanted_0 : decode cX11_wanted 0 = .ok (.aload_n 0, 1) := by decide +kernel
theorem dX11_wanted_1 : decode cX11_wanted 1 = .ok (.iload_n 2, 1) := by decide +kernel
theorem dX11_wanted_2 : decode cX11_wanted 2 = .ok (.iload_n 3, 1) := by decide +kernel
theorem dX11_wanted_3 : decode cX11_wanted 3 = .ok (.invokevirtual 144, 3) := by decide +kernel
theorem dX11_wanted_6 : decode cX11_wanted 6 = .ok (.istore 4, 2) := by decide +kernel
theorem dX11_wanted_8 : decode cX11_wanted 8 = .ok (.iload 4, 2) := by decide +kernel
theorem dX11_wanted_10 : decode cX11_wanted 10 = .ok (.ifCond .ge 12, 3) := by decide +kernel
theorem dX11_wanted_13 : decode cX11_wanted 13 = .ok (.aload_n 0, 1) := by decide +kernel
theorem dX11_wanted_14 : decode cX11_wanted 14 = .ok (.iconst 2, 1) := by decide +kernel
theorem dX11_wanted_15 : decode cX11_wanted 15 = .ok (.iload_n 2, 1) := by decide +kernel
theorem dX11_wanted_16 : decode cX11_wanted 16 = .ok (.iload_n 1, 1) := by decide +kernel
theorem dX11_wanted_17 : decode cX11_wanted 17 = .ok (.iload_n 3, 1) := by decide +kernel
theorem dX11_wanted_18 : decode cX11_wanted 18 = .ok (.invokevirtual 239, 3) := by decide +kernel
theorem dX11_wanted_21 : decode cX11_wanted 21 = .ok (.return_, 1) := by decide +kernel
theorem dX11_wanted_22 : decode cX11_wanted 22 = .ok (.aload_n 0, 1) := by decide +kernel
theorem dX11_wanted_23 : decode cX11_wanted 23 = .ok (.iconst 1, 1) := by decide +kernel
theorem dX11_wanted_24 : decode cX11_wanted 24 = .ok (.iload_n 2, 1) := by decide +kernel
theorem dX11_wanted_25 : decode cX11_wanted 25 = .ok (.iload_n 1, 1) := by decide +kernel
theorem dX11_wanted_26 : decode cX11_wanted 26 = .ok (.iload_n 3, 1) := by decide +kernel
theorem dX11_wanted_27 : decode cX11_wanted 27 = .ok (.invokevirtual 239, 3) := by decide +kernel
theorem dX11_wanted_30 : decode cX11_wanted 30 = .ok (.aload_n 0, 1) := by decide +kernel
theorem dX11_wanted_31 : decode cX11_wanted 31 = .ok (.getfield 56, 3) := by decide +kernel
theorem dX11_wanted_34 : decode cX11_wanted 34 = .ok (.aload_n 0, 1) := by decide +kernel
theorem dX11_wanted_35 : decode cX11_wanted 35 = .ok (.getfield 236, 3) := by decide +kernel
theorem dX11_wanted_38 : decode cX11_wanted 38 = .ok (.iconst 1, 1) := by decide +kernel
theorem dX11_wanted_39 : decode cX11_wanted 39 = .ok (.isub, 1) := by decide +kernel
theorem dX11_wanted_40 : decode cX11_wanted 40 = .ok (.aload_n 0, 1) := by decide +kernel
theorem dX11_wanted_41 : decode cX11_wanted 41 = .ok (.getfield 16, 3) := by decide +kernel
theorem dX11_wanted_44 : decode cX11_wanted 44 = .ok (.iload 4, 2) := by decide +kernel
theorem dX11_wanted_46 : decode cX11_wanted 46 = .ok (.iaload, 1) := by decide +kernel
theorem dX11_wanted_47 : decode cX11_wanted 47 = .ok (.iastore, 1) := by decide +kernel
theorem dX11_wanted_48 : decode cX11_wanted 48 = .ok (.iconst 0, 1) := by decide +kernel
theorem dX11_wanted_49 : decode cX11_wanted 49 = .ok (.istore 5, 2) := by decide +kernel
theorem dX11_wanted_51 : decode cX11_wanted 51 = .ok (.iload 5, 2) := by decide +kernel
theorem dX11_wanted_53 : decode cX11_wanted 53 = .ok (.aload_n 0, 1) := by decide +kernel
theorem dX11_wanted_54 : decode cX11_wanted 54 = .ok (.getfield 16, 3) := by decide +kernel
theorem dX11_wanted_57 : decode cX11_wanted 57 = .ok (.iload 4, 2) := by decide +kernel
theorem dX11_wanted_59 : decode cX11_wanted 59 = .ok (.iaload, 1) := by decide +kernel
theorem dX11_wanted_60 : decode cX11_wanted 60 = .ok (.if_icmp .ge 34, 3) := by decide +kernel
theorem dX11_wanted_63 : decode cX11_wanted 63 = .ok (.aload_n 0, 1) := by decide +kernel
theorem dX11_wanted_64 : decode cX11_wanted 64 = .ok (.getfield 59, 3) := by decide +kernel
theorem dX11_wanted_67 : decode cX11_wanted 67 = .ok (.bipush 18, 2) := by decide +kernel
theorem dX11_wanted_69 : decode cX11_wanted 69 = .ok (.aload_n 0, 1) := by decide +kernel
theorem dX11_wanted_70 : decode cX11_wanted 70 = .ok (.getfield 236, 3) := by decide +kernel
theorem dX11_wanted_73 : decode cX11_wanted 73 = .ok (.iconst 1, 1) := by decide +kernel
theorem dX11_wanted_74 : decode cX11_wanted 74 = .ok (.isub, 1) := by decide +kernel
theorem dX11_wanted_75 : decode cX11_wanted 75 = .ok (.imul, 1) := by decide +kernel
theorem dX11_wanted_76 : decode cX11_wanted 76 = .ok (.iload 5, 2) := by decide +kernel
theorem dX11_wanted_78 : decode cX11_wanted 78 = .ok (.iadd, 1) := by decide +kernel
theorem dX11_wanted_79 : decode cX11_wanted 79 = .ok (.aload_n 0, 1) := by decide +kernel
theorem dX11_wanted_80 : decode cX11_wanted 80 = .ok (.iload 4, 2) := by decide +kernel
theorem dX11_wanted_82 : decode cX11_wanted 82 = .ok (.iload 5, 2) := by decide +kernel
theorem dX11_wanted_84 : decode cX11_wanted 84 = .ok (.invokevirtual 196, 3) := by decide +kernel
theorem dX11_wanted_87 : decode cX11_wanted 87 = .ok (.iastore, 1) := by decide +kernel
theorem dX11_wanted_88 : decode cX11_wanted 88 = .ok (.iinc 5 1, 3) := by decide +kernel
theorem dX11_wanted_91 : decode cX11_wanted 91 = .ok (.goto (-40), 3) := by decide +kernel
theorem dX11_wanted_94 : decode cX11_wanted 94 = .ok (.return_, 1) := by decide +kernel
def b_X11_wanted_22 (d : Nat) (G : Nat → zK) (Q : zQ) : zK := o_al 0 <| o_c 1 <| o_il 2 <| o_il 1 <| o_il 3 <| o_callv (zCt (d - 1) mX11_send) 9 5 <| o_al 0 <| o_gf 9 16 <| o_al 0 <| o_gf 9 11 <| o_c 1 <| o_sub <| o_al 0 <| o_gf 9 2 <| o_il 4 <| o_iald <| o_iast <| o_c 0 <| o_is 5 <| G 51
def b_X11_wanted_13 (d : Nat) (G : Nat → zK) (Q : zQ) : zK := o_al 0 <| o_c 2 <| o_il 2 <| o_il 1 <| o_il 3 <| o_callv (zCt (d - 1) mX11_send) 9 5 <| t_vret Q
def b_X11_wanted_0 (d : Nat) (G : Nat → zK) (Q : zQ) : zK := o_al 0 <| o_il 2 <| o_il 3 <| o_callv (zCt (d - 1) mX11_where) 9 3 <| o_is 4 <| o_il 4 <| t_zlt (b_X11_wanted_13 d G Q) (b_X11_wanted_22 d G Q)
def b_X11_wanted_94 (d : Nat) (G : Nat → zK) (Q : zQ) : zK := t_vret Q
def b_X11_wanted_63 (d : Nat) (G : Nat → zK) (Q : zQ) : zK := o_al 0 <| o_gf 9 17 <| o_c 18 <| o_al 0 <| o_gf 9 11 <| o_c 1 <| o_sub <| o_mul <| o_il 5 <| o_add <| o_al 0 <| o_il 4 <| o_il 5 <| o_callv (zCt (d - 1) mX11_cell) 9 3 <| o_iast <| o_inc 5 1 <| G 51
def b_X11_wanted_51 (d : Nat) (G : Nat → zK) (Q : zQ) : zK := o_il 5 <| o_al 0 <| o_gf 9 2 <| o_il 4 <| o_iald <| t_ilt (b_X11_wanted_63 d G Q) (b_X11_wanted_94 d G Q)
set_option maxRecDepth 20000 in
theorem k_X11_wanted_22 {p : Program} {l : Launch} {e : Env} {s : State} {m : MethodId} {args : Array Value} {below : List Frame} {meth : Method} {c : Code} {E : zE} {d : Nat} {Q : zQ} (hd1 : 1 ≤ d) (B : zB p s m args c E mX11_wanted.1.cls mX11_wanted.2.1 mX11_wanted.2.2.1) (hr : meth.sig.returnType = mX11_wanted.2.2.2) (hlk : meth.locks = false) : zLk (zG p l e (zrm d) s m args below meth c E mX11_wanted.2.2.1 0 0 (MQ below (zQc E Q) args s 0 0 (zaA E))) 22 (b_X11_wanted_22 d (zG p l e (zrm d) s m args below meth c E mX11_wanted.2.2.1 0 0 (MQ below (zQc E Q) args s 0 0 (zaA E))) Q) := by
  unfold b_X11_wanted_22
  exact lk_aln B dX11_wanted_22 rfl (lk_c B dX11_wanted_23 (lk_iln B dX11_wanted_24 rfl (lk_iln B dX11_wanted_25 rfl (lk_iln B dX11_wanted_26 rfl (lk_callv (M := mX11_send) (T := TX11) (N := 41) B (zhR hd1 (by decide)) ⟨Nat.zero_le _, Nat.zero_le _⟩ cl_X11 (zw5 zw_1105 zw_1102 zw_1104 zw_43 zw_58) (by decide +kernel) dX11_wanted_27 (lk_aln B dX11_wanted_30 rfl (lk_gf (T := TX11) B cl_X11 (by decide) in_X11 zw_804 dX11_wanted_31 (lk_aln B dX11_wanted_34 rfl (lk_gf (T := TX11) B cl_X11 (by decide) in_X11 zw_799 dX11_wanted_35 (lk_c B dX11_wanted_38 (lk_sub B dX11_wanted_39 (lk_aln B dX11_wanted_40 rfl (lk_gf (T := TX11) B cl_X11 (by decide) in_X11 zw_790 dX11_wanted_41 (lk_il B dX11_wanted_44 (lk_iald B dX11_wanted_46 (lk_iast B dX11_wanted_47 (lk_c B dX11_wanted_48 (lk_is B dX11_wanted_49 (by decide) (fun _ _ _ h => h)))))))))))))))))))
set_option maxRecDepth 20000 in
theorem k_X11_wanted_13 {p : Program} {l : Launch} {e : Env} {s : State} {m : MethodId} {args : Array Value} {below : List Frame} {meth : Method} {c : Code} {E : zE} {d : Nat} {Q : zQ} (hd1 : 1 ≤ d) (B : zB p s m args c E mX11_wanted.1.cls mX11_wanted.2.1 mX11_wanted.2.2.1) (hr : meth.sig.returnType = mX11_wanted.2.2.2) (hlk : meth.locks = false) : zLk (zG p l e (zrm d) s m args below meth c E mX11_wanted.2.2.1 0 0 (MQ below (zQc E Q) args s 0 0 (zaA E))) 13 (b_X11_wanted_13 d (zG p l e (zrm d) s m args below meth c E mX11_wanted.2.2.1 0 0 (MQ below (zQc E Q) args s 0 0 (zaA E))) Q) := by
  unfold b_X11_wanted_13
  exact lk_aln B dX11_wanted_13 rfl (lk_c B dX11_wanted_14 (lk_iln B dX11_wanted_15 rfl (lk_iln B dX11_wanted_16 rfl (lk_iln B dX11_wanted_17 rfl (lk_callv (M := mX11_send) (T := TX11) (N := 41) B (zhR hd1 (by decide)) ⟨Nat.zero_le _, Nat.zero_le _⟩ cl_X11 (zw5 zw_1105 zw_1102 zw_1104 zw_43 zw_58) (by decide +kernel) dX11_wanted_18 (lk_vret B hr hlk dX11_wanted_21))))))
set_option maxRecDepth 20000 in
theorem k_X11_wanted_0 {p : Program} {l : Launch} {e : Env} {s : State} {m : MethodId} {args : Array Value} {below : List Frame} {meth : Method} {c : Code} {E : zE} {d : Nat} {Q : zQ} (hd1 : 1 ≤ d) (B : zB p s m args c E mX11_wanted.1.cls mX11_wanted.2.1 mX11_wanted.2.2.1) (hr : meth.sig.returnType = mX11_wanted.2.2.2) (hlk : meth.locks = false) : zLk (zG p l e (zrm d) s m args below meth c E mX11_wanted.2.2.1 0 0 (MQ below (zQc E Q) args s 0 0 (zaA E))) 0 (b_X11_wanted_0 d (zG p l e (zrm d) s m args below meth c E mX11_wanted.2.2.1 0 0 (MQ below (zQc E Q) args s 0 0 (zaA E))) Q) := by
  unfold b_X11_wanted_0
  exact lk_aln B dX11_wanted_0 rfl (lk_iln B dX11_wanted_1 rfl (lk_iln B dX11_wanted_2 rfl (lk_callv (M := mX11_where) (T := TX11) (N := 41) B (zhR hd1 (by decide)) ⟨Nat.zero_le _, Nat.zero_le _⟩ cl_X11 (zw5 zw_963 zw_960 zw_962 zw_20 zw_58) (by decide +kernel) dX11_wanted_3 (lk_is B dX11_wanted_6 (by decide) (lk_il B dX11_wanted_8 (lk_zge B dX11_wanted_10 (by decide) (k_X11_wanted_22 hd1 B hr hlk) (k_X11_wanted_13 hd1 B hr hlk)))))))
set_option maxRecDepth 20000 in
theorem k_X11_wanted_94 {p : Program} {l : Launch} {e : Env} {s : State} {m : MethodId} {args : Array Value} {below : List Frame} {meth : Method} {c : Code} {E : zE} {d : Nat} {Q : zQ} (hd1 : 1 ≤ d) (B : zB p s m args c E mX11_wanted.1.cls mX11_wanted.2.1 mX11_wanted.2.2.1) (hr : meth.sig.returnType = mX11_wanted.2.2.2) (hlk : meth.locks = false) : zLk (zG p l e (zrm d) s m args below meth c E mX11_wanted.2.2.1 0 0 (MQ below (zQc E Q) args s 0 0 (zaA E))) 94 (b_X11_wanted_94 d (zG p l e (zrm d) s m args below meth c E mX11_wanted.2.2.1 0 0 (MQ below (zQc E Q) args s 0 0 (zaA E))) Q) := by
  unfold b_X11_wanted_94
  exact lk_vret B hr hlk dX11_wanted_94
set_option maxRecDepth 20000 in
theorem k_X11_wanted_63 {p : Program} {l : Launch} {e : Env} {s : State} {m : MethodId} {args : Array Value} {below : List Frame} {meth : Method} {c : Code} {E : zE} {d : Nat} {Q : zQ} (hd1 : 1 ≤ d) (B : zB p s m args c E mX11_wanted.1.cls mX11_wanted.2.1 mX11_wanted.2.2.1) (hr : meth.sig.returnType = mX11_wanted.2.2.2) (hlk : meth.locks = false) : zLk (zG p l e (zrm d) s m args below meth c E mX11_wanted.2.2.1 0 0 (MQ below (zQc E Q) args s 0 0 (zaA E))) 63 (b_X11_wanted_63 d (zG p l e (zrm d) s m args below meth c E mX11_wanted.2.2.1 0 0 (MQ below (zQc E Q) args s 0 0 (zaA E))) Q) := by
  unfold b_X11_wanted_63
  exact lk_aln B dX11_wanted_63 rfl (lk_gf (T := TX11) B cl_X11 (by decide) in_X11 zw_805 dX11_wanted_64 (lk_b B dX11_wanted_67 rfl (lk_aln B dX11_wanted_69 rfl (lk_gf (T := TX11) B cl_X11 (by decide) in_X11 zw_799 dX11_wanted_70 (lk_c B dX11_wanted_73 (lk_sub B dX11_wanted_74 (lk_mul B dX11_wanted_75 (lk_il B dX11_wanted_76 (lk_add B dX11_wanted_78 (lk_aln B dX11_wanted_79 rfl (lk_il B dX11_wanted_80 (lk_il B dX11_wanted_82 (lk_callv (M := mX11_cell) (T := TX11) (N := 41) B (zhR hd1 (by decide)) ⟨Nat.zero_le _, Nat.zero_le _⟩ cl_X11 (zw5 zw_995 zw_992 zw_994 zw_28 zw_58) (by decide +kernel) dX11_wanted_84 (lk_iast B dX11_wanted_87 (lk_inc B dX11_wanted_88 (by decide) (lk_goto B dX11_wanted_91 (by decide) (fun _ _ _ h => h)))))))))))))))))
set_option maxRecDepth 20000 in
theorem k_X11_wanted_51 {p : Program} {l : Launch} {e : Env} {s : State} {m : MethodId} {args : Array Value} {below : List Frame} {meth : Method} {c : Code} {E : zE} {d : Nat} {Q : zQ} (hd1 : 1 ≤ d) (B : zB p s m args c E mX11_wanted.1.cls mX11_wanted.2.1 mX11_wanted.2.2.1) (hr : meth.sig.returnType = mX11_wanted.2.2.2) (hlk : meth.locks = false) : zLk (zG p l e (zrm d) s m args below meth c E mX11_wanted.2.2.1 0 0 (MQ below (zQc E Q) args s 0 0 (zaA E))) 51 (b_X11_wanted_51 d (zG p l e (zrm d) s m args below meth c E mX11_wanted.2.2.1 0 0 (MQ below (zQc E Q) args s 0 0 (zaA E))) Q) := by
  unfold b_X11_wanted_51
  exact lk_il B dX11_wanted_51 (lk_aln B dX11_wanted_53 rfl (lk_gf (T := TX11) B cl_X11 (by decide) in_X11 zw_790 dX11_wanted_54 (lk_il B dX11_wanted_57 (lk_iald B dX11_wanted_59 (lk_ige B dX11_wanted_60 (by decide) (k_X11_wanted_94 hd1 B hr hlk) (k_X11_wanted_63 hd1 B hr hlk))))))
def S_X11_wanted (d : Nat) (G : Nat → zK) (Q : zQ) : Prop := zLk G 0 (b_X11_wanted_0 d G Q) ∧ zLk G 51 (b_X11_wanted_51 d G Q)
theorem s_X11_wanted_0 {d : Nat} {G : Nat → zK} {Q : zQ} (h : S_X11_wanted d G Q) {ls st : List zV} {μ : zM} (k : b_X11_wanted_0 d G Q ls st μ) : G 0 ls st μ := h.1 ls st μ k
theorem s_X11_wanted_51 {d : Nat} {G : Nat → zK} {Q : zQ} (h : S_X11_wanted d G Q) {ls st : List zV} {μ : zM} (k : b_X11_wanted_51 d G Q ls st μ) : G 51 ls st μ := h.2 ls st μ k
theorem of_X11_wanted {d : Nat} {a0 a1 a2 a3 : zV} {μ : zM} {Q : zQ} (hd1 : 1 ≤ d) (h : ∀ G : Nat → zK, S_X11_wanted d G Q → G 0 [a0, a1, a2, a3, .inr none, .inr none] [] μ) : zCt d mX11_wanted [a0, a1, a2, a3] μ Q := zCt.mk (by decide) (Nat.le_of_ble_eq_true rfl) (fun p l e s m args below meth c E B hr hlk => h _ ⟨k_X11_wanted_0 hd1 B hr hlk, k_X11_wanted_51 hd1 B hr hlk⟩)
theorem dX11_given_0 : decode cX11_given 0 = .ok (.aload_n 0, 1) := by decide +kernel
theorem dX11_given_1 : decode cX11_given 1 = .ok (.invokevirtual 136, 3) := by decide +kernel
theorem dX11_given_4 : decode cX11_given 4 = .ok (.ifCond .ne 4, 3) := by decide +kernel
theorem dX11_given_7 : decode cX11_given 7 = .ok (.return_, 1) := by decide +kernel
theorem dX11_given_8 : decode cX11_given 8 = .ok (.aload_n 0, 1) := by decide +kernel
theorem dX11_given_9 : decode cX11_given 9 = .ok (.invokevirtual 140, 3) := by decide +kernel
theorem dX11_given_12 : decode cX11_given 12 = .ok (.istore_n 2, 1) := by decide +kernel
theorem dX11_given_13 : decode cX11_given 13 = .ok (.aload_n 0, 1) := by decide +kernel
theorem dX11_given_14 : decode cX11_given 14 = .ok (.iload_n 2, 1) := by decide +kernel
theorem dX11_given_15 : decode cX11_given 15 = .ok (.invokevirtual 256, 3) := by decide +kernel
theorem dX11_given_18 : decode cX11_given 18 = .ok (.ifCond .ne 4, 3) := by decide +kernel
theorem dX11_given_21 : decode cX11_given 21 = .ok (.return_, 1) := by decide +kernel
theorem dX11_given_22 : decode cX11_given 22 = .ok (.aload_n 0, 1) := by decide +kernel
theorem dX11_given_23 : decode cX11_given 23 = .ok (.getfield 7, 3) := by decide +kernel
theorem dX11_given_26 : decode cX11_given 26 = .ok (.iload_n 1, 1) := by decide +kernel
theorem dX11_given_27 : decode cX11_given 27 = .ok (.iaload, 1) := by decide +kernel
theorem dX11_given_28 : decode cX11_given 28 = .ok (.bipush 64, 2) := by decide +kernel
theorem dX11_given_30 : decode cX11_given 30 = .ok (.if_icmp .ne 11, 3) := by decide +kernel
theorem dX11_given_33 : decode cX11_given 33 = .ok (.aload_n 0, 1) := by decide +kernel
theorem dX11_given_34 : decode cX11_given 34 = .ok (.getfield 35, 3) := by decide +kernel
theorem dX11_given_37 : decode cX11_given 37 = .ok (.iload_n 1, 1) := by decide +kernel
theorem dX11_given_38 : decode cX11_given 38 = .ok (.iconst 3, 1) := by decide +kernel
theorem dX11_given_39 : decode cX11_given 39 = .ok (.iastore, 1) := by decide +kernel
theorem dX11_given_40 : decode cX11_given 40 = .ok (.return_, 1) := by decide +kernel
theorem dX11_given_41 : decode cX11_given 41 = .ok (.aload_n 0, 1) := by decide +kernel
theorem dX11_given_42 : decode cX11_given 42 = .ok (.aload_n 0, 1) := by decide +kernel
theorem dX11_given_43 : decode cX11_given 43 = .ok (.getfield 214, 3) := by decide +kernel
theorem dX11_given_46 : decode cX11_given 46 = .ok (.putfield 259, 3) := by decide +kernel
theorem dX11_given_49 : decode cX11_given 49 = .ok (.iconst 0, 1) := by decide +kernel
theorem dX11_given_50 : decode cX11_given 50 = .ok (.istore_n 3, 1) := by decide +kernel
theorem dX11_given_51 : decode cX11_given 51 = .ok (.iload_n 3, 1) := by decide +kernel
theorem dX11_given_52 : decode cX11_given 52 = .ok (.aload_n 0, 1) := by decide +kernel
theorem dX11_given_53 : decode cX11_given 53 = .ok (.getfield 259, 3) := by decide +kernel
theorem dX11_given_56 : decode cX11_given 56 = .ok (.if_icmp .ge 21, 3) := by decide +kernel
theorem dX11_given_59 : decode cX11_given 59 = .ok (.aload_n 0, 1) := by decide +kernel
theorem dX11_given_60 : decode cX11_given 60 = .ok (.getfield 92, 3) := by decide +kernel
theorem dX11_given_63 : decode cX11_given 63 = .ok (.iload_n 3, 1) := by decide +kernel
theorem dX11_given_64 : decode cX11_given 64 = .ok (.aload_n 0, 1) := by decide +kernel
theorem dX11_given_65 : decode cX11_given 65 = .ok (.getfield 89, 3) := by decide +kernel
theorem dX11_given_68 : decode cX11_given 68 = .ok (.iload_n 3, 1) := by decide +kernel
theorem dX11_given_69 : decode cX11_given 69 = .ok (.iaload, 1) := by decide +kernel
theorem dX11_given_70 : decode cX11_given 70 = .ok (.iastore, 1) := by decide +kernel
theorem dX11_given_71 : decode cX11_given 71 = .ok (.iinc 3 1, 3) := by decide +kernel
theorem dX11_given_74 : decode cX11_given 74 = .ok (.goto (-23), 3) := by decide +kernel
theorem dX11_given_77 : decode cX11_given 77 = .ok (.aload_n 0, 1) := by decide +kernel
theorem dX11_given_78 : decode cX11_given 78 = .ok (.iload_n 1, 1) := by decide +kernel
theorem dX11_given_79 : decode cX11_given 79 = .ok (.iload_n 2, 1) := by decide +kernel
theorem dX11_given_80 : decode cX11_given 80 = .ok (.invokevirtual 150, 3) := by decide +kernel
theorem dX11_given_83 : decode cX11_given 83 = .ok (.aload_n 0, 1) := by decide +kernel
theorem dX11_given_84 : decode cX11_given 84 = .ok (.iload_n 1, 1) := by decide +kernel
theorem dX11_given_85 : decode cX11_given 85 = .ok (.invokevirtual 229, 3) := by decide +kernel
theorem dX11_given_88 : decode cX11_given 88 = .ok (.iconst 0, 1) := by decide +kernel
theorem dX11_given_89 : decode cX11_given 89 = .ok (.istore_n 3, 1) := by decide +kernel
theorem dX11_given_90 : decode cX11_given 90 = .ok (.iload_n 3, 1) := by decide +kernel
theorem dX11_given_91 : decode cX11_given 91 = .ok (.aload_n 0, 1) := by decide +kernel
theorem dX11_given_92 : decode cX11_given 92 = .ok (.getfield 214, 3) := by decide +kernel
theorem dX11_given_95 : decode cX11_given 95 = .ok (.if_icmp .ge 81, 3) := by decide +kernel
theorem dX11_given_98 : decode cX11_given 98 = .ok (.iconst 0, 1) := by decide +kernel
theorem dX11_given_99 : decode cX11_given 99 = .ok (.istore 4, 2) := by decide +kernel
theorem dX11_given_101 : decode cX11_given 101 = .ok (.iconst 0, 1) := by decide +kernel
theorem dX11_given_102 : decode cX11_given 102 = .ok (.istore 5, 2) := by decide +kernel
theorem dX11_given_104 : decode cX11_given 104 = .ok (.iload 5, 2) := by decide +kernel
theorem dX11_given_106 : decode cX11_given 106 = .ok (.aload_n 0, 1) := by decide +kernel
theorem dX11_given_107 : decode cX11_given 107 = .ok (.getfield 259, 3) := by decide +kernel
theorem dX11_given_110 : decode cX11_given 110 = .ok (.if_icmp .ge 37, 3) := by decide +kernel
theorem dX11_given_113 : decode cX11_given 113 = .ok (.iload 4, 2) := by decide +kernel
theorem dX11_given_115 : decode cX11_given 115 = .ok (.ifCond .ne 19, 3) := by decide +kernel
theorem dX11_given_118 : decode cX11_given 118 = .ok (.aload_n 0, 1) := by decide +kernel
theorem dX11_given_119 : decode cX11_given 119 = .ok (.getfield 92, 3) := by decide +kernel
theorem dX11_given_122 : decode cX11_given 122 = .ok (.iload 5, 2) := by decide +kernel
theorem dX11_given_124 : decode cX11_given 124 = .ok (.iaload, 1) := by decide +kernel
theorem dX11_given_125 : decode cX11_given 125 = .ok (.aload_n 0, 1) := by decide +kernel
theorem dX11_given_126 : decode cX11_given 126 = .ok (.getfield 89, 3) := by decide +kernel
theorem dX11_given_129 : decode cX11_given 129 = .ok (.iload_n 3, 1) := by decide +kernel
theorem dX11_given_130 : decode cX11_given 130 = .ok (.iaload, 1) := by decide +kernel
theorem dX11_given_131 : decode cX11_given 131 = .ok (.if_icmp .ne 7, 3) := by decide +kernel
theorem dX11_given_134 : decode cX11_given 134 = .ok (.iconst 1, 1) := by decide +kernel
theorem dX11_given_135 : decode cX11_given 135 = .ok (.goto 4, 3) := by decide +kernel
theorem dX11_given_138 : decode cX11_given 138 = .ok (.iconst 0, 1) := by decide +kernel
theorem dX11_given_139 : decode cX11_given 139 = .ok (.istore 4, 2) := by decide +kernel
theorem dX11_given_141 : decode cX11_given 141 = .ok (.iinc 5 1, 3) := by decide +kernel
theorem dX11_given_144 : decode cX11_given 144 = .ok (.goto (-40), 3) := by decide +kernel
theorem dX11_given_147 : decode cX11_given 147 = .ok (.iload 4, 2) := by decide +kernel
theorem dX11_given_149 : decode cX11_given 149 = .ok (.ifCond .ne 21, 3) := by decide +kernel
theorem dX11_given_152 : decode cX11_given 152 = .ok (.aload_n 0, 1) := by decide +kernel
theorem dX11_given_153 : decode cX11_given 153 = .ok (.iconst 0, 1) := by decide +kernel
theorem dX11_given_154 : decode cX11_given 154 = .ok (.iload_n 1, 1) := by decide +kernel
theorem dX11_given_155 : decode cX11_given 155 = .ok (.aload_n 0, 1) := by decide +kernel
theorem dX11_given_156 : decode cX11_given 156 = .ok (.getfield 41, 3) := by decide +kernel
theorem dX11_given_159 : decode cX11_given 159 = .ok (.iload_n 1, 1) := by decide +kernel
theorem dX11_given_160 : decode cX11_given 160 = .ok (.iaload, 1) := by decide +kernel
theorem dX11_given_161 : decode cX11_given 161 = .ok (.aload_n 0, 1) := by decide +kernel
theorem dX11_given_162 : decode cX11_given 162 = .ok (.getfield 89, 3) := by decide +kernel
theorem dX11_given_165 : decode cX11_given 165 = .ok (.iload_n 3, 1) := by decide +kernel
theorem dX11_given_166 : decode cX11_given 166 = .ok (.iaload, 1) := by decide +kernel
theorem dX11_given_167 : decode cX11_given 167 = .ok (.invokevirtual 239, 3) := by decide +kernel
theorem dX11_given_170 : decode cX11_given 170 = .ok (.iinc 3 1, 3) := by decide +kernel
theorem dX11_given_173 : decode cX11_given 173 = .ok (.goto (-83), 3) := by decide +kernel
theorem dX11_given_176 : decode cX11_given 176 = .ok (.aload_n 0, 1) := by decide +kernel
theorem dX11_given_177 : decode cX11_given 177 = .ok (.getfield 214, 3) := by decide +kernel
theorem dX11_given_180 : decode cX11_given 180 = .ok (.ifCond .ne 10, 3) := by decide +kernel
theorem dX11_given_183 : decode cX11_given 183 = .ok (.aload_n 0, 1) := by decide +kernel
theorem dX11_given_184 : decode cX11_given 184 = .ok (.getfield 35, 3) := by decide +kernel
theorem dX11_given_187 : decode cX11_given 187 = .ok (.iload_n 1, 1) := by decide +kernel
theorem dX11_given_188 : decode cX11_given 188 = .ok (.iconst 2, 1) := by decide +kernel
theorem dX11_given_189 : decode cX11_given 189 = .ok (.iastore, 1) := by decide +kernel
theorem dX11_given_190 : decode cX11_given 190 = .ok (.return_, 1) := by decide +kernel
def b_X11_given_41 (d : Nat) (G : Nat → zK) (Q : zQ) : zK := o_al 0 <| o_al 0 <| o_gf 9 34 <| o_pf 9 36 <| o_c 0 <| o_is 3 <| G 51
def b_X11_given_33 (d : Nat) (G : Nat → zK) (Q : zQ) : zK := o_al 0 <| o_gf 9 8 <| o_il 1 <| o_c 3 <| o_iast <| t_vret Q
def b_X11_given_22 (d : Nat) (G : Nat → zK) (Q : zQ) : zK := o_al 0 <| o_gf 9 0 <| o_il 1 <| o_iald <| o_c 64 <| t_ieq (b_X11_given_33 d G Q) (b_X11_given_41 d G Q)
def b_X11_given_21 (d : Nat) (G : Nat → zK) (Q : zQ) : zK := t_vret Q
def b_X11_given_8 (d : Nat) (G : Nat → zK) (Q : zQ) : zK := o_al 0 <| o_callv (zCt (d - 1) mX11_rowName) 9 1 <| o_is 2 <| o_al 0 <| o_il 2 <| o_callv (zCt (d - 1) mX11_isMissing) 9 2 <| t_zeq (b_X11_given_21 d G Q) (b_X11_given_22 d G Q)
def b_X11_given_7 (d : Nat) (G : Nat → zK) (Q : zQ) : zK := t_vret Q
def b_X11_given_0 (d : Nat) (G : Nat → zK) (Q : zQ) : zK := o_al 0 <| o_callv (zCt (d - 1) mX11_isBlock) 9 1 <| t_zeq (b_X11_given_7 d G Q) (b_X11_given_8 d G Q)
def b_X11_given_77 (d : Nat) (G : Nat → zK) (Q : zQ) : zK := o_al 0 <| o_il 1 <| o_il 2 <| o_callv (zCt (d - 1) mX11_enter) 9 3 <| o_al 0 <| o_il 1 <| o_callv (zCt (d - 1) mX11_findMissing) 9 2 <| o_c 0 <| o_is 3 <| G 90
def b_X11_given_59 (d : Nat) (G : Nat → zK) (Q : zQ) : zK := o_al 0 <| o_gf 9 37 <| o_il 3 <| o_al 0 <| o_gf 9 35 <| o_il 3 <| o_iald <| o_iast <| o_inc 3 1 <| G 51
def b_X11_given_51 (d : Nat) (G : Nat → zK) (Q : zQ) : zK := o_il 3 <| o_al 0 <| o_gf 9 36 <| t_ilt (b_X11_given_59 d G Q) (b_X11_given_77 d G Q)
def b_X11_given_190 (d : Nat) (G : Nat → zK) (Q : zQ) : zK := t_vret Q
def b_X11_given_183 (d : Nat) (G : Nat → zK) (Q : zQ) : zK := o_al 0 <| o_gf 9 8 <| o_il 1 <| o_c 2 <| o_iast <| b_X11_given_190 d G Q
def b_X11_given_176 (d : Nat) (G : Nat → zK) (Q : zQ) : zK := o_al 0 <| o_gf 9 34 <| t_zeq (b_X11_given_183 d G Q) (b_X11_given_190 d G Q)
def b_X11_given_98 (d : Nat) (G : Nat → zK) (Q : zQ) : zK := o_c 0 <| o_is 4 <| o_c 0 <| o_is 5 <| G 104
def b_X11_given_90 (d : Nat) (G : Nat → zK) (Q : zQ) : zK := o_il 3 <| o_al 0 <| o_gf 9 34 <| t_ilt (b_X11_given_98 d G Q) (b_X11_given_176 d G Q)
def b_X11_given_170 (d : Nat) (G : Nat → zK) (Q : zQ) : zK := o_inc 3 1 <| G 90
def b_X11_given_152 (d : Nat) (G : Nat → zK) (Q : zQ) : zK := o_al 0 <| o_c 0 <| o_il 1 <| o_al 0 <| o_gf 9 10 <| o_il 1 <| o_iald <| o_al 0 <| o_gf 9 35 <| o_il 3 <| o_iald <| o_callv (zCt (d - 1) mX11_send) 9 5 <| b_X11_given_170 d G Q
def b_X11_given_147 (d : Nat) (G : Nat → zK) (Q : zQ) : zK := o_il 4 <| t_zeq (b_X11_given_152 d G Q) (b_X11_given_170 d G Q)
def b_X11_given_139 (d : Nat) (G : Nat → zK) (Q : zQ) : zK := o_is 4 <| o_inc 5 1 <| G 104
def b_X11_given_134 (d : Nat) (G : Nat → zK) (Q : zQ) : zK := o_c 1 <| b_X11_given_139 d G Q
def b_X11_given_138 (d : Nat) (G : Nat → zK) (Q : zQ) : zK := o_c 0 <| b_X11_given_139 d G Q
def b_X11_given_118 (d : Nat) (G : Nat → zK) (Q : zQ) : zK := o_al 0 <| o_gf 9 37 <| o_il 5 <| o_iald <| o_al 0 <| o_gf 9 35 <| o_il 3 <| o_iald <| t_ieq (b_X11_given_134 d G Q) (b_X11_given_138 d G Q)
def b_X11_given_113 (d : Nat) (G : Nat → zK) (Q : zQ) : zK := o_il 4 <| t_zeq (b_X11_given_118 d G Q) (b_X11_given_134 d G Q)
def b_X11_given_104 (d : Nat) (G : Nat → zK) (Q : zQ) : zK := o_il 5 <| o_al 0 <| o_gf 9 36 <| t_ilt (b_X11_given_113 d G Q) (b_X11_given_147 d G Q)
set_option maxRecDepth 20000 in
theorem k_X11_given_41 {p : Program} {l : Launch} {e : Env} {s : State} {m : MethodId} {args : Array Value} {below : List Frame} {meth : Method} {c : Code} {E : zE} {d : Nat} {Q : zQ} (hd1 : 1 ≤ d) (B : zB p s m args c E mX11_given.1.cls mX11_given.2.1 mX11_given.2.2.1) (hr : meth.sig.returnType = mX11_given.2.2.2) (hlk : meth.locks = false) : zLk (zG p l e (zrm d) s m args below meth c E mX11_given.2.2.1 0 0 (MQ below (zQc E Q) args s 0 0 (zaA E))) 41 (b_X11_given_41 d (zG p l e (zrm d) s m args below meth c E mX11_given.2.2.1 0 0 (MQ below (zQc E Q) args s 0 0 (zaA E))) Q) := by
  unfold b_X11_given_41
  exact lk_aln B dX11_given_41 rfl (lk_aln B dX11_given_42 rfl (lk_gf (T := TX11) B cl_X11 (by decide) in_X11 zw_822 dX11_given_43 (lk_pf (T := TX11) B cl_X11 (by decide) in_X11 tyX11_ok nmX11 zw_824 rfl (by decide +kernel) dX11_given_46 (lk_c B dX11_given_49 (lk_isn B dX11_given_50 rfl (by decide) (fun _ _ _ h => h))))))
set_option maxRecDepth 20000 in
theorem k_X11_given_33 {p : Program} {l : Launch} {e : Env} {s : State} {m : MethodId} {args : Array Value} {below : List Frame} {meth : Method} {c : Code} {E : zE} {d : Nat} {Q : zQ} (hd1 : 1 ≤ d) (B : zB p s m args c E mX11_given.1.cls mX11_given.2.1 mX11_given.2.2.1) (hr : meth.sig.returnType = mX11_given.2.2.2) (hlk : meth.locks = false) : zLk (zG p l e (zrm d) s m args below meth c E mX11_given.2.2.1 0 0 (MQ below (zQc E Q) args s 0 0 (zaA E))) 33 (b_X11_given_33 d (zG p l e (zrm d) s m args below meth c E mX11_given.2.2.1 0 0 (MQ below (zQc E Q) args s 0 0 (zaA E))) Q) := by
  unfold b_X11_given_33
  exact lk_aln B dX11_given_33 rfl (lk_gf (T := TX11) B cl_X11 (by decide) in_X11 zw_796 dX11_given_34 (lk_iln B dX11_given_37 rfl (lk_c B dX11_given_38 (lk_iast B dX11_given_39 (lk_vret B hr hlk dX11_given_40)))))
set_option maxRecDepth 20000 in
theorem k_X11_given_22 {p : Program} {l : Launch} {e : Env} {s : State} {m : MethodId} {args : Array Value} {below : List Frame} {meth : Method} {c : Code} {E : zE} {d : Nat} {Q : zQ} (hd1 : 1 ≤ d) (B : zB p s m args c E mX11_given.1.cls mX11_given.2.1 mX11_given.2.2.1) (hr : meth.sig.returnType = mX11_given.2.2.2) (hlk : meth.locks = false) : zLk (zG p l e (zrm d) s m args below meth c E mX11_given.2.2.1 0 0 (MQ below (zQc E Q) args s 0 0 (zaA E))) 22 (b_X11_given_22 d (zG p l e (zrm d) s m args below meth c E mX11_given.2.2.1 0 0 (MQ below (zQc E Q) args s 0 0 (zaA E))) Q) := by
  unfold b_X11_given_22
  exact lk_aln B dX11_given_22 rfl (lk_gf (T := TX11) B cl_X11 (by decide) in_X11 zw_788 dX11_given_23 (lk_iln B dX11_given_26 rfl (lk_iald B dX11_given_27 (lk_b B dX11_given_28 rfl (lk_ine B dX11_given_30 (by decide) (k_X11_given_41 hd1 B hr hlk) (k_X11_given_33 hd1 B hr hlk))))))
set_option maxRecDepth 20000 in
theorem k_X11_given_21 {p : Program} {l : Launch} {e : Env} {s : State} {m : MethodId} {args : Array Value} {below : List Frame} {meth : Method} {c : Code} {E : zE} {d : Nat} {Q : zQ} (hd1 : 1 ≤ d) (B : zB p s m args c E mX11_given.1.cls mX11_given.2.1 mX11_given.2.2.1) (hr : meth.sig.returnType = mX11_given.2.2.2) (hlk : meth.locks = false) : zLk (zG p l e (zrm d) s m args below meth c E mX11_given.2.2.1 0 0 (MQ below (zQc E Q) args s 0 0 (zaA E))) 21 (b_X11_given_21 d (zG p l e (zrm d) s m args below meth c E mX11_given.2.2.1 0 0 (MQ below (zQc E Q) args s 0 0 (zaA E))) Q) := by
  unfold b_X11_given_21
  exact lk_vret B hr hlk dX11_given_21
set_option maxRecDepth 20000 in
theorem k_X11_given_8 {p : Program} {l : Launch} {e : Env} {s : State} {m : MethodId} {args : Array Value} {below : List Frame} {meth : Method} {c : Code} {E : zE} {d : Nat} {Q : zQ} (hd1 : 1 ≤ d) (B : zB p s m args c E mX11_given.1.cls mX11_given.2.1 mX11_given.2.2.1) (hr : meth.sig.returnType = mX11_given.2.2.2) (hlk : meth.locks = false) : zLk (zG p l e (zrm d) s m args below meth c E mX11_given.2.2.1 0 0 (MQ below (zQc E Q) args s 0 0 (zaA E))) 8 (b_X11_given_8 d (zG p l e (zrm d) s m args below meth c E mX11_given.2.2.1 0 0 (MQ below (zQc E Q) args s 0 0 (zaA E))) Q) := by
  unfold b_X11_given_8
  exact lk_aln B dX11_given_8 rfl (lk_callv (M := mX11_rowName) (T := TX11) (N := 41) B (zhR hd1 (by decide)) ⟨Nat.zero_le _, Nat.zero_le _⟩ cl_X11 (zw5 zw_959 zw_956 zw_958 zw_19 zw_58) (by decide +kernel) dX11_given_9 (lk_isn B dX11_given_12 rfl (by decide) (lk_aln B dX11_given_13 rfl (lk_iln B dX11_given_14 rfl (lk_callv (M := mX11_isMissing) (T := TX11) (N := 41) B (zhR hd1 (by decide)) ⟨Nat.zero_le _, Nat.zero_le _⟩ cl_X11 (zw5 zw_1129 zw_1126 zw_1128 zw_47 zw_58) (by decide +kernel) dX11_given_15 (lk_zne B dX11_given_18 (by decide) (k_X11_given_22 hd1 B hr hlk) (k_X11_given_21 hd1 B hr hlk)))))))
set_option maxRecDepth 20000 in
theorem k_X11_given_7 {p : Program} {l : Launch} {e : Env} {s : State} {m : MethodId} {args : Array Value} {below : List Frame} {meth : Method} {c : Code} {E : zE} {d : Nat} {Q : zQ} (hd1 : 1 ≤ d) (B : zB p s m args c E mX11_given.1.cls mX11_given.2.1 mX11_given.2.2.1) (hr : meth.sig.returnType = mX11_given.2.2.2) (hlk : meth.locks = false) : zLk (zG p l e (zrm d) s m args below meth c E mX11_given.2.2.1 0 0 (MQ below (zQc E Q) args s 0 0 (zaA E))) 7 (b_X11_given_7 d (zG p l e (zrm d) s m args below meth c E mX11_given.2.2.1 0 0 (MQ below (zQc E Q) args s 0 0 (zaA E))) Q) := by
  unfold b_X11_given_7
  exact lk_vret B hr hlk dX11_given_7
set_option maxRecDepth 20000 in
theorem k_X11_given_0 {p : Program} {l : Launch} {e : Env} {s : State} {m : MethodId} {args : Array Value} {below : List Frame} {meth : Method} {c : Code} {E : zE} {d : Nat} {Q : zQ} (hd1 : 1 ≤ d) (B : zB p s m args c E mX11_given.1.cls mX11_given.2.1 mX11_given.2.2.1) (hr : meth.sig.returnType = mX11_given.2.2.2) (hlk : meth.locks = false) : zLk (zG p l e (zrm d) s m args below meth c E mX11_given.2.2.1 0 0 (MQ below (zQc E Q) args s 0 0 (zaA E))) 0 (b_X11_given_0 d (zG p l e (zrm d) s m args below meth c E mX11_given.2.2.1 0 0 (MQ below (zQc E Q) args s 0 0 (zaA E))) Q) := by
  unfold b_X11_given_0
  exact lk_aln B dX11_given_0 rfl (lk_callv (M := mX11_isBlock) (T := TX11) (N := 41) B (zhR hd1 (by decide)) ⟨Nat.zero_le _, Nat.zero_le _⟩ cl_X11 (zw5 zw_948 zw_945 zw_947 zw_17 zw_58) (by decide +kernel) dX11_given_1 (lk_zne B dX11_given_4 (by decide) (k_X11_given_8 hd1 B hr hlk) (k_X11_given_7 hd1 B hr hlk)))
set_option maxRecDepth 20000 in
theorem k_X11_given_77 {p : Program} {l : Launch} {e : Env} {s : State} {m : MethodId} {args : Array Value} {below : List Frame} {meth : Method} {c : Code} {E : zE} {d : Nat} {Q : zQ} (hd1 : 1 ≤ d) (B : zB p s m args c E mX11_given.1.cls mX11_given.2.1 mX11_given.2.2.1) (hr : meth.sig.returnType = mX11_given.2.2.2) (hlk : meth.locks = false) : zLk (zG p l e (zrm d) s m args below meth c E mX11_given.2.2.1 0 0 (MQ below (zQc E Q) args s 0 0 (zaA E))) 77 (b_X11_given_77 d (zG p l e (zrm d) s m args below meth c E mX11_given.2.2.1 0 0 (MQ below (zQc E Q) args s 0 0 (zaA E))) Q) := by
  unfold b_X11_given_77
  exact lk_aln B dX11_given_77 rfl (lk_iln B dX11_given_78 rfl (lk_iln B dX11_given_79 rfl (lk_callv (M := mX11_enter) (T := TX11) (N := 41) B (zhR hd1 (by decide)) ⟨Nat.zero_le _, Nat.zero_le _⟩ cl_X11 (zw5 zw_971 zw_968 zw_970 zw_22 zw_58) (by decide +kernel) dX11_given_80 (lk_aln B dX11_given_83 rfl (lk_iln B dX11_given_84 rfl (lk_callv (M := mX11_findMissing) (T := TX11) (N := 41) B (zhR hd1 (by decide)) ⟨Nat.zero_le _, Nat.zero_le _⟩ cl_X11 (zw5 zw_979 zw_976 zw_978 zw_24 zw_58) (by decide +kernel) dX11_given_85 (lk_c B dX11_given_88 (lk_isn B dX11_given_89 rfl (by decide) (fun _ _ _ h => h)))))))))
set_option maxRecDepth 20000 in
theorem k_X11_given_59 {p : Program} {l : Launch} {e : Env} {s : State} {m : MethodId} {args : Array Value} {below : List Frame} {meth : Method} {c : Code} {E : zE} {d : Nat} {Q : zQ} (hd1 : 1 ≤ d) (B : zB p s m args c E mX11_given.1.cls mX11_given.2.1 mX11_given.2.2.1) (hr : meth.sig.returnType = mX11_given.2.2.2) (hlk : meth.locks = false) : zLk (zG p l e (zrm d) s m args below meth c E mX11_given.2.2.1 0 0 (MQ below (zQc E Q) args s 0 0 (zaA E))) 59 (b_X11_given_59 d (zG p l e (zrm d) s m args below meth c E mX11_given.2.2.1 0 0 (MQ below (zQc E Q) args s 0 0 (zaA E))) Q) := by
  unfold b_X11_given_59
  exact lk_aln B dX11_given_59 rfl (lk_gf (T := TX11) B cl_X11 (by decide) in_X11 zw_825 dX11_given_60 (lk_iln B dX11_given_63 rfl (lk_aln B dX11_given_64 rfl (lk_gf (T := TX11) B cl_X11 (by decide) in_X11 zw_823 dX11_given_65 (lk_iln B dX11_given_68 rfl (lk_iald B dX11_given_69 (lk_iast B dX11_given_70 (lk_inc B dX11_given_71 (by decide) (lk_goto B dX11_given_74 (by decide) (fun _ _ _ h => h))))))))))
set_option maxRecDepth 20000 in
theorem k_X11_given_51 {p : Program} {l : Launch} {e : Env} {s : State} {m : MethodId} {args : Array Value} {below : List Frame} {meth : Method} {c : Code} {E : zE} {d : Nat} {Q : zQ} (hd1 : 1 ≤ d) (B : zB p s m args c E mX11_given.1.cls mX11_given.2.1 mX11_given.2.2.1) (hr : meth.sig.returnType = mX11_given.2.2.2) (hlk : meth.locks = false) : zLk (zG p l e (zrm d) s m args below meth c E mX11_given.2.2.1 0 0 (MQ below (zQc E Q) args s 0 0 (zaA E))) 51 (b_X11_given_51 d (zG p l e (zrm d) s m args below meth c E mX11_given.2.2.1 0 0 (MQ below (zQc E Q) args s 0 0 (zaA E))) Q) := by
  unfold b_X11_given_51
  exact lk_iln B dX11_given_51 rfl (lk_aln B dX11_given_52 rfl (lk_gf (T := TX11) B cl_X11 (by decide) in_X11 zw_824 dX11_given_53 (lk_ige B dX11_given_56 (by decide) (k_X11_given_77 hd1 B hr hlk) (k_X11_given_59 hd1 B hr hlk))))
set_option maxRecDepth 20000 in
theorem k_X11_given_190 {p : Program} {l : Launch} {e : Env} {s : State} {m : MethodId} {args : Array Value} {below : List Frame} {meth : Method} {c : Code} {E : zE} {d : Nat} {Q : zQ} (hd1 : 1 ≤ d) (B : zB p s m args c E mX11_given.1.cls mX11_given.2.1 mX11_given.2.2.1) (hr : meth.sig.returnType = mX11_given.2.2.2) (hlk : meth.locks = false) : zLk (zG p l e (zrm d) s m args below meth c E mX11_given.2.2.1 0 0 (MQ below (zQc E Q) args s 0 0 (zaA E))) 190 (b_X11_given_190 d (zG p l e (zrm d) s m args below meth c E mX11_given.2.2.1 0 0 (MQ below (zQc E Q) args s 0 0 (zaA E))) Q) := by
  unfold b_X11_given_190
  exact lk_vret B hr hlk dX11_given_190
set_option maxRecDepth 20000 in
theorem k_X11_given_183 {p : Program} {l : Launch} {e : Env} {s : State} {m : MethodId} {args : Array Value} {below : List Frame} {meth : Method} {c : Code} {E : zE} {d : Nat} {Q : zQ} (hd1 : 1 ≤ d) (B : zB p s m args c E mX11_given.1.cls mX11_given.2.1 mX11_given.2.2.1) (hr : meth.sig.returnType = mX11_given.2.2.2) (hlk : meth.locks = false) : zLk (zG p l e (zrm d) s m args below meth c E mX11_given.2.2.1 0 0 (MQ below (zQc E Q) args s 0 0 (zaA E))) 183 (b_X11_given_183 d (zG p l e (zrm d) s m args below meth c E mX11_given.2.2.1 0 0 (MQ below (zQc E Q) args s 0 0 (zaA E))) Q) := by
  unfold b_X11_given_183
  exact lk_aln B dX11_given_183 rfl (lk_gf (T := TX11) B cl_X11 (by decide) in_X11 zw_796 dX11_given_184 (lk_iln B dX11_given_187 rfl (lk_c B dX11_given_188 (lk_iast B dX11_given_189 (k_X11_given_190 hd1 B hr hlk)))))
set_option maxRecDepth 20000 in
theorem k_X11_given_176 {p : Program} {l : Launch} {e : Env} {s : State} {m : MethodId} {args : Array Value} {below : List Frame} {meth : Method} {c : Code} {E : zE} {d : Nat} {Q : zQ} (hd1 : 1 ≤ d) (B : zB p s m args c E mX11_given.1.cls mX11_given.2.1 mX11_given.2.2.1) (hr : meth.sig.returnType = mX11_given.2.2.2) (hlk : meth.locks = false) : zLk (zG p l e (zrm d) s m args below meth c E mX11_given.2.2.1 0 0 (MQ below (zQc E Q) args s 0 0 (zaA E))) 176 (b_X11_given_176 d (zG p l e (zrm d) s m args below meth c E mX11_given.2.2.1 0 0 (MQ below (zQc E Q) args s 0 0 (zaA E))) Q) := by
  unfold b_X11_given_176
  exact lk_aln B dX11_given_176 rfl (lk_gf (T := TX11) B cl_X11 (by decide) in_X11 zw_822 dX11_given_177 (lk_zne B dX11_given_180 (by decide) (k_X11_given_190 hd1 B hr hlk) (k_X11_given_183 hd1 B hr hlk)))
set_option maxRecDepth 20000 in
theorem k_X11_given_98 {p : Program} {l : Launch} {e : Env} {s : State} {m : MethodId} {args : Array Value} {below : List Frame} {meth : Method} {c : Code} {E : zE} {d : Nat} {Q : zQ} (hd1 : 1 ≤ d) (B : zB p s m args c E mX11_given.1.cls mX11_given.2.1 mX11_given.2.2.1) (hr : meth.sig.returnType = mX11_given.2.2.2) (hlk : meth.locks = false) : zLk (zG p l e (zrm d) s m args below meth c E mX11_given.2.2.1 0 0 (MQ below (zQc E Q) args s 0 0 (zaA E))) 98 (b_X11_given_98 d (zG p l e (zrm d) s m args below meth c E mX11_given.2.2.1 0 0 (MQ below (zQc E Q) args s 0 0 (zaA E))) Q) := by
  unfold b_X11_given_98
  exact lk_c B dX11_given_98 (lk_is B dX11_given_99 (by decide) (lk_c B dX11_given_101 (lk_is B dX11_given_102 (by decide) (fun _ _ _ h => h))))
set_option maxRecDepth 20000 in
theorem k_X11_given_90 {p : Program} {l : Launch} {e : Env} {s : State} {m : MethodId} {args : Array Value} {below : List Frame} {meth : Method} {c : Code} {E : zE} {d : Nat} {Q : zQ} (hd1 : 1 ≤ d) (B : zB p s m args c E mX11_given.1.cls mX11_given.2.1 mX11_given.2.2.1) (hr : meth.sig.returnType = mX11_given.2.2.2) (hlk : meth.locks = false) : zLk (zG p l e (zrm d) s m args below meth c E mX11_given.2.2.1 0 0 (MQ below (zQc E Q) args s 0 0 (zaA E))) 90 (b_X11_given_90 d (zG p l e (zrm d) s m args below meth c E mX11_given.2.2.1 0 0 (MQ below (zQc E Q) args s 0 0 (zaA E))) Q) := by
  unfold b_X11_given_90
  exact lk_iln B dX11_given_90 rfl (lk_aln B dX11_given_91 rfl (lk_gf (T := TX11) B cl_X11 (by decide) in_X11 zw_822 dX11_given_92 (lk_ige B dX11_given_95 (by decide) (k_X11_given_176 hd1 B hr hlk) (k_X11_given_98 hd1 B hr hlk))))
set_option maxRecDepth 20000 in
theorem k_X11_given_170 {p : Program} {l : Launch} {e : Env} {s : State} {m : MethodId} {args : Array Value} {below : List Frame} {meth : Method} {c : Code} {E : zE} {d : Nat} {Q : zQ} (hd1 : 1 ≤ d) (B : zB p s m args c E mX11_given.1.cls mX11_given.2.1 mX11_given.2.2.1) (hr : meth.sig.returnType = mX11_given.2.2.2) (hlk : meth.locks = false) : zLk (zG p l e (zrm d) s m args below meth c E mX11_given.2.2.1 0 0 (MQ below (zQc E Q) args s 0 0 (zaA E))) 170 (b_X11_given_170 d (zG p l e (zrm d) s m args below meth c E mX11_given.2.2.1 0 0 (MQ below (zQc E Q) args s 0 0 (zaA E))) Q) := by
  unfold b_X11_given_170
  exact lk_inc B dX11_given_170 (by decide) (lk_goto B dX11_given_173 (by decide) (fun _ _ _ h => h))
set_option maxRecDepth 20000 in
theorem k_X11_given_152 {p : Program} {l : Launch} {e : Env} {s : State} {m : MethodId} {args : Array Value} {below : List Frame} {meth : Method} {c : Code} {E : zE} {d : Nat} {Q : zQ} (hd1 : 1 ≤ d) (B : zB p s m args c E mX11_given.1.cls mX11_given.2.1 mX11_given.2.2.1) (hr : meth.sig.returnType = mX11_given.2.2.2) (hlk : meth.locks = false) : zLk (zG p l e (zrm d) s m args below meth c E mX11_given.2.2.1 0 0 (MQ below (zQc E Q) args s 0 0 (zaA E))) 152 (b_X11_given_152 d (zG p l e (zrm d) s m args below meth c E mX11_given.2.2.1 0 0 (MQ below (zQc E Q) args s 0 0 (zaA E))) Q) := by
  unfold b_X11_given_152
  exact lk_aln B dX11_given_152 rfl (lk_c B dX11_given_153 (lk_iln B dX11_given_154 rfl (lk_aln B dX11_given_155 rfl (lk_gf (T := TX11) B cl_X11 (by decide) in_X11 zw_798 dX11_given_156 (lk_iln B dX11_given_159 rfl (lk_iald B dX11_given_160 (lk_aln B dX11_given_161 rfl (lk_gf (T := TX11) B cl_X11 (by decide) in_X11 zw_823 dX11_given_162 (lk_iln B dX11_given_165 rfl (lk_iald B dX11_given_166 (lk_callv (M := mX11_send) (T := TX11) (N := 41) B (zhR hd1 (by decide)) ⟨Nat.zero_le _, Nat.zero_le _⟩ cl_X11 (zw5 zw_1105 zw_1102 zw_1104 zw_43 zw_58) (by decide +kernel) dX11_given_167 (k_X11_given_170 hd1 B hr hlk))))))))))))
set_option maxRecDepth 20000 in
theorem k_X11_given_147 {p : Program} {l : Launch} {e : Env} {s : State} {m : MethodId} {args : Array Value} {below : List Frame} {meth : Method} {c : Code} {E : zE} {d : Nat} {Q : zQ} (hd1 : 1 ≤ d) (B : zB p s m args c E mX11_given.1.cls mX11_given.2.1 mX11_given.2.2.1) (hr : meth.sig.returnType = mX11_given.2.2.2) (hlk : meth.locks = false) : zLk (zG p l e (zrm d) s m args below meth c E mX11_given.2.2.1 0 0 (MQ below (zQc E Q) args s 0 0 (zaA E))) 147 (b_X11_given_147 d (zG p l e (zrm d) s m args below meth c E mX11_given.2.2.1 0 0 (MQ below (zQc E Q) args s 0 0 (zaA E))) Q) := by
  unfold b_X11_given_147
  exact lk_il B dX11_given_147 (lk_zne B dX11_given_149 (by decide) (k_X11_given_170 hd1 B hr hlk) (k_X11_given_152 hd1 B hr hlk))
set_option maxRecDepth 20000 in
theorem k_X11_given_139 {p : Program} {l : Launch} {e : Env} {s : State} {m : MethodId} {args : Array Value} {below : List Frame} {meth : Method} {c : Code} {E : zE} {d : Nat} {Q : zQ} (hd1 : 1 ≤ d) (B : zB p s m args c E mX11_given.1.cls mX11_given.2.1 mX11_given.2.2.1) (hr : meth.sig.returnType = mX11_given.2.2.2) (hlk : meth.locks = false) : zLk (zG p l e (zrm d) s m args below meth c E mX11_given.2.2.1 0 0 (MQ below (zQc E Q) args s 0 0 (zaA E))) 139 (b_X11_given_139 d (zG p l e (zrm d) s m args below meth c E mX11_given.2.2.1 0 0 (MQ below (zQc E Q) args s 0 0 (zaA E))) Q) := by
  unfold b_X11_given_139
  exact lk_is B dX11_given_139 (by decide) (lk_inc B dX11_given_141 (by decide) (lk_goto B dX11_given_144 (by decide) (fun _ _ _ h => h)))
set_option maxRecDepth 20000 in
theorem k_X11_given_134 {p : Program} {l : Launch} {e : Env} {s : State} {m : MethodId} {args : Array Value} {below : List Frame} {meth : Method} {c : Code} {E : zE} {d : Nat} {Q : zQ} (hd1 : 1 ≤ d) (B : zB p s m args c E mX11_given.1.cls mX11_given.2.1 mX11_given.2.2.1) (hr : meth.sig.returnType = mX11_given.2.2.2) (hlk : meth.locks = false) : zLk (zG p l e (zrm d) s m args below meth c E mX11_given.2.2.1 0 0 (MQ below (zQc E Q) args s 0 0 (zaA E))) 134 (b_X11_given_134 d (zG p l e (zrm d) s m args below meth c E mX11_given.2.2.1 0 0 (MQ below (zQc E Q) args s 0 0 (zaA E))) Q) := by
  unfold b_X11_given_134
  exact lk_c B dX11_given_134 (lk_goto B dX11_given_135 (by decide) (k_X11_given_139 hd1 B hr hlk))
set_option maxRecDepth 20000 in
theorem k_X11_given_138 {p : Program} {l : Launch} {e : Env} {s : State} {m : MethodId} {args : Array Value} {below : List Frame} {meth : Method} {c : Code} {E : zE} {d : Nat} {Q : zQ} (hd1 : 1 ≤ d) (B : zB p s m args c E mX11_given.1.cls mX11_given.2.1 mX11_given.2.2.1) (hr : meth.sig.returnType = mX11_given.2.2.2) (hlk : meth.locks = false) : zLk (zG p l e (zrm d) s m args below meth c E mX11_given.2.2.1 0 0 (MQ below (zQc E Q) args s 0 0 (zaA E))) 138 (b_X11_given_138 d (zG p l e (zrm d) s m args below meth c E mX11_given.2.2.1 0 0 (MQ below (zQc E Q) args s 0 0 (zaA E))) Q) := by
  unfold b_X11_given_138
  exact lk_c B dX11_given_138 (k_X11_given_139 hd1 B hr hlk)
set_option maxRecDepth 20000 in
theorem k_X11_given_118 {p : Program} {l : Launch} {e : Env} {s : State} {m : MethodId} {args : Array Value} {below : List Frame} {meth : Method} {c : Code} {E : zE} {d : Nat} {Q : zQ} (hd1 : 1 ≤ d) (B : zB p s m args c E mX11_given.1.cls mX11_given.2.1 mX11_given.2.2.1) (hr : meth.sig.returnType = mX11_given.2.2.2) (hlk : meth.locks = false) : zLk (zG p l e (zrm d) s m args below meth c E mX11_given.2.2.1 0 0 (MQ below (zQc E Q) args s 0 0 (zaA E))) 118 (b_X11_given_118 d (zG p l e (zrm d) s m args below meth c E mX11_given.2.2.1 0 0 (MQ below (zQc E Q) args s 0 0 (zaA E))) Q) := by
  unfold b_X11_given_118
  exact lk_aln B dX11_given_118 rfl (lk_gf (T := TX11) B cl_X11 (by decide) in_X11 zw_825 dX11_given_119 (lk_il B dX11_given_122 (lk_iald B dX11_given_124 (lk_aln B dX11_given_125 rfl (lk_gf (T := TX11) B cl_X11 (by decide) in_X11 zw_823 dX11_given_126 (lk_iln B dX11_given_129 rfl (lk_iald B dX11_given_130 (lk_ine B dX11_given_131 (by decide) (k_X11_given_138 hd1 B hr hlk) (k_X11_given_134 hd1 B hr hlk)))))))))
set_option maxRecDepth 20000 in
theorem k_X11_given_113 {p : Program} {l : Launch} {e : Env} {s : State} {m : MethodId} {args : Array Value} {below : List Frame} {meth : Method} {c : Code} {E : zE} {d : Nat} {Q : zQ} (hd1 : 1 ≤ d) (B : zB p s m args c E mX11_given.1.cls mX11_given.2.1 mX11_given.2.2.1) (hr : meth.sig.returnType = mX11_given.2.2.2) (hlk : meth.locks = false) : zLk (zG p l e (zrm d) s m args below meth c E mX11_given.2.2.1 0 0 (MQ below (zQc E Q) args s 0 0 (zaA E))) 113 (b_X11_given_113 d (zG p l e (zrm d) s m args below meth c E mX11_given.2.2.1 0 0 (MQ below (zQc E Q) args s 0 0 (zaA E))) Q) := by
  unfold b_X11_given_113
  exact lk_il B dX11_given_113 (lk_zne B dX11_given_115 (by decide) (k_X11_given_134 hd1 B hr hlk) (k_X11_given_118 hd1 B hr hlk))
set_option maxRecDepth 20000 in
theorem k_X11_given_104 {p : Program} {l : Launch} {e : Env} {s : State} {m : MethodId} {args : Array Value} {below : List Frame} {meth : Method} {c : Code} {E : zE} {d : Nat} {Q : zQ} (hd1 : 1 ≤ d) (B : zB p s m args c E mX11_given.1.cls mX11_given.2.1 mX11_given.2.2.1) (hr : meth.sig.returnType = mX11_given.2.2.2) (hlk : meth.locks = false) : zLk (zG p l e (zrm d) s m args below meth c E mX11_given.2.2.1 0 0 (MQ below (zQc E Q) args s 0 0 (zaA E))) 104 (b_X11_given_104 d (zG p l e (zrm d) s m args below meth c E mX11_given.2.2.1 0 0 (MQ below (zQc E Q) args s 0 0 (zaA E))) Q) := by
  unfold b_X11_given_104
  exact lk_il B dX11_given_104 (lk_aln B dX11_given_106 rfl (lk_gf (T := TX11) B cl_X11 (by decide) in_X11 zw_824 dX11_given_107 (lk_ige B dX11_given_110 (by decide) (k_X11_given_147 hd1 B hr hlk) (k_X11_given_113 hd1 B hr hlk))))
def S_X11_given (d : Nat) (G : Nat → zK) (Q : zQ) : Prop := zLk G 0 (b_X11_given_0 d G Q) ∧ zLk G 51 (b_X11_given_51 d G Q) ∧ zLk G 90 (b_X11_given_90 d G Q) ∧ zLk G 104 (b_X11_given_104 d G Q)
theorem s_X11_given_0 {d : Nat} {G : Nat → zK} {Q : zQ} (h : S_X11_given d G Q) {ls st : List zV} {μ : zM} (k : b_X11_given_0 d G Q ls st μ) : G 0 ls st μ := h.1 ls st μ k
theorem s_X11_given_51 {d : Nat} {G : Nat → zK} {Q : zQ} (h : S_X11_given d G Q) {ls st : List zV} {μ : zM} (k : b_X11_given_51 d G Q ls st μ) : G 51 ls st μ := h.2.1 ls st μ k
theorem s_X11_given_90 {d : Nat} {G : Nat → zK} {Q : zQ} (h : S_X11_given d G Q) {ls st : List zV} {μ : zM} (k : b_X11_given_90 d G Q ls st μ) : G 90 ls st μ := h.2.2.1 ls st μ k
theorem s_X11_given_104 {d : Nat} {G : Nat → zK} {Q : zQ} (h : S_X11_given d G Q) {ls st : List zV} {μ : zM} (k : b_X11_given_104 d G Q ls st μ) : G 104 ls st μ := h.2.2.2 ls st μ k
theorem of_X11_given {d : Nat} {a0 a1 : zV} {μ : zM} {Q : zQ} (hd1 : 1 ≤ d) (h : ∀ G : Nat → zK, S_X11_given d G Q → G 0 [a0, a1, .inr none, .inr none, .inr none, .inr none] [] μ) : zCt d mX11_given [a0, a1] μ Q := zCt.mk (by decide) (Nat.le_of_ble_eq_true rfl) (fun p l e s m args below meth c E B hr hlk => h _ ⟨k_X11_given_0 hd1 B hr hlk, k_X11_given_51 hd1 B hr hlk, k_X11_given_90 hd1 B hr hlk, k_X11_given_104 hd1 B hr hlk⟩)
theorem dX11_harm_0 : decode cX11_harm 0 = .ok (.iload_n 1, 1) := by decide +kernel
theorem dX11_harm_1 : decode cX11_harm 1 = .ok (.ifCond .lt 11, 3) := by decide +kernel
theorem dX11_harm_4 : decode cX11_harm 4 = .ok (.iload_n 1, 1) := by decide +kernel
theorem dX11_harm_5 : decode cX11_harm 5 = .ok (.aload_n 0, 1) := by decide +kernel
theorem dX11_harm_6 : decode cX11_harm 6 = .ok (.getfield 236, 3) := by decide +kernel
theorem dX11_harm_9 : decode cX11_harm 9 = .ok (.if_icmp .lt 5, 3) := by decide +kernel
theorem dX11_harm_12 : decode cX11_harm 12 = .ok (.iconst 0, 1) := by decide +kernel
theorem dX11_harm_13 : decode cX11_harm 13 = .ok (.ireturn, 1) := by decide +kernel
theorem dX11_harm_14 : decode cX11_harm 14 = .ok (.iload_n 3, 1) := by decide +kernel
theorem dX11_harm_15 : decode cX11_harm 15 = .ok (.ifCond .ne 10, 3) := by decide +kernel
theorem dX11_harm_18 : decode cX11_harm 18 = .ok (.aload_n 0, 1) := by decide +kernel
theorem dX11_harm_19 : decode cX11_harm 19 = .ok (.iload_n 1, 1) := by decide +kernel
theorem dX11_harm_20 : decode cX11_harm 20 = .ok (.invokevirtual 246, 3) := by decide +kernel
theorem dX11_harm_23 : decode cX11_harm 23 = .ok (.iconst 1, 1) := by decide +kernel
theorem dX11_harm_24 : decode cX11_harm 24 = .ok (.ireturn, 1) := by decide +kernel
theorem dX11_harm_25 : decode cX11_harm 25 = .ok (.aload_n 0, 1) := by decide +kernel
theorem dX11_harm_26 : decode cX11_harm 26 = .ok (.getfield 44, 3) := by decide +kernel
theorem dX11_harm_29 : decode cX11_harm 29 = .ok (.iload_n 1, 1) := by decide +kernel
theorem dX11_harm_30 : decode cX11_harm 30 = .ok (.iaload, 1) := by decide +kernel
theorem dX11_harm_31 : decode cX11_harm 31 = .ok (.iconst 1, 1) := by decide +kernel
theorem dX11_harm_32 : decode cX11_harm 32 = .ok (.if_icmp .ne 17, 3) := by decide +kernel
theorem dX11_harm_35 : decode cX11_harm 35 = .ok (.iload_n 2, 1) := by decide +kernel
theorem dX11_harm_36 : decode cX11_harm 36 = .ok (.ifCond .lt 13, 3) := by decide +kernel
theorem dX11_harm_39 : decode cX11_harm 39 = .ok (.iload_n 2, 1) := by decide +kernel
theorem dX11_harm_40 : decode cX11_harm 40 = .ok (.aload_n 0, 1) := by decide +kernel
theorem dX11_harm_41 : decode cX11_harm 41 = .ok (.getfield 56, 3) := by decide +kernel
theorem dX11_harm_44 : decode cX11_harm 44 = .ok (.iload_n 1, 1) := by decide +kernel
theorem dX11_harm_45 : decode cX11_harm 45 = .ok (.iaload, 1) := by decide +kernel
theorem dX11_harm_46 : decode cX11_harm 46 = .ok (.if_icmp .lt 5, 3) := by decide +kernel
theorem dX11_harm_49 : decode cX11_harm 49 = .ok (.iconst 0, 1) := by decide +kernel
theorem dX11_harm_50 : decode cX11_harm 50 = .ok (.ireturn, 1) := by decide +kernel
theorem dX11_harm_51 : decode cX11_harm 51 = .ok (.aload_n 0, 1) := by decide +kernel
theorem dX11_harm_52 : decode cX11_harm 52 = .ok (.getfield 59, 3) := by decide +kernel
theorem dX11_harm_55 : decode cX11_harm 55 = .ok (.bipush 18, 2) := by decide +kernel
theorem dX11_harm_57 : decode cX11_harm 57 = .ok (.iload_n 1, 1) := by decide +kernel
theorem dX11_harm_58 : decode cX11_harm 58 = .ok (.imul, 1) := by decide +kernel
theorem dX11_harm_59 : decode cX11_harm 59 = .ok (.iload_n 2, 1) := by decide +kernel
theorem dX11_harm_60 : decode cX11_harm 60 = .ok (.iadd, 1) := by decide +kernel
theorem dX11_harm_61 : decode cX11_harm 61 = .ok (.dup2, 1) := by decide +kernel
theorem dX11_harm_62 : decode cX11_harm 62 = .ok (.iaload, 1) := by decide +kernel
theorem dX11_harm_63 : decode cX11_harm 63 = .ok (.iload_n 3, 1) := by decide +kernel
theorem dX11_harm_64 : decode cX11_harm 64 = .ok (.sipush 255, 3) := by decide +kernel
theorem dX11_harm_67 : decode cX11_harm 67 = .ok (.iand, 1) := by decide +kernel
theorem dX11_harm_68 : decode cX11_harm 68 = .ok (.ixor, 1) := by decide +kernel
theorem dX11_harm_69 : decode cX11_harm 69 = .ok (.iastore, 1) := by decide +kernel
theorem dX11_harm_70 : decode cX11_harm 70 = .ok (.iconst 1, 1) := by decide +kernel
theorem dX11_harm_71 : decode cX11_harm 71 = .ok (.ireturn, 1) := by decide +kernel
def b_X11_harm_12 (d : Nat) (G : Nat → zK) (Q : zQ) : zK := o_c 0 <| t_zret Q
def b_X11_harm_49 (d : Nat) (G : Nat → zK) (Q : zQ) : zK := o_c 0 <| t_zret Q
def b_X11_harm_51 (d : Nat) (G : Nat → zK) (Q : zQ) : zK := o_al 0 <| o_gf 9 17 <| o_c 18 <| o_il 1 <| o_mul <| o_il 2 <| o_add <| o_dup2 <| o_iald <| o_il 3 <| o_c 255 <| o_and <| o_xor <| o_iast <| o_c 1 <| t_zret Q
def b_X11_harm_39 (d : Nat) (G : Nat → zK) (Q : zQ) : zK := o_il 2 <| o_al 0 <| o_gf 9 16 <| o_il 1 <| o_iald <| t_ilt (b_X11_harm_51 d G Q) (b_X11_harm_49 d G Q)
def b_X11_harm_35 (d : Nat) (G : Nat → zK) (Q : zQ) : zK := o_il 2 <| t_zlt (b_X11_harm_49 d G Q) (b_X11_harm_39 d G Q)
def b_X11_harm_25 (d : Nat) (G : Nat → zK) (Q : zQ) : zK := o_al 0 <| o_gf 9 12 <| o_il 1 <| o_iald <| o_c 1 <| t_ieq (b_X11_harm_35 d G Q) (b_X11_harm_49 d G Q)
def b_X11_harm_18 (d : Nat) (G : Nat → zK) (Q : zQ) : zK := o_al 0 <| o_il 1 <| o_callv (zCt (d - 1) mX11_takeOut) 9 2 <| o_c 1 <| t_zret Q
def b_X11_harm_14 (d : Nat) (G : Nat → zK) (Q : zQ) : zK := o_il 3 <| t_zeq (b_X11_harm_18 d G Q) (b_X11_harm_25 d G Q)
def b_X11_harm_4 (d : Nat) (G : Nat → zK) (Q : zQ) : zK := o_il 1 <| o_al 0 <| o_gf 9 11 <| t_ilt (b_X11_harm_14 d G Q) (b_X11_harm_12 d G Q)
def b_X11_harm_0 (d : Nat) (G : Nat → zK) (Q : zQ) : zK := o_il 1 <| t_zlt (b_X11_harm_12 d G Q) (b_X11_harm_4 d G Q)
set_option maxRecDepth 20000 in
theorem k_X11_harm_12 {p : Program} {l : Launch} {e : Env} {s : State} {m : MethodId} {args : Array Value} {below : List Frame} {meth : Method} {c : Code} {E : zE} {d : Nat} {Q : zQ} (hd1 : 1 ≤ d) (B : zB p s m args c E mX11_harm.1.cls mX11_harm.2.1 mX11_harm.2.2.1) (hr : meth.sig.returnType = mX11_harm.2.2.2) (hlk : meth.locks = false) : zLk (zG p l e (zrm d) s m args below meth c E mX11_harm.2.2.1 0 0 (MQ below (zQc E Q) args s 0 0 (zaA E))) 12 (b_X11_harm_12 d (zG p l e (zrm d) s m args below meth c E mX11_harm.2.2.1 0 0 (MQ below (zQc E Q) args s 0 0 (zaA E))) Q) := by
  unfold b_X11_harm_12
  exact lk_c B dX11_harm_12 (lk_zret B hr hlk dX11_harm_13)
set_option maxRecDepth 20000 in
theorem k_X11_harm_49 {p : Program} {l : Launch} {e : Env} {s : State} {m : MethodId} {args : Array Value} {below : List Frame} {meth : Method} {c : Code} {E : zE} {d : Nat} {Q : zQ} (hd1 : 1 ≤ d) (B : zB p s m args c E mX11_harm.1.cls mX11_harm.2.1 mX11_harm.2.2.1) (hr : meth.sig.returnType = mX11_harm.2.2.2) (hlk : meth.locks = false) : zLk (zG p l e (zrm d) s m args below meth c E mX11_harm.2.2.1 0 0 (MQ below (zQc E Q) args s 0 0 (zaA E))) 49 (b_X11_harm_49 d (zG p l e (zrm d) s m args below meth c E mX11_harm.2.2.1 0 0 (MQ below (zQc E Q) args s 0 0 (zaA E))) Q) := by
  unfold b_X11_harm_49
  exact lk_c B dX11_harm_49 (lk_zret B hr hlk dX11_harm_50)
set_option maxRecDepth 20000 in
theorem k_X11_harm_51 {p : Program} {l : Launch} {e : Env} {s : State} {m : MethodId} {args : Array Value} {below : List Frame} {meth : Method} {c : Code} {E : zE} {d : Nat} {Q : zQ} (hd1 : 1 ≤ d) (B : zB p s m args c E mX11_harm.1.cls mX11_harm.2.1 mX11_harm.2.2.1) (hr : meth.sig.returnType = mX11_harm.2.2.2) (hlk : meth.locks = false) : zLk (zG p l e (zrm d) s m args below meth c E mX11_harm.2.2.1 0 0 (MQ below (zQc E Q) args s 0 0 (zaA E))) 51 (b_X11_harm_51 d (zG p l e (zrm d) s m args below meth c E mX11_harm.2.2.1 0 0 (MQ below (zQc E Q) args s 0 0 (zaA E))) Q) := by
  unfold b_X11_harm_51
  exact lk_aln B dX11_harm_51 rfl (lk_gf (T := TX11) B cl_X11 (by decide) in_X11 zw_805 dX11_harm_52 (lk_b B dX11_harm_55 rfl (lk_iln B dX11_harm_57 rfl (lk_mul B dX11_harm_58 (lk_iln B dX11_harm_59 rfl (lk_add B dX11_harm_60 (lk_dup2 B dX11_harm_61 (lk_iald B dX11_harm_62 (lk_iln B dX11_harm_63 rfl (lk_s B dX11_harm_64 rfl (lk_and B dX11_harm_67 (lk_xor B dX11_harm_68 (lk_iast B dX11_harm_69 (lk_c B dX11_harm_70 (lk_zret B hr hlk dX11_harm_71)))))))))))))))
set_option maxRecDepth 20000 in
theorem k_X11_harm_39 {p : Program} {l : Launch} {e : Env} {s : State} {m : MethodId} {args : Array Value} {below : List Frame} {meth : Method} {c : Code} {E : zE} {d : Nat} {Q : zQ} (hd1 : 1 ≤ d) (B : zB p s m args c E mX11_harm.1.cls mX11_harm.2.1 mX11_harm.2.2.1) (hr : meth.sig.returnType = mX11_harm.2.2.2) (hlk : meth.locks = false) : zLk (zG p l e (zrm d) s m args below meth c E mX11_harm.2.2.1 0 0 (MQ below (zQc E Q) args s 0 0 (zaA E))) 39 (b_X11_harm_39 d (zG p l e (zrm d) s m args below meth c E mX11_harm.2.2.1 0 0 (MQ below (zQc E Q) args s 0 0 (zaA E))) Q) := by
  unfold b_X11_harm_39
  exact lk_iln B dX11_harm_39 rfl (lk_aln B dX11_harm_40 rfl (lk_gf (T := TX11) B cl_X11 (by decide) in_X11 zw_804 dX11_harm_41 (lk_iln B dX11_harm_44 rfl (lk_iald B dX11_harm_45 (lk_ilt B dX11_harm_46 (by decide) (k_X11_harm_51 hd1 B hr hlk) (k_X11_harm_49 hd1 B hr hlk))))))
set_option maxRecDepth 20000 in
theorem k_X11_harm_35 {p : Program} {l : Launch} {e : Env} {s : State} {m : MethodId} {args : Array Value} {below : List Frame} {meth : Method} {c : Code} {E : zE} {d : Nat} {Q : zQ} (hd1 : 1 ≤ d) (B : zB p s m args c E mX11_harm.1.cls mX11_harm.2.1 mX11_harm.2.2.1) (hr : meth.sig.returnType = mX11_harm.2.2.2) (hlk : meth.locks = false) : zLk (zG p l e (zrm d) s m args below meth c E mX11_harm.2.2.1 0 0 (MQ below (zQc E Q) args s 0 0 (zaA E))) 35 (b_X11_harm_35 d (zG p l e (zrm d) s m args below meth c E mX11_harm.2.2.1 0 0 (MQ below (zQc E Q) args s 0 0 (zaA E))) Q) := by
  unfold b_X11_harm_35
  exact lk_iln B dX11_harm_35 rfl (lk_zlt B dX11_harm_36 (by decide) (k_X11_harm_49 hd1 B hr hlk) (k_X11_harm_39 hd1 B hr hlk))
set_option maxRecDepth 20000 in
theorem k_X11_harm_25 {p : Program} {l : Launch} {e : Env} {s : State} {m : MethodId} {args : Array Value} {below : List Frame} {meth : Method} {c : Code} {E : zE} {d : Nat} {Q : zQ} (hd1 : 1 ≤ d) (B : zB p s m args c E mX11_harm.1.cls mX11_harm.2.1 mX11_harm.2.2.1) (hr : meth.sig.returnType = mX11_harm.2.2.2) (hlk : meth.locks = false) : zLk (zG p l e (zrm d) s m args below meth c E mX11_harm.2.2.1 0 0 (MQ below (zQc E Q) args s 0 0 (zaA E))) 25 (b_X11_harm_25 d (zG p l e (zrm d) s m args below meth c E mX11_harm.2.2.1 0 0 (MQ below (zQc E Q) args s 0 0 (zaA E))) Q) := by
  unfold b_X11_harm_25
  exact lk_aln B dX11_harm_25 rfl (lk_gf (T := TX11) B cl_X11 (by decide) in_X11 zw_800 dX11_harm_26 (lk_iln B dX11_harm_29 rfl (lk_iald B dX11_harm_30 (lk_c B dX11_harm_31 (lk_ine B dX11_harm_32 (by decide) (k_X11_harm_49 hd1 B hr hlk) (k_X11_harm_35 hd1 B hr hlk))))))
set_option maxRecDepth 20000 in
theorem k_X11_harm_18 {p : Program} {l : Launch} {e : Env} {s : State} {m : MethodId} {args : Array Value} {below : List Frame} {meth : Method} {c : Code} {E : zE} {d : Nat} {Q : zQ} (hd1 : 1 ≤ d) (B : zB p s m args c E mX11_harm.1.cls mX11_harm.2.1 mX11_harm.2.2.1) (hr : meth.sig.returnType = mX11_harm.2.2.2) (hlk : meth.locks = false) : zLk (zG p l e (zrm d) s m args below meth c E mX11_harm.2.2.1 0 0 (MQ below (zQc E Q) args s 0 0 (zaA E))) 18 (b_X11_harm_18 d (zG p l e (zrm d) s m args below meth c E mX11_harm.2.2.1 0 0 (MQ below (zQc E Q) args s 0 0 (zaA E))) Q) := by
  unfold b_X11_harm_18
  exact lk_aln B dX11_harm_18 rfl (lk_iln B dX11_harm_19 rfl (lk_callv (M := mX11_takeOut) (T := TX11) (N := 41) B (zhR hd1 (by decide)) ⟨Nat.zero_le _, Nat.zero_le _⟩ cl_X11 (zw5 zw_1117 zw_1114 zw_1116 zw_44 zw_58) (by decide +kernel) dX11_harm_20 (lk_c B dX11_harm_23 (lk_zret B hr hlk dX11_harm_24))))
set_option maxRecDepth 20000 in
theorem k_X11_harm_14 {p : Program} {l : Launch} {e : Env} {s : State} {m : MethodId} {args : Array Value} {below : List Frame} {meth : Method} {c : Code} {E : zE} {d : Nat} {Q : zQ} (hd1 : 1 ≤ d) (B : zB p s m args c E mX11_harm.1.cls mX11_harm.2.1 mX11_harm.2.2.1) (hr : meth.sig.returnType = mX11_harm.2.2.2) (hlk : meth.locks = false) : zLk (zG p l e (zrm d) s m args below meth c E mX11_harm.2.2.1 0 0 (MQ below (zQc E Q) args s 0 0 (zaA E))) 14 (b_X11_harm_14 d (zG p l e (zrm d) s m args below meth c E mX11_harm.2.2.1 0 0 (MQ below (zQc E Q) args s 0 0 (zaA E))) Q) := by
  unfold b_X11_harm_14
  exact lk_iln B dX11_harm_14 rfl (lk_zne B dX11_harm_15 (by decide) (k_X11_harm_25 hd1 B hr hlk) (k_X11_harm_18 hd1 B hr hlk))
set_option maxRecDepth 20000 in
theorem k_X11_harm_4 {p : Program} {l : Launch} {e : Env} {s : State} {m : MethodId} {args : Array Value} {below : List Frame} {meth : Method} {c : Code} {E : zE} {d : Nat} {Q : zQ} (hd1 : 1 ≤ d) (B : zB p s m args c E mX11_harm.1.cls mX11_harm.2.1 mX11_harm.2.2.1) (hr : meth.sig.returnType = mX11_harm.2.2.2) (hlk : meth.locks = false) : zLk (zG p l e (zrm d) s m args below meth c E mX11_harm.2.2.1 0 0 (MQ below (zQc E Q) args s 0 0 (zaA E))) 4 (b_X11_harm_4 d (zG p l e (zrm d) s m args below meth c E mX11_harm.2.2.1 0 0 (MQ below (zQc E Q) args s 0 0 (zaA E))) Q) := by
  unfold b_X11_harm_4
  exact lk_iln B dX11_harm_4 rfl (lk_aln B dX11_harm_5 rfl (lk_gf (T := TX11) B cl_X11 (by decide) in_X11 zw_799 dX11_harm_6 (lk_ilt B dX11_harm_9 (by decide) (k_X11_harm_14 hd1 B hr hlk) (k_X11_harm_12 hd1 B hr hlk))))
set_option maxRecDepth 20000 in
theorem k_X11_harm_0 {p : Program} {l : Launch} {e : Env} {s : State} {m : MethodId} {args : Array Value} {below : List Frame} {meth : Method} {c : Code} {E : zE} {d : Nat} {Q : zQ} (hd1 : 1 ≤ d) (B : zB p s m args c E mX11_harm.1.cls mX11_harm.2.1 mX11_harm.2.2.1) (hr : meth.sig.returnType = mX11_harm.2.2.2) (hlk : meth.locks = false) : zLk (zG p l e (zrm d) s m args below meth c E mX11_harm.2.2.1 0 0 (MQ below (zQc E Q) args s 0 0 (zaA E))) 0 (b_X11_harm_0 d (zG p l e (zrm d) s m args below meth c E mX11_harm.2.2.1 0 0 (MQ below (zQc E Q) args s 0 0 (zaA E))) Q) := by
  unfold b_X11_harm_0
  exact lk_iln B dX11_harm_0 rfl (lk_zlt B dX11_harm_1 (by decide) (k_X11_harm_12 hd1 B hr hlk) (k_X11_harm_4 hd1 B hr hlk))
def S_X11_harm (d : Nat) (G : Nat → zK) (Q : zQ) : Prop := zLk G 0 (b_X11_harm_0 d G Q)
theorem s_X11_harm_0 {d : Nat} {G : Nat → zK} {Q : zQ} (h : S_X11_harm d G Q) {ls st : List zV} {μ : zM} (k : b_X11_harm_0 d G Q ls st μ) : G 0 ls st μ := h ls st μ k
theorem of_X11_harm {d : Nat} {a0 a1 a2 a3 : zV} {μ : zM} {Q : zQ} (hd1 : 1 ≤ d) (h : ∀ G : Nat → zK, S_X11_harm d G Q → G 0 [a0, a1, a2, a3] [] μ) : zCt d mX11_harm [a0, a1, a2, a3] μ Q := zCt.mk (by decide) (Nat.le_of_ble_eq_true rfl) (fun p l e s m args below meth c E B hr hlk => h _ (k_X11_harm_0 hd1 B hr hlk))
theorem dX11_message_0 : decode cX11_message 0 = .ok (.iload_n 1, 1) := by decide +kernel
theorem dX11_message_1 : decode cX11_message 1 = .ok (.ifCond .lt 20, 3) := by decide +kernel
theorem dX11_message_4 : decode cX11_message 4 = .ok (.iload_n 1, 1) := by decide +kernel
theorem dX11_message_5 : decode cX11_message 5 = .ok (.aload_n 0, 1) := by decide +kernel
theorem dX11_message_6 : decode cX11_message 6 = .ok (.getfield 236, 3) := by decide +kernel
theorem dX11_message_9 : decode cX11_message 9 = .ok (.if_icmp .ge 12, 3) := by decide +kernel
theorem dX11_message_12 : decode cX11_message 12 = .ok (.iload_n 2, 1) := by decide +kernel
theorem dX11_message_13 : decode cX11_message 13 = .ok (.ifCond .lt 8, 3) := by decide +kernel
theorem dX11_message_16 : decode cX11_message 16 = .ok (.iload_n 2, 1) := by decide +kernel
theorem dX11_message_17 : decode cX11_message 17 = .ok (.iconst 3, 1) := by decide +kernel
theorem dX11_message_18 : decode cX11_message 18 = .ok (.if_icmp .le 5, 3) := by decide +kernel
theorem dX11_message_21 : decode cX11_message 21 = .ok (.iconst (-1), 1) := by decide +kernel
theorem dX11_message_22 : decode cX11_message 22 = .ok (.ireturn, 1) := by decide +kernel
theorem dX11_message_23 : decode cX11_message 23 = .ok (.iload_n 2, 1) := by decide +kernel
theorem dX11_message_24 : decode cX11_message 24 = .ok (.ifCond .ne 10, 3) := by decide +kernel
theorem dX11_message_27 : decode cX11_message 27 = .ok (.aload_n 0, 1) := by decide +kernel
theorem dX11_message_28 : decode cX11_message 28 = .ok (.getfield 44, 3) := by decide +kernel
theorem dX11_message_31 : decode cX11_message 31 = .ok (.iload_n 1, 1) := by decide +kernel
theorem dX11_message_32 : decode cX11_message 32 = .ok (.iaload, 1) := by decide +kernel
theorem dX11_message_33 : decode cX11_message 33 = .ok (.ireturn, 1) := by decide +kernel
theorem dX11_message_34 : decode cX11_message 34 = .ok (.iload_n 2, 1) := by decide +kernel
theorem dX11_message_35 : decode cX11_message 35 = .ok (.iconst 3, 1) := by decide +kernel
theorem dX11_message_36 : decode cX11_message 36 = .ok (.if_icmp .ge 24, 3) := by decide +kernel
theorem dX11_message_39 : decode cX11_message 39 = .ok (.iload_n 2, 1) := by decide +kernel
theorem dX11_message_40 : decode cX11_message 40 = .ok (.iconst 1, 1) := by decide +kernel
theorem dX11_message_41 : decode cX11_message 41 = .ok (.if_icmp .ne 12, 3) := by decide +kernel
theorem dX11_message_44 : decode cX11_message 44 = .ok (.aload_n 0, 1) := by decide +kernel
theorem dX11_message_45 : decode cX11_message 45 = .ok (.getfield 47, 3) := by decide +kernel
theorem dX11_message_48 : decode cX11_message 48 = .ok (.iload_n 1, 1) := by decide +kernel
theorem dX11_message_49 : decode cX11_message 49 = .ok (.iaload, 1) := by decide +kernel
theorem dX11_message_50 : decode cX11_message 50 = .ok (.goto 9, 3) := by decide +kernel
theorem dX11_message_53 : decode cX11_message 53 = .ok (.aload_n 0, 1) := by decide +kernel
theorem dX11_message_54 : decode cX11_message 54 = .ok (.getfield 50, 3) := by decide +kernel
theorem dX11_message_57 : decode cX11_message 57 = .ok (.iload_n 1, 1) := by decide +kernel
theorem dX11_message_58 : decode cX11_message 58 = .ok (.iaload, 1) := by decide +kernel
theorem dX11_message_59 : decode cX11_message 59 = .ok (.ireturn, 1) := by decide +kernel
theorem dX11_message_60 : decode cX11_message 60 = .ok (.aload_n 0, 1) := by decide +kernel
theorem dX11_message_61 : decode cX11_message 61 = .ok (.getfield 44, 3) := by decide +kernel
theorem dX11_message_64 : decode cX11_message 64 = .ok (.iload_n 1, 1) := by decide +kernel
theorem dX11_message_65 : decode cX11_message 65 = .ok (.iaload, 1) := by decide +kernel
theorem dX11_message_66 : decode cX11_message 66 = .ok (.iconst 1, 1) := by decide +kernel
theorem dX11_message_67 : decode cX11_message 67 = .ok (.if_icmp .eq 10, 3) := by decide +kernel
theorem dX11_message_70 : decode cX11_message 70 = .ok (.aload_n 0, 1) := by decide +kernel
theorem dX11_message_71 : decode cX11_message 71 = .ok (.getfield 53, 3) := by decide +kernel
theorem dX11_message_74 : decode cX11_message 74 = .ok (.iload_n 1, 1) := by decide +kernel
theorem dX11_message_75 : decode cX11_message 75 = .ok (.iaload, 1) := by decide +kernel
theorem dX11_message_76 : decode cX11_message 76 = .ok (.ireturn, 1) := by decide +kernel
theorem dX11_message_77 : decode cX11_message 77 = .ok (.ldc 111, 2) := by decide +kernel
theorem dX11_message_79 : decode cX11_message 79 = .ok (.istore_n 3, 1) := by decide +kernel
theorem dX11_message_80 : decode cX11_message 80 = .ok (.iconst 0, 1) := by decide +kernel
theorem dX11_message_81 : decode cX11_message 81 = .ok (.istore 4, 2) := by decide +kernel
theorem dX11_message_83 : decode cX11_message 83 = .ok (.iload 4, 2) := by decide +kernel
theorem dX11_message_85 : decode cX11_message 85 = .ok (.aload_n 0, 1) := by decide +kernel
theorem dX11_message_86 : decode cX11_message 86 = .ok (.getfield 56, 3) := by decide +kernel
theorem dX11_message_89 : decode cX11_message 89 = .ok (.iload_n 1, 1) := by decide +kernel
theorem dX11_message_90 : decode cX11_message 90 = .ok (.iaload, 1) := by decide +kernel
theorem dX11_message_91 : decode cX11_message 91 = .ok (.if_icmp .ge 26, 3) := by decide +kernel
theorem dX11_message_94 : decode cX11_message 94 = .ok (.iload_n 3, 1) := by decide +kernel
theorem dX11_message_95 : decode cX11_message 95 = .ok (.aload_n 0, 1) := by decide +kernel
theorem dX11_message_96 : decode cX11_message 96 = .ok (.getfield 59, 3) := by decide +kernel
theorem dX11_message_99 : decode cX11_message 99 = .ok (.bipush 18, 2) := by decide +kernel
theorem dX11_message_101 : decode cX11_message 101 = .ok (.iload_n 1, 1) := by decide +kernel
theorem dX11_message_102 : decode cX11_message 102 = .ok (.imul, 1) := by decide +kernel
theorem dX11_message_103 : decode cX11_message 103 = .ok (.iload 4, 2) := by decide +kernel
theorem dX11_message_105 : decode cX11_message 105 = .ok (.iadd, 1) := by decide +kernel
theorem dX11_message_106 : decode cX11_message 106 = .ok (.iaload, 1) := by decide +kernel
theorem dX11_message_107 : decode cX11_message 107 = .ok (.invokestatic 112, 3) := by decide +kernel
theorem dX11_message_110 : decode cX11_message 110 = .ok (.istore_n 3, 1) := by decide +kernel
theorem dX11_message_111 : decode cX11_message 111 = .ok (.iinc 4 1, 3) := by decide +kernel
theorem dX11_message_114 : decode cX11_message 114 = .ok (.goto (-31), 3) := by decide +kernel
theorem dX11_message_117 : decode cX11_message 117 = .ok (.iload_n 3, 1) := by decide +kernel
theorem dX11_message_118 : decode cX11_message 118 = .ok (.ireturn, 1) := by decide +kernel
def b_X11_message_21 (d : Nat) (G : Nat → zK) (Q : zQ) : zK := o_c (-1) <| t_iret Q
def b_X11_message_77 (d : Nat) (G : Nat → zK) (Q : zQ) : zK := o_c 40503 <| o_is 3 <| o_c 0 <| o_is 4 <| G 83
def b_X11_message_70 (d : Nat) (G : Nat → zK) (Q : zQ) : zK := o_al 0 <| o_gf 9 15 <| o_il 1 <| o_iald <| t_iret Q
def b_X11_message_60 (d : Nat) (G : Nat → zK) (Q : zQ) : zK := o_al 0 <| o_gf 9 12 <| o_il 1 <| o_iald <| o_c 1 <| t_ieq (b_X11_message_77 d G Q) (b_X11_message_70 d G Q)
def b_X11_message_59 (d : Nat) (G : Nat → zK) (Q : zQ) : zK := t_iret Q
def b_X11_message_53 (d : Nat) (G : Nat → zK) (Q : zQ) : zK := o_al 0 <| o_gf 9 14 <| o_il 1 <| o_iald <| b_X11_message_59 d G Q
def b_X11_message_44 (d : Nat) (G : Nat → zK) (Q : zQ) : zK := o_al 0 <| o_gf 9 13 <| o_il 1 <| o_iald <| b_X11_message_59 d G Q
def b_X11_message_39 (d : Nat) (G : Nat → zK) (Q : zQ) : zK := o_il 2 <| o_c 1 <| t_ieq (b_X11_message_44 d G Q) (b_X11_message_53 d G Q)
def b_X11_message_34 (d : Nat) (G : Nat → zK) (Q : zQ) : zK := o_il 2 <| o_c 3 <| t_ilt (b_X11_message_39 d G Q) (b_X11_message_60 d G Q)
def b_X11_message_27 (d : Nat) (G : Nat → zK) (Q : zQ) : zK := o_al 0 <| o_gf 9 12 <| o_il 1 <| o_iald <| t_iret Q
def b_X11_message_23 (d : Nat) (G : Nat → zK) (Q : zQ) : zK := o_il 2 <| t_zeq (b_X11_message_27 d G Q) (b_X11_message_34 d G Q)
def b_X11_message_16 (d : Nat) (G : Nat → zK) (Q : zQ) : zK := o_il 2 <| o_c 3 <| t_igt (b_X11_message_21 d G Q) (b_X11_message_23 d G Q)
def b_X11_message_12 (d : Nat) (G : Nat → zK) (Q : zQ) : zK := o_il 2 <| t_zlt (b_X11_message_21 d G Q) (b_X11_message_16 d G Q)
def b_X11_message_4 (d : Nat) (G : Nat → zK) (Q : zQ) : zK := o_il 1 <| o_al 0 <| o_gf 9 11 <| t_ilt (b_X11_message_12 d G Q) (b_X11_message_21 d G Q)
def b_X11_message_0 (d : Nat) (G : Nat → zK) (Q : zQ) : zK := o_il 1 <| t_zlt (b_X11_message_21 d G Q) (b_X11_message_4 d G Q)
def b_X11_message_117 (d : Nat) (G : Nat → zK) (Q : zQ) : zK := o_il 3 <| t_iret Q
def b_X11_message_94 (d : Nat) (G : Nat → zK) (Q : zQ) : zK := o_il 3 <| o_al 0 <| o_gf 9 17 <| o_c 18 <| o_il 1 <| o_mul <| o_il 4 <| o_add <| o_iald <| o_call (zCt (d - 1) mX11_step) 2 <| o_is 3 <| o_inc 4 1 <| G 83
def b_X11_message_83 (d : Nat) (G : Nat → zK) (Q : zQ) : zK := o_il 4 <| o_al 0 <| o_gf 9 16 <| o_il 1 <| o_iald <| t_ilt (b_X11_message_94 d G Q) (b_X11_message_117 d G Q)
set_option maxRecDepth 20000 in
theorem k_X11_message_21 {p : Program} {l : Launch} {e : Env} {s : State} {m : MethodId} {args : Array Value} {below : List Frame} {meth : Method} {c : Code} {E : zE} {d : Nat} {Q : zQ} (hd1 : 1 ≤ d) (B : zB p s m args c E mX11_message.1.cls mX11_message.2.1 mX11_message.2.2.1) (hr : meth.sig.returnType = mX11_message.2.2.2) (hlk : meth.locks = false) : zLk (zG p l e (zrm d) s m args below meth c E mX11_message.2.2.1 0 0 (MQ below (zQc E Q) args s 0 0 (zaA E))) 21 (b_X11_message_21 d (zG p l e (zrm d) s m args below meth c E mX11_message.2.2.1 0 0 (MQ below (zQc E Q) args s 0 0 (zaA E))) Q) := by
  unfold b_X11_message_21
  exact lk_c B dX11_message_21 (lk_iret B hr hlk dX11_message_22)
set_option maxRecDepth 20000 in
theorem k_X11_message_77 {p : Program} {l : Launch} {e : Env} {s : State} {m : MethodId} {args : Array Value} {below : List Frame} {meth : Method} {c : Code} {E : zE} {d : Nat} {Q : zQ} (hd1 : 1 ≤ d) (B : zB p s m args c E mX11_message.1.cls mX11_message.2.1 mX11_message.2.2.1) (hr : meth.sig.returnType = mX11_message.2.2.2) (hlk : meth.locks = false) : zLk (zG p l e (zrm d) s m args below meth c E mX11_message.2.2.1 0 0 (MQ below (zQc E Q) args s 0 0 (zaA E))) 77 (b_X11_message_77 d (zG p l e (zrm d) s m args below meth c E mX11_message.2.2.1 0 0 (MQ below (zQc E Q) args s 0 0 (zaA E))) Q) := by
  unfold b_X11_message_77
  exact lk_ldc B zw_924 rfl dX11_message_77 (lk_isn B dX11_message_79 rfl (by decide) (lk_c B dX11_message_80 (lk_is B dX11_message_81 (by decide) (fun _ _ _ h => h))))
set_option maxRecDepth 20000 in
theorem k_X11_message_70 {p : Program} {l : Launch} {e : Env} {s : State} {m : MethodId} {args : Array Value} {below : List Frame} {meth : Method} {c : Code} {E : zE} {d : Nat} {Q : zQ} (hd1 : 1 ≤ d) (B : zB p s m args c E mX11_message.1.cls mX11_message.2.1 mX11_message.2.2.1) (hr : meth.sig.returnType = mX11_message.2.2.2) (hlk : meth.locks = false) : zLk (zG p l e (zrm d) s m args below meth c E mX11_message.2.2.1 0 0 (MQ below (zQc E Q) args s 0 0 (zaA E))) 70 (b_X11_message_70 d (zG p l e (zrm d) s m args below meth c E mX11_message.2.2.1 0 0 (MQ below (zQc E Q) args s 0 0 (zaA E))) Q) := by
  unfold b_X11_message_70
  exact lk_aln B dX11_message_70 rfl (lk_gf (T := TX11) B cl_X11 (by decide) in_X11 zw_803 dX11_message_71 (lk_iln B dX11_message_74 rfl (lk_iald B dX11_message_75 (lk_iret B hr hlk dX11_message_76))))
set_option maxRecDepth 20000 in
theorem k_X11_message_60 {p : Program} {l : Launch} {e : Env} {s : State} {m : MethodId} {args : Array Value} {below : List Frame} {meth : Method} {c : Code} {E : zE} {d : Nat} {Q : zQ} (hd1 : 1 ≤ d) (B : zB p s m args c E mX11_message.1.cls mX11_message.2.1 mX11_message.2.2.1) (hr : meth.sig.returnType = mX11_message.2.2.2) (hlk : meth.locks = false) : zLk (zG p l e (zrm d) s m args below meth c E mX11_message.2.2.1 0 0 (MQ below (zQc E Q) args s 0 0 (zaA E))) 60 (b_X11_message_60 d (zG p l e (zrm d) s m args below meth c E mX11_message.2.2.1 0 0 (MQ below (zQc E Q) args s 0 0 (zaA E))) Q) := by
  unfold b_X11_message_60
  exact lk_aln B dX11_message_60 rfl (lk_gf (T := TX11) B cl_X11 (by decide) in_X11 zw_800 dX11_message_61 (lk_iln B dX11_message_64 rfl (lk_iald B dX11_message_65 (lk_c B dX11_message_66 (lk_ieq B dX11_message_67 (by decide) (k_X11_message_77 hd1 B hr hlk) (k_X11_message_70 hd1 B hr hlk))))))
set_option maxRecDepth 20000 in
theorem k_X11_message_59 {p : Program} {l : Launch} {e : Env} {s : State} {m : MethodId} {args : Array Value} {below : List Frame} {meth : Method} {c : Code} {E : zE} {d : Nat} {Q : zQ} (hd1 : 1 ≤ d) (B : zB p s m args c E mX11_message.1.cls mX11_message.2.1 mX11_message.2.2.1) (hr : meth.sig.returnType = mX11_message.2.2.2) (hlk : meth.locks = false) : zLk (zG p l e (zrm d) s m args below meth c E mX11_message.2.2.1 0 0 (MQ below (zQc E Q) args s 0 0 (zaA E))) 59 (b_X11_message_59 d (zG p l e (zrm d) s m args below meth c E mX11_message.2.2.1 0 0 (MQ below (zQc E Q) args s 0 0 (zaA E))) Q) := by
  unfold b_X11_message_59
  exact lk_iret B hr hlk dX11_message_59
set_option maxRecDepth 20000 in
theorem k_X11_message_53 {p : Program} {l : Launch} {e : Env} {s : State} {m : MethodId} {args : Array Value} {below : List Frame} {meth : Method} {c : Code} {E : zE} {d : Nat} {Q : zQ} (hd1 : 1 ≤ d) (B : zB p s m args c E mX11_message.1.cls mX11_message.2.1 mX11_message.2.2.1) (hr : meth.sig.returnType = mX11_message.2.2.2) (hlk : meth.locks = false) : zLk (zG p l e (zrm d) s m args below meth c E mX11_message.2.2.1 0 0 (MQ below (zQc E Q) args s 0 0 (zaA E))) 53 (b_X11_message_53 d (zG p l e (zrm d) s m args below meth c E mX11_message.2.2.1 0 0 (MQ below (zQc E Q) args s 0 0 (zaA E))) Q) := by
  unfold b_X11_message_53
  exact lk_aln B dX11_message_53 rfl (lk_gf (T := TX11) B cl_X11 (by decide) in_X11 zw_802 dX11_message_54 (lk_iln B dX11_message_57 rfl (lk_iald B dX11_message_58 (k_X11_message_59 hd1 B hr hlk))))
set_option maxRecDepth 20000 in
theorem k_X11_message_44 {p : Program} {l : Launch} {e : Env} {s : State} {m : MethodId} {args : Array Value} {below : List Frame} {meth : Method} {c : Code} {E : zE} {d : Nat} {Q : zQ} (hd1 : 1 ≤ d) (B : zB p s m args c E mX11_message.1.cls mX11_message.2.1 mX11_message.2.2.1) (hr : meth.sig.returnType = mX11_message.2.2.2) (hlk : meth.locks = false) : zLk (zG p l e (zrm d) s m args below meth c E mX11_message.2.2.1 0 0 (MQ below (zQc E Q) args s 0 0 (zaA E))) 44 (b_X11_message_44 d (zG p l e (zrm d) s m args below meth c E mX11_message.2.2.1 0 0 (MQ below (zQc E Q) args s 0 0 (zaA E))) Q) := by
  unfold b_X11_message_44
  exact lk_aln B dX11_message_44 rfl (lk_gf (T := TX11) B cl_X11 (by decide) in_X11 zw_801 dX11_message_45 (lk_iln B dX11_message_48 rfl (lk_iald B dX11_message_49 (lk_goto B dX11_message_50 (by decide) (k_X11_message_59 hd1 B hr hlk)))))
set_option maxRecDepth 20000 in
theorem k_X11_message_39 {p : Program} {l : Launch} {e : Env} {s : State} {m : MethodId} {args : Array Value} {below : List Frame} {meth : Method} {c : Code} {E : zE} {d : Nat} {Q : zQ} (hd1 : 1 ≤ d) (B : zB p s m args c E mX11_message.1.cls mX11_message.2.1 mX11_message.2.2.1) (hr : meth.sig.returnType = mX11_message.2.2.2) (hlk : meth.locks = false) : zLk (zG p l e (zrm d) s m args below meth c E mX11_message.2.2.1 0 0 (MQ below (zQc E Q) args s 0 0 (zaA E))) 39 (b_X11_message_39 d (zG p l e (zrm d) s m args below meth c E mX11_message.2.2.1 0 0 (MQ below (zQc E Q) args s 0 0 (zaA E))) Q) := by
  unfold b_X11_message_39
  exact lk_iln B dX11_message_39 rfl (lk_c B dX11_message_40 (lk_ine B dX11_message_41 (by decide) (k_X11_message_53 hd1 B hr hlk) (k_X11_message_44 hd1 B hr hlk)))
set_option maxRecDepth 20000 in
theorem k_X11_message_34 {p : Program} {l : Launch} {e : Env} {s : State} {m : MethodId} {args : Array Value} {below : List Frame} {meth : Method} {c : Code} {E : zE} {d : Nat} {Q : zQ} (hd1 : 1 ≤ d) (B : zB p s m args c E mX11_message.1.cls mX11_message.2.1 mX11_message.2.2.1) (hr : meth.sig.returnType = mX11_message.2.2.2) (hlk : meth.locks = false) : zLk (zG p l e (zrm d) s m args below meth c E mX11_message.2.2.1 0 0 (MQ below (zQc E Q) args s 0 0 (zaA E))) 34 (b_X11_message_34 d (zG p l e (zrm d) s m args below meth c E mX11_message.2.2.1 0 0 (MQ below (zQc E Q) args s 0 0 (zaA E))) Q) := by
  unfold b_X11_message_34
  exact lk_iln B dX11_message_34 rfl (lk_c B dX11_message_35 (lk_ige B dX11_message_36 (by decide) (k_X11_message_60 hd1 B hr hlk) (k_X11_message_39 hd1 B hr hlk)))
set_option maxRecDepth 20000 in
theorem k_X11_message_27 {p : Program} {l : Launch} {e : Env} {s : State} {m : MethodId} {args : Array Value} {below : List Frame} {meth : Method} {c : Code} {E : zE} {d : Nat} {Q : zQ} (hd1 : 1 ≤ d) (B : zB p s m args c E mX11_message.1.cls mX11_message.2.1 mX11_message.2.2.1) (hr : meth.sig.returnType = mX11_message.2.2.2) (hlk : meth.locks = false) : zLk (zG p l e (zrm d) s m args below meth c E mX11_message.2.2.1 0 0 (MQ below (zQc E Q) args s 0 0 (zaA E))) 27 (b_X11_message_27 d (zG p l e (zrm d) s m args below meth c E mX11_message.2.2.1 0 0 (MQ below (zQc E Q) args s 0 0 (zaA E))) Q) := by
  unfold b_X11_message_27
  exact lk_aln B dX11_message_27 rfl (lk_gf (T := TX11) B cl_X11 (by decide) in_X11 zw_800 dX11_message_28 (lk_iln B dX11_message_31 rfl (lk_iald B dX11_message_32 (lk_iret B hr hlk dX11_message_33))))
set_option maxRecDepth 20000 in
theorem k_X11_message_23 {p : Program} {l : Launch} {e : Env} {s : State} {m : MethodId} {args : Array Value} {below : List Frame} {meth : Method} {c : Code} {E : zE} {d : Nat} {Q : zQ} (hd1 : 1 ≤ d) (B : zB p s m args c E mX11_message.1.cls mX11_message.2.1 mX11_message.2.2.1) (hr : meth.sig.returnType = mX11_message.2.2.2) (hlk : meth.locks = false) : zLk (zG p l e (zrm d) s m args below meth c E mX11_message.2.2.1 0 0 (MQ below (zQc E Q) args s 0 0 (zaA E))) 23 (b_X11_message_23 d (zG p l e (zrm d) s m args below meth c E mX11_message.2.2.1 0 0 (MQ below (zQc E Q) args s 0 0 (zaA E))) Q) := by
  unfold b_X11_message_23
  exact lk_iln B dX11_message_23 rfl (lk_zne B dX11_message_24 (by decide) (k_X11_message_34 hd1 B hr hlk) (k_X11_message_27 hd1 B hr hlk))
set_option maxRecDepth 20000 in
theorem k_X11_message_16 {p : Program} {l : Launch} {e : Env} {s : State} {m : MethodId} {args : Array Value} {below : List Frame} {meth : Method} {c : Code} {E : zE} {d : Nat} {Q : zQ} (hd1 : 1 ≤ d) (B : zB p s m args c E mX11_message.1.cls mX11_message.2.1 mX11_message.2.2.1) (hr : meth.sig.returnType = mX11_message.2.2.2) (hlk : meth.locks = false) : zLk (zG p l e (zrm d) s m args below meth c E mX11_message.2.2.1 0 0 (MQ below (zQc E Q) args s 0 0 (zaA E))) 16 (b_X11_message_16 d (zG p l e (zrm d) s m args below meth c E mX11_message.2.2.1 0 0 (MQ below (zQc E Q) args s 0 0 (zaA E))) Q) := by
  unfold b_X11_message_16
  exact lk_iln B dX11_message_16 rfl (lk_c B dX11_message_17 (lk_ile B dX11_message_18 (by decide) (k_X11_message_23 hd1 B hr hlk) (k_X11_message_21 hd1 B hr hlk)))
set_option maxRecDepth 20000 in
theorem k_X11_message_12 {p : Program} {l : Launch} {e : Env} {s : State} {m : MethodId} {args : Array Value} {below : List Frame} {meth : Method} {c : Code} {E : zE} {d : Nat} {Q : zQ} (hd1 : 1 ≤ d) (B : zB p s m args c E mX11_message.1.cls mX11_message.2.1 mX11_message.2.2.1) (hr : meth.sig.returnType = mX11_message.2.2.2) (hlk : meth.locks = false) : zLk (zG p l e (zrm d) s m args below meth c E mX11_message.2.2.1 0 0 (MQ below (zQc E Q) args s 0 0 (zaA E))) 12 (b_X11_message_12 d (zG p l e (zrm d) s m args below meth c E mX11_message.2.2.1 0 0 (MQ below (zQc E Q) args s 0 0 (zaA E))) Q) := by
  unfold b_X11_message_12
  exact lk_iln B dX11_message_12 rfl (lk_zlt B dX11_message_13 (by decide) (k_X11_message_21 hd1 B hr hlk) (k_X11_message_16 hd1 B hr hlk))
set_option maxRecDepth 20000 in
theorem k_X11_message_4 {p : Program} {l : Launch} {e : Env} {s : State} {m : MethodId} {args : Array Value} {below : List Frame} {meth : Method} {c : Code} {E : zE} {d : Nat} {Q : zQ} (hd1 : 1 ≤ d) (B : zB p s m args c E mX11_message.1.cls mX11_message.2.1 mX11_message.2.2.1) (hr : meth.sig.returnType = mX11_message.2.2.2) (hlk : meth.locks = false) : zLk (zG p l e (zrm d) s m args below meth c E mX11_message.2.2.1 0 0 (MQ below (zQc E Q) args s 0 0 (zaA E))) 4 (b_X11_message_4 d (zG p l e (zrm d) s m args below meth c E mX11_message.2.2.1 0 0 (MQ below (zQc E Q) args s 0 0 (zaA E))) Q) := by
  unfold b_X11_message_4
  exact lk_iln B dX11_message_4 rfl (lk_aln B dX11_message_5 rfl (lk_gf (T := TX11) B cl_X11 (by decide) in_X11 zw_799 dX11_message_6 (lk_ige B dX11_message_9 (by decide) (k_X11_message_21 hd1 B hr hlk) (k_X11_message_12 hd1 B hr hlk))))
set_option maxRecDepth 20000 in
theorem k_X11_message_0 {p : Program} {l : Launch} {e : Env} {s : State} {m : MethodId} {args : Array Value} {below : List Frame} {meth : Method} {c : Code} {E : zE} {d : Nat} {Q : zQ} (hd1 : 1 ≤ d) (B : zB p s m args c E mX11_message.1.cls mX11_message.2.1 mX11_message.2.2.1) (hr : meth.sig.returnType = mX11_message.2.2.2) (hlk : meth.locks = false) : zLk (zG p l e (zrm d) s m args below meth c E mX11_message.2.2.1 0 0 (MQ below (zQc E Q) args s 0 0 (zaA E))) 0 (b_X11_message_0 d (zG p l e (zrm d) s m args below meth c E mX11_message.2.2.1 0 0 (MQ below (zQc E Q) args s 0 0 (zaA E))) Q) := by
  unfold b_X11_message_0
  exact lk_iln B dX11_message_0 rfl (lk_zlt B dX11_message_1 (by decide) (k_X11_message_21 hd1 B hr hlk) (k_X11_message_4 hd1 B hr hlk))
set_option maxRecDepth 20000 in
theorem k_X11_message_117 {p : Program} {l : Launch} {e : Env} {s : State} {m : MethodId} {args : Array Value} {below : List Frame} {meth : Method} {c : Code} {E : zE} {d : Nat} {Q : zQ} (hd1 : 1 ≤ d) (B : zB p s m args c E mX11_message.1.cls mX11_message.2.1 mX11_message.2.2.1) (hr : meth.sig.returnType = mX11_message.2.2.2) (hlk : meth.locks = false) : zLk (zG p l e (zrm d) s m args below meth c E mX11_message.2.2.1 0 0 (MQ below (zQc E Q) args s 0 0 (zaA E))) 117 (b_X11_message_117 d (zG p l e (zrm d) s m args below meth c E mX11_message.2.2.1 0 0 (MQ below (zQc E Q) args s 0 0 (zaA E))) Q) := by
  unfold b_X11_message_117
  exact lk_iln B dX11_message_117 rfl (lk_iret B hr hlk dX11_message_118)
set_option maxRecDepth 20000 in
theorem k_X11_message_94 {p : Program} {l : Launch} {e : Env} {s : State} {m : MethodId} {args : Array Value} {below : List Frame} {meth : Method} {c : Code} {E : zE} {d : Nat} {Q : zQ} (hd1 : 1 ≤ d) (B : zB p s m args c E mX11_message.1.cls mX11_message.2.1 mX11_message.2.2.1) (hr : meth.sig.returnType = mX11_message.2.2.2) (hlk : meth.locks = false) : zLk (zG p l e (zrm d) s m args below meth c E mX11_message.2.2.1 0 0 (MQ below (zQc E Q) args s 0 0 (zaA E))) 94 (b_X11_message_94 d (zG p l e (zrm d) s m args below meth c E mX11_message.2.2.1 0 0 (MQ below (zQc E Q) args s 0 0 (zaA E))) Q) := by
  unfold b_X11_message_94
  exact lk_iln B dX11_message_94 rfl (lk_aln B dX11_message_95 rfl (lk_gf (T := TX11) B cl_X11 (by decide) in_X11 zw_805 dX11_message_96 (lk_b B dX11_message_99 rfl (lk_iln B dX11_message_101 rfl (lk_mul B dX11_message_102 (lk_il B dX11_message_103 (lk_add B dX11_message_105 (lk_iald B dX11_message_106 (lk_calls (M := mX11_step) B (zhR hd1 (by decide)) ⟨Nat.zero_le _, Nat.zero_le _⟩ (zw4 zw_927 zw_925 zw_926 zw_58) (by decide +kernel) dX11_message_107 (lk_isn B dX11_message_110 rfl (by decide) (lk_inc B dX11_message_111 (by decide) (lk_goto B dX11_message_114 (by decide) (fun _ _ _ h => h)))))))))))))
set_option maxRecDepth 20000 in
theorem k_X11_message_83 {p : Program} {l : Launch} {e : Env} {s : State} {m : MethodId} {args : Array Value} {below : List Frame} {meth : Method} {c : Code} {E : zE} {d : Nat} {Q : zQ} (hd1 : 1 ≤ d) (B : zB p s m args c E mX11_message.1.cls mX11_message.2.1 mX11_message.2.2.1) (hr : meth.sig.returnType = mX11_message.2.2.2) (hlk : meth.locks = false) : zLk (zG p l e (zrm d) s m args below meth c E mX11_message.2.2.1 0 0 (MQ below (zQc E Q) args s 0 0 (zaA E))) 83 (b_X11_message_83 d (zG p l e (zrm d) s m args below meth c E mX11_message.2.2.1 0 0 (MQ below (zQc E Q) args s 0 0 (zaA E))) Q) := by
  unfold b_X11_message_83
  exact lk_il B dX11_message_83 (lk_aln B dX11_message_85 rfl (lk_gf (T := TX11) B cl_X11 (by decide) in_X11 zw_804 dX11_message_86 (lk_iln B dX11_message_89 rfl (lk_iald B dX11_message_90 (lk_ige B dX11_message_91 (by decide) (k_X11_message_117 hd1 B hr hlk) (k_X11_message_94 hd1 B hr hlk))))))
def S_X11_message (d : Nat) (G : Nat → zK) (Q : zQ) : Prop := zLk G 0 (b_X11_message_0 d G Q) ∧ zLk G 83 (b_X11_message_83 d G Q)
theorem s_X11_message_0 {d : Nat} {G : Nat → zK} {Q : zQ} (h : S_X11_message d G Q) {ls st : List zV} {μ : zM} (k : b_X11_message_0 d G Q ls st μ) : G 0 ls st μ := h.1 ls st μ k
theorem s_X11_message_83 {d : Nat} {G : Nat → zK} {Q : zQ} (h : S_X11_message d G Q) {ls st : List zV} {μ : zM} (k : b_X11_message_83 d G Q ls st μ) : G 83 ls st μ := h.2 ls st μ k
theorem of_X11_message {d : Nat} {a0 a1 a2 : zV} {μ : zM} {Q : zQ} (hd1 : 1 ≤ d) (h : ∀ G : Nat → zK, S_X11_message d G Q → G 0 [a0, a1, a2, .inr none, .inr none] [] μ) : zCt d mX11_message [a0, a1, a2] μ Q := zCt.mk (by decide) (Nat.le_of_ble_eq_true rfl) (fun p l e s m args below meth c E B hr hlk => h _ ⟨k_X11_message_0 hd1 B hr hlk, k_X11_message_83 hd1 B hr hlk⟩)
theorem dX11_waiting_0 : decode cX11_waiting 0 = .ok (.aload_n 0, 1) := by decide +kernel
theorem dX11_waiting_1 : decode cX11_waiting 1 = .ok (.getfield 236, 3) := by decide +kernel
theorem dX11_waiting_4 : decode cX11_waiting 4 = .ok (.ireturn, 1) := by decide +kernel
def b_X11_waiting_0 (d : Nat) (G : Nat → zK) (Q : zQ) : zK := o_al 0 <| o_gf 9 11 <| t_iret Q
set_option maxRecDepth 20000 in
theorem k_X11_waiting_0 {p : Program} {l : Launch} {e : Env} {s : State} {m : MethodId} {args : Array Value} {below : List Frame} {meth : Method} {c : Code} {E : zE} {d : Nat} {Q : zQ} (B : zB p s m args c E mX11_waiting.1.cls mX11_waiting.2.1 mX11_waiting.2.2.1) (hr : meth.sig.returnType = mX11_waiting.2.2.2) (hlk : meth.locks = false) : zLk (zG p l e (zrm d) s m args below meth c E mX11_waiting.2.2.1 0 0 (MQ below (zQc E Q) args s 0 0 (zaA E))) 0 (b_X11_waiting_0 d (zG p l e (zrm d) s m args below meth c E mX11_waiting.2.2.1 0 0 (MQ below (zQc E Q) args s 0 0 (zaA E))) Q) := by
  unfold b_X11_waiting_0
  exact lk_aln B dX11_waiting_0 rfl (lk_gf (T := TX11) B cl_X11 (by decide) in_X11 zw_799 dX11_waiting_1 (lk_iret B hr hlk dX11_waiting_4))
def S_X11_waiting (d : Nat) (G : Nat → zK) (Q : zQ) : Prop := zLk G 0 (b_X11_waiting_0 d G Q)
theorem s_X11_waiting_0 {d : Nat} {G : Nat → zK} {Q : zQ} (h : S_X11_waiting d G Q) {ls st : List zV} {μ : zM} (k : b_X11_waiting_0 d G Q ls st μ) : G 0 ls st μ := h ls st μ k
theorem of_X11_waiting {d : Nat} {a0 : zV} {μ : zM} {Q : zQ} (h : ∀ G : Nat → zK, S_X11_waiting d G Q → G 0 [a0] [] μ) : zCt d mX11_waiting [a0] μ Q := zCt.mk (by decide) (Nat.le_of_ble_eq_true rfl) (fun p l e s m args below meth c E B hr hlk => h _ (k_X11_waiting_0 B hr hlk))
theorem dX11_state_0 : decode cX11_state 0 = .ok (.iload_n 1, 1) := by decide +kernel
theorem dX11_state_1 : decode cX11_state 1 = .ok (.invokestatic 132, 3) := by decide +kernel
theorem dX11_state_4 : decode cX11_state 4 = .ok (.ifCond .eq 12, 3) := by decide +kernel
theorem dX11_state_7 : decode cX11_state 7 = .ok (.aload_n 0, 1) := by decide +kernel
theorem dX11_state_8 : decode cX11_state 8 = .ok (.getfield 35, 3) := by decide +kernel
theorem dX11_state_11 : decode cX11_state 11 = .ok (.iload_n 1, 1) := by decide +kernel
theorem dX11_state_12 : decode cX11_state 12 = .ok (.iaload, 1) := by decide +kernel
theorem dX11_state_13 : decode cX11_state 13 = .ok (.goto 4, 3) := by decide +kernel
theorem dX11_state_16 : decode cX11_state 16 = .ok (.iconst (-1), 1) := by decide +kernel
theorem dX11_state_17 : decode cX11_state 17 = .ok (.ireturn, 1) := by decide +kernel
def b_X11_state_17 (d : Nat) (G : Nat → zK) (Q : zQ) : zK := t_iret Q
def b_X11_state_16 (d : Nat) (G : Nat → zK) (Q : zQ) : zK := o_c (-1) <| b_X11_state_17 d G Q
def b_X11_state_7 (d : Nat) (G : Nat → zK) (Q : zQ) : zK := o_al 0 <| o_gf 9 8 <| o_il 1 <| o_iald <| b_X11_state_17 d G Q
def b_X11_state_0 (d : Nat) (G : Nat → zK) (Q : zQ) : zK := o_il 1 <| o_call (zCt (d - 1) mX11_isStore) 1 <| t_zeq (b_X11_state_16 d G Q) (b_X11_state_7 d G Q)
set_option maxRecDepth 20000 in
theorem k_X11_state_17 {p : Program} {l : Launch} {e : Env} {s : State} {m : MethodId} {args : Array Value} {below : List Frame} {meth : Method} {c : Code} {E : zE} {d : Nat} {Q : zQ} (hd1 : 1 ≤ d) (B : zB p s m args c E mX11_state.1.cls mX11_state.2.1 mX11_state.2.2.1) (hr : meth.sig.returnType = mX11_state.2.2.2) (hlk : meth.locks = false) : zLk (zG p l e (zrm d) s m args below meth c E mX11_state.2.2.1 0 0 (MQ below (zQc E Q) args s 0 0 (zaA E))) 17 (b_X11_state_17 d (zG p l e (zrm d) s m args below meth c E mX11_state.2.2.1 0 0 (MQ below (zQc E Q) args s 0 0 (zaA E))) Q) := by
  unfold b_X11_state_17
  exact lk_iret B hr hlk dX11_state_17
set_option maxRecDepth 20000 in
theorem k_X11_state_16 {p : Program} {l : Launch} {e : Env} {s : State} {m : MethodId} {args : Array Value} {below : List Frame} {meth : Method} {c : Code} {E : zE} {d : Nat} {Q : zQ} (hd1 : 1 ≤ d) (B : zB p s m args c E mX11_state.1.cls mX11_state.2.1 mX11_state.2.2.1) (hr : meth.sig.returnType = mX11_state.2.2.2) (hlk : meth.locks = false) : zLk (zG p l e (zrm d) s m args below meth c E mX11_state.2.2.1 0 0 (MQ below (zQc E Q) args s 0 0 (zaA E))) 16 (b_X11_state_16 d (zG p l e (zrm d) s m args below meth c E mX11_state.2.2.1 0 0 (MQ below (zQc E Q) args s 0 0 (zaA E))) Q) := by
  unfold b_X11_state_16
  exact lk_c B dX11_state_16 (k_X11_state_17 hd1 B hr hlk)
set_option maxRecDepth 20000 in
theorem k_X11_state_7 {p : Program} {l : Launch} {e : Env} {s : State} {m : MethodId} {args : Array Value} {below : List Frame} {meth : Method} {c : Code} {E : zE} {d : Nat} {Q : zQ} (hd1 : 1 ≤ d) (B : zB p s m args c E mX11_state.1.cls mX11_state.2.1 mX11_state.2.2.1) (hr : meth.sig.returnType = mX11_state.2.2.2) (hlk : meth.locks = false) : zLk (zG p l e (zrm d) s m args below meth c E mX11_state.2.2.1 0 0 (MQ below (zQc E Q) args s 0 0 (zaA E))) 7 (b_X11_state_7 d (zG p l e (zrm d) s m args below meth c E mX11_state.2.2.1 0 0 (MQ below (zQc E Q) args s 0 0 (zaA E))) Q) := by
  unfold b_X11_state_7
  exact lk_aln B dX11_state_7 rfl (lk_gf (T := TX11) B cl_X11 (by decide) in_X11 zw_796 dX11_state_8 (lk_iln B dX11_state_11 rfl (lk_iald B dX11_state_12 (lk_goto B dX11_state_13 (by decide) (k_X11_state_17 hd1 B hr hlk)))))
set_option maxRecDepth 20000 in
theorem k_X11_state_0 {p : Program} {l : Launch} {e : Env} {s : State} {m : MethodId} {args : Array Value} {below : List Frame} {meth : Method} {c : Code} {E : zE} {d : Nat} {Q : zQ} (hd1 : 1 ≤ d) (B : zB p s m args c E mX11_state.1.cls mX11_state.2.1 mX11_state.2.2.1) (hr : meth.sig.returnType = mX11_state.2.2.2) (hlk : meth.locks = false) : zLk (zG p l e (zrm d) s m args below meth c E mX11_state.2.2.1 0 0 (MQ below (zQc E Q) args s 0 0 (zaA E))) 0 (b_X11_state_0 d (zG p l e (zrm d) s m args below meth c E mX11_state.2.2.1 0 0 (MQ below (zQc E Q) args s 0 0 (zaA E))) Q) := by
  unfold b_X11_state_0
  exact lk_iln B dX11_state_0 rfl (lk_calls (M := mX11_isStore) B (zhR hd1 (by decide)) ⟨Nat.zero_le _, Nat.zero_le _⟩ (zw4 zw_944 zw_942 zw_943 zw_58) (by decide +kernel) dX11_state_1 (lk_zeq B dX11_state_4 (by decide) (k_X11_state_16 hd1 B hr hlk) (k_X11_state_7 hd1 B hr hlk)))
def S_X11_state (d : Nat) (G : Nat → zK) (Q : zQ) : Prop := zLk G 0 (b_X11_state_0 d G Q)
theorem s_X11_state_0 {d : Nat} {G : Nat → zK} {Q : zQ} (h : S_X11_state d G Q) {ls st : List zV} {μ : zM} (k : b_X11_state_0 d G Q ls st μ) : G 0 ls st μ := h ls st μ k
theorem of_X11_state {d : Nat} {a0 a1 : zV} {μ : zM} {Q : zQ} (hd1 : 1 ≤ d) (h : ∀ G : Nat → zK, S_X11_state d G Q → G 0 [a0, a1] [] μ) : zCt d mX11_state [a0, a1] μ Q := zCt.mk (by decide) (Nat.le_of_ble_eq_true rfl) (fun p l e s m args below meth c E B hr hlk => h _ (k_X11_state_0 hd1 B hr hlk))
