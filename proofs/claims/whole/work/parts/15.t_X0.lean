theorem dX0_restart_0 : decode cX0_restart 0 = .ok (.aload_n 0, 1) := by decide +kernel
theorem dX0_restart_1 : decode cX0_restart 1 = .ok (.getfield 14, 3) := by decide +kernel
theorem dX0_restart_4 : decode cX0_restart 4 = .ok (.invokevirtual 34, 3) := by decide +kernel
theorem dX0_restart_7 : decode cX0_restart 7 = .ok (.aload_n 0, 1) := by decide +kernel
theorem dX0_restart_8 : decode cX0_restart 8 = .ok (.iconst 0, 1) := by decide +kernel
theorem dX0_restart_9 : decode cX0_restart 9 = .ok (.putfield 26, 3) := by decide +kernel
theorem dX0_restart_12 : decode cX0_restart 12 = .ok (.aload_n 0, 1) := by decide +kernel
theorem dX0_restart_13 : decode cX0_restart 13 = .ok (.iconst 0, 1) := by decide +kernel
theorem dX0_restart_14 : decode cX0_restart 14 = .ok (.putfield 30, 3) := by decide +kernel
theorem dX0_restart_17 : decode cX0_restart 17 = .ok (.return_, 1) := by decide +kernel
def b_X0_restart_0 (d : Nat) (G : Nat → zK) (Q : zQ) : zK := o_al 0 <| o_gf 0 0 <| o_callv (zCt (d - 1) mX6_makeEmpty) 4 1 <| o_al 0 <| o_c 0 <| o_pf 0 2 <| o_al 0 <| o_c 0 <| o_pz 0 3 <| t_vret Q
set_option maxRecDepth 20000 in
theorem k_X0_restart_0 {p : Program} {l : Launch} {e : Env} {s : State} {m : MethodId} {args : Array Value} {below : List Frame} {meth : Method} {c : Code} {E : zE} {d : Nat} {Q : zQ} (hd1 : 1 ≤ d) (B : zB p s m args c E mX0_restart.1.cls mX0_restart.2.1 mX0_restart.2.2.1) (hr : meth.sig.returnType = mX0_restart.2.2.2) (hlk : meth.locks = false) : zLk (zG p l e (zrm d) s m args below meth c E mX0_restart.2.2.1 0 0 (MQ below (zQc E Q) args s 0 0 (zaA E))) 0 (b_X0_restart_0 d (zG p l e (zrm d) s m args below meth c E mX0_restart.2.2.1 0 0 (MQ below (zQc E Q) args s 0 0 (zaA E))) Q) := by
  unfold b_X0_restart_0
  exact lk_aln B dX0_restart_0 rfl (lk_gf (T := TX0) B cl_X0 (by decide) in_X0 zw_178 dX0_restart_1 (lk_callv (M := mX6_makeEmpty) (T := TX6) (N := 5) B (zhR hd1 (by decide)) ⟨Nat.zero_le _, Nat.zero_le _⟩ cl_X6 (zw5 zw_297 zw_294 zw_295 zw_296 zw_51) (by decide +kernel) dX0_restart_4 (lk_aln B dX0_restart_7 rfl (lk_c B dX0_restart_8 (lk_pf (T := TX0) B cl_X0 (by decide) in_X0 tyX0_ok nmX0 zw_180 rfl (by decide +kernel) dX0_restart_9 (lk_aln B dX0_restart_12 rfl (lk_c B dX0_restart_13 (lk_pz (T := TX0) B cl_X0 (by decide) in_X0 tyX0_ok nmX0 zw_181 rfl (by decide +kernel) dX0_restart_14 (lk_vret B hr hlk dX0_restart_17)))))))))
def S_X0_restart (d : Nat) (G : Nat → zK) (Q : zQ) : Prop := zLk G 0 (b_X0_restart_0 d G Q)
theorem s_X0_restart_0 {d : Nat} {G : Nat → zK} {Q : zQ} (h : S_X0_restart d G Q) {ls st : List zV} {μ : zM} (k : b_X0_restart_0 d G Q ls st μ) : G 0 ls st μ := h ls st μ k
theorem of_X0_restart {d : Nat} {a0 : zV} {μ : zM} {Q : zQ} (hd1 : 1 ≤ d) (h : ∀ G : Nat → zK, S_X0_restart d G Q → G 0 [a0] [] μ) : zCt d mX0_restart [a0] μ Q := zCt.mk (by decide) (Nat.le_of_ble_eq_true rfl) (fun p l e s m args below meth c E B hr hlk => h _ (k_X0_restart_0 hd1 B hr hlk))
theorem dX0_made_0 : decode cX0_made 0 = .ok (.aload_n 0, 1) := by decide +kernel
theorem dX0_made_1 : decode cX0_made 1 = .ok (.getfield 14, 3) := by decide +kernel
theorem dX0_made_4 : decode cX0_made 4 = .ok (.areturn, 1) := by decide +kernel
def b_X0_made_0 (d : Nat) (G : Nat → zK) (Q : zQ) : zK := o_al 0 <| o_gf 0 0 <| t_aret Q
set_option maxRecDepth 20000 in
theorem k_X0_made_0 {p : Program} {l : Launch} {e : Env} {s : State} {m : MethodId} {args : Array Value} {below : List Frame} {meth : Method} {c : Code} {E : zE} {d : Nat} {Q : zQ} (B : zB p s m args c E mX0_made.1.cls mX0_made.2.1 mX0_made.2.2.1) (hr : meth.sig.returnType = mX0_made.2.2.2) (hlk : meth.locks = false) : zLk (zG p l e (zrm d) s m args below meth c E mX0_made.2.2.1 0 0 (MQ below (zQc E Q) args s 0 0 (zaA E))) 0 (b_X0_made_0 d (zG p l e (zrm d) s m args below meth c E mX0_made.2.2.1 0 0 (MQ below (zQc E Q) args s 0 0 (zaA E))) Q) := by
  unfold b_X0_made_0
  exact lk_aln B dX0_made_0 rfl (lk_gf (T := TX0) B cl_X0 (by decide) in_X0 zw_178 dX0_made_1 (lk_aret B hr hlk dX0_made_4))
def S_X0_made (d : Nat) (G : Nat → zK) (Q : zQ) : Prop := zLk G 0 (b_X0_made_0 d G Q)
theorem s_X0_made_0 {d : Nat} {G : Nat → zK} {Q : zQ} (h : S_X0_made d G Q) {ls st : List zV} {μ : zM} (k : b_X0_made_0 d G Q ls st μ) : G 0 ls st μ := h ls st μ k
theorem of_X0_made {d : Nat} {a0 : zV} {μ : zM} {Q : zQ} (h : ∀ G : Nat → zK, S_X0_made d G Q → G 0 [a0] [] μ) : zCt d mX0_made [a0] μ Q := zCt.mk (by decide) (Nat.le_of_ble_eq_true rfl) (fun p l e s m args below meth c E B hr hlk => h _ (k_X0_made_0 B hr hlk))
theorem dX0_hasClash_0 : decode cX0_hasClash 0 = .ok (.aload_n 0, 1) := by decide +kernel
theorem dX0_hasClash_1 : decode cX0_hasClash 1 = .ok (.getfield 30, 3) := by decide +kernel
theorem dX0_hasClash_4 : decode cX0_hasClash 4 = .ok (.ireturn, 1) := by decide +kernel
def b_X0_hasClash_0 (d : Nat) (G : Nat → zK) (Q : zQ) : zK := o_al 0 <| o_gf 0 3 <| t_zret Q
set_option maxRecDepth 20000 in
theorem k_X0_hasClash_0 {p : Program} {l : Launch} {e : Env} {s : State} {m : MethodId} {args : Array Value} {below : List Frame} {meth : Method} {c : Code} {E : zE} {d : Nat} {Q : zQ} (B : zB p s m args c E mX0_hasClash.1.cls mX0_hasClash.2.1 mX0_hasClash.2.2.1) (hr : meth.sig.returnType = mX0_hasClash.2.2.2) (hlk : meth.locks = false) : zLk (zG p l e (zrm d) s m args below meth c E mX0_hasClash.2.2.1 0 0 (MQ below (zQc E Q) args s 0 0 (zaA E))) 0 (b_X0_hasClash_0 d (zG p l e (zrm d) s m args below meth c E mX0_hasClash.2.2.1 0 0 (MQ below (zQc E Q) args s 0 0 (zaA E))) Q) := by
  unfold b_X0_hasClash_0
  exact lk_aln B dX0_hasClash_0 rfl (lk_gf (T := TX0) B cl_X0 (by decide) in_X0 zw_181 dX0_hasClash_1 (lk_zret B hr hlk dX0_hasClash_4))
def S_X0_hasClash (d : Nat) (G : Nat → zK) (Q : zQ) : Prop := zLk G 0 (b_X0_hasClash_0 d G Q)
theorem s_X0_hasClash_0 {d : Nat} {G : Nat → zK} {Q : zQ} (h : S_X0_hasClash d G Q) {ls st : List zV} {μ : zM} (k : b_X0_hasClash_0 d G Q ls st μ) : G 0 ls st μ := h ls st μ k
theorem of_X0_hasClash {d : Nat} {a0 : zV} {μ : zM} {Q : zQ} (h : ∀ G : Nat → zK, S_X0_hasClash d G Q → G 0 [a0] [] μ) : zCt d mX0_hasClash [a0] μ Q := zCt.mk (by decide) (Nat.le_of_ble_eq_true rfl) (fun p l e s m args below meth c E B hr hlk => h _ (k_X0_hasClash_0 B hr hlk))
theorem dX0_write_0 : decode cX0_write 0 = .ok (.aload_n 0, 1) := by decide +kernel
theorem dX0_write_1 : decode cX0_write 1 = .ok (.getfield 26, 3) := by decide +kernel
theorem dX0_write_4 : decode cX0_write 4 = .ok (.bipush 18, 2) := by decide +kernel
theorem dX0_write_6 : decode cX0_write 6 = .ok (.if_icmp .ge 23, 3) := by decide +kernel
theorem dX0_write_9 : decode cX0_write 9 = .ok (.aload_n 0, 1) := by decide +kernel
theorem dX0_write_10 : decode cX0_write 10 = .ok (.getfield 22, 3) := by decide +kernel
theorem dX0_write_13 : decode cX0_write 13 = .ok (.aload_n 0, 1) := by decide +kernel
theorem dX0_write_14 : decode cX0_write 14 = .ok (.getfield 26, 3) := by decide +kernel
theorem dX0_write_17 : decode cX0_write 17 = .ok (.iload_n 1, 1) := by decide +kernel
theorem dX0_write_18 : decode cX0_write 18 = .ok (.iastore, 1) := by decide +kernel
theorem dX0_write_19 : decode cX0_write 19 = .ok (.aload_n 0, 1) := by decide +kernel
theorem dX0_write_20 : decode cX0_write 20 = .ok (.dup, 1) := by decide +kernel
theorem dX0_write_21 : decode cX0_write 21 = .ok (.getfield 26, 3) := by decide +kernel
theorem dX0_write_24 : decode cX0_write 24 = .ok (.iconst 1, 1) := by decide +kernel
theorem dX0_write_25 : decode cX0_write 25 = .ok (.iadd, 1) := by decide +kernel
theorem dX0_write_26 : decode cX0_write 26 = .ok (.putfield 26, 3) := by decide +kernel
theorem dX0_write_29 : decode cX0_write 29 = .ok (.return_, 1) := by decide +kernel
def b_X0_write_29 (d : Nat) (G : Nat → zK) (Q : zQ) : zK := t_vret Q
def b_X0_write_9 (d : Nat) (G : Nat → zK) (Q : zQ) : zK := o_al 0 <| o_gf 0 1 <| o_al 0 <| o_gf 0 2 <| o_il 1 <| o_iast <| o_al 0 <| o_dup <| o_gf 0 2 <| o_c 1 <| o_add <| o_pf 0 2 <| b_X0_write_29 d G Q
def b_X0_write_0 (d : Nat) (G : Nat → zK) (Q : zQ) : zK := o_al 0 <| o_gf 0 2 <| o_c 18 <| t_ilt (b_X0_write_9 d G Q) (b_X0_write_29 d G Q)
set_option maxRecDepth 20000 in
theorem k_X0_write_29 {p : Program} {l : Launch} {e : Env} {s : State} {m : MethodId} {args : Array Value} {below : List Frame} {meth : Method} {c : Code} {E : zE} {d : Nat} {Q : zQ} (B : zB p s m args c E mX0_write.1.cls mX0_write.2.1 mX0_write.2.2.1) (hr : meth.sig.returnType = mX0_write.2.2.2) (hlk : meth.locks = false) : zLk (zG p l e (zrm d) s m args below meth c E mX0_write.2.2.1 0 0 (MQ below (zQc E Q) args s 0 0 (zaA E))) 29 (b_X0_write_29 d (zG p l e (zrm d) s m args below meth c E mX0_write.2.2.1 0 0 (MQ below (zQc E Q) args s 0 0 (zaA E))) Q) := by
  unfold b_X0_write_29
  exact lk_vret B hr hlk dX0_write_29
set_option maxRecDepth 20000 in
theorem k_X0_write_9 {p : Program} {l : Launch} {e : Env} {s : State} {m : MethodId} {args : Array Value} {below : List Frame} {meth : Method} {c : Code} {E : zE} {d : Nat} {Q : zQ} (B : zB p s m args c E mX0_write.1.cls mX0_write.2.1 mX0_write.2.2.1) (hr : meth.sig.returnType = mX0_write.2.2.2) (hlk : meth.locks = false) : zLk (zG p l e (zrm d) s m args below meth c E mX0_write.2.2.1 0 0 (MQ below (zQc E Q) args s 0 0 (zaA E))) 9 (b_X0_write_9 d (zG p l e (zrm d) s m args below meth c E mX0_write.2.2.1 0 0 (MQ below (zQc E Q) args s 0 0 (zaA E))) Q) := by
  unfold b_X0_write_9
  exact lk_aln B dX0_write_9 rfl (lk_gf (T := TX0) B cl_X0 (by decide) in_X0 zw_179 dX0_write_10 (lk_aln B dX0_write_13 rfl (lk_gf (T := TX0) B cl_X0 (by decide) in_X0 zw_180 dX0_write_14 (lk_iln B dX0_write_17 rfl (lk_iast B dX0_write_18 (lk_aln B dX0_write_19 rfl (lk_dup B dX0_write_20 (lk_gf (T := TX0) B cl_X0 (by decide) in_X0 zw_180 dX0_write_21 (lk_c B dX0_write_24 (lk_add B dX0_write_25 (lk_pf (T := TX0) B cl_X0 (by decide) in_X0 tyX0_ok nmX0 zw_180 rfl (by decide +kernel) dX0_write_26 (k_X0_write_29 B hr hlk))))))))))))
set_option maxRecDepth 20000 in
theorem k_X0_write_0 {p : Program} {l : Launch} {e : Env} {s : State} {m : MethodId} {args : Array Value} {below : List Frame} {meth : Method} {c : Code} {E : zE} {d : Nat} {Q : zQ} (B : zB p s m args c E mX0_write.1.cls mX0_write.2.1 mX0_write.2.2.1) (hr : meth.sig.returnType = mX0_write.2.2.2) (hlk : meth.locks = false) : zLk (zG p l e (zrm d) s m args below meth c E mX0_write.2.2.1 0 0 (MQ below (zQc E Q) args s 0 0 (zaA E))) 0 (b_X0_write_0 d (zG p l e (zrm d) s m args below meth c E mX0_write.2.2.1 0 0 (MQ below (zQc E Q) args s 0 0 (zaA E))) Q) := by
  unfold b_X0_write_0
  exact lk_aln B dX0_write_0 rfl (lk_gf (T := TX0) B cl_X0 (by decide) in_X0 zw_180 dX0_write_1 (lk_b B dX0_write_4 rfl (lk_ige B dX0_write_6 (by decide) (k_X0_write_29 B hr hlk) (k_X0_write_9 B hr hlk))))
def S_X0_write (d : Nat) (G : Nat → zK) (Q : zQ) : Prop := zLk G 0 (b_X0_write_0 d G Q)
theorem s_X0_write_0 {d : Nat} {G : Nat → zK} {Q : zQ} (h : S_X0_write d G Q) {ls st : List zV} {μ : zM} (k : b_X0_write_0 d G Q ls st μ) : G 0 ls st μ := h ls st μ k
theorem of_X0_write {d : Nat} {a0 a1 : zV} {μ : zM} {Q : zQ} (h : ∀ G : Nat → zK, S_X0_write d G Q → G 0 [a0, a1] [] μ) : zCt d mX0_write [a0, a1] μ Q := zCt.mk (by decide) (Nat.le_of_ble_eq_true rfl) (fun p l e s m args below meth c E B hr hlk => h _ (k_X0_write_0 B hr hlk))
theorem dX0_writePair_0 : decode cX0_writePair 0 = .ok (.aload_n 0, 1) := by decide +kernel
theorem dX0_writePair_1 : decode cX0_writePair 1 = .ok (.iload_n 1, 1) := by decide +kernel
theorem dX0_writePair_2 : decode cX0_writePair 2 = .ok (.sipush 255, 3) := by decide +kernel
theorem dX0_writePair_5 : decode cX0_writePair 5 = .ok (.iand, 1) := by decide +kernel
theorem dX0_writePair_6 : decode cX0_writePair 6 = .ok (.invokevirtual 37, 3) := by decide +kernel
theorem dX0_writePair_9 : decode cX0_writePair 9 = .ok (.aload_n 0, 1) := by decide +kernel
theorem dX0_writePair_10 : decode cX0_writePair 10 = .ok (.iload_n 1, 1) := by decide +kernel
theorem dX0_writePair_11 : decode cX0_writePair 11 = .ok (.bipush 8, 2) := by decide +kernel
theorem dX0_writePair_13 : decode cX0_writePair 13 = .ok (.ishr, 1) := by decide +kernel
theorem dX0_writePair_14 : decode cX0_writePair 14 = .ok (.invokevirtual 37, 3) := by decide +kernel
theorem dX0_writePair_17 : decode cX0_writePair 17 = .ok (.return_, 1) := by decide +kernel
def b_X0_writePair_0 (d : Nat) (G : Nat → zK) (Q : zQ) : zK := o_al 0 <| o_il 1 <| o_c 255 <| o_and <| o_callv (zCt (d - 1) mX0_write) 0 2 <| o_al 0 <| o_il 1 <| o_c 8 <| o_shr <| o_callv (zCt (d - 1) mX0_write) 0 2 <| t_vret Q
set_option maxRecDepth 20000 in
theorem k_X0_writePair_0 {p : Program} {l : Launch} {e : Env} {s : State} {m : MethodId} {args : Array Value} {below : List Frame} {meth : Method} {c : Code} {E : zE} {d : Nat} {Q : zQ} (hd1 : 1 ≤ d) (B : zB p s m args c E mX0_writePair.1.cls mX0_writePair.2.1 mX0_writePair.2.2.1) (hr : meth.sig.returnType = mX0_writePair.2.2.2) (hlk : meth.locks = false) : zLk (zG p l e (zrm d) s m args below meth c E mX0_writePair.2.2.1 0 0 (MQ below (zQc E Q) args s 0 0 (zaA E))) 0 (b_X0_writePair_0 d (zG p l e (zrm d) s m args below meth c E mX0_writePair.2.2.1 0 0 (MQ below (zQc E Q) args s 0 0 (zaA E))) Q) := by
  unfold b_X0_writePair_0
  exact lk_aln B dX0_writePair_0 rfl (lk_iln B dX0_writePair_1 rfl (lk_s B dX0_writePair_2 rfl (lk_and B dX0_writePair_5 (lk_callv (M := mX0_write) (T := TX0) (N := 4) B (zhR hd1 (by decide)) ⟨Nat.zero_le _, Nat.zero_le _⟩ cl_X0 (zw5 zw_301 zw_489 zw_299 zw_300 zw_55) (by decide +kernel) dX0_writePair_6 (lk_aln B dX0_writePair_9 rfl (lk_iln B dX0_writePair_10 rfl (lk_b B dX0_writePair_11 rfl (lk_shr B dX0_writePair_13 (lk_callv (M := mX0_write) (T := TX0) (N := 4) B (zhR hd1 (by decide)) ⟨Nat.zero_le _, Nat.zero_le _⟩ cl_X0 (zw5 zw_301 zw_489 zw_299 zw_300 zw_55) (by decide +kernel) dX0_writePair_14 (lk_vret B hr hlk dX0_writePair_17))))))))))
def S_X0_writePair (d : Nat) (G : Nat → zK) (Q : zQ) : Prop := zLk G 0 (b_X0_writePair_0 d G Q)
theorem s_X0_writePair_0 {d : Nat} {G : Nat → zK} {Q : zQ} (h : S_X0_writePair d G Q) {ls st : List zV} {μ : zM} (k : b_X0_writePair_0 d G Q ls st μ) : G 0 ls st μ := h ls st μ k
theorem of_X0_writePair {d : Nat} {a0 a1 : zV} {μ : zM} {Q : zQ} (hd1 : 1 ≤ d) (h : ∀ G : Nat → zK, S_X0_writePair d G Q → G 0 [a0, a1] [] μ) : zCt d mX0_writePair [a0, a1] μ Q := zCt.mk (by decide) (Nat.le_of_ble_eq_true rfl) (fun p l e s m args below meth c E B hr hlk => h _ (k_X0_writePair_0 hd1 B hr hlk))
theorem dX0_finishBlock_0 : decode cX0_finishBlock 0 = .ok (.aload_n 0, 1) := by decide +kernel
theorem dX0_finishBlock_1 : decode cX0_finishBlock 1 = .ok (.getfield 22, 3) := by decide +kernel
theorem dX0_finishBlock_4 : decode cX0_finishBlock 4 = .ok (.iconst 0, 1) := by decide +kernel
theorem dX0_finishBlock_5 : decode cX0_finishBlock 5 = .ok (.aload_n 0, 1) := by decide +kernel
theorem dX0_finishBlock_6 : decode cX0_finishBlock 6 = .ok (.getfield 26, 3) := by decide +kernel
theorem dX0_finishBlock_9 : decode cX0_finishBlock 9 = .ok (.invokestatic 40, 3) := by decide +kernel
theorem dX0_finishBlock_12 : decode cX0_finishBlock 12 = .ok (.istore_n 1, 1) := by decide +kernel
theorem dX0_finishBlock_13 : decode cX0_finishBlock 13 = .ok (.aload_n 0, 1) := by decide +kernel
theorem dX0_finishBlock_14 : decode cX0_finishBlock 14 = .ok (.getfield 14, 3) := by decide +kernel
theorem dX0_finishBlock_17 : decode cX0_finishBlock 17 = .ok (.iload_n 1, 1) := by decide +kernel
theorem dX0_finishBlock_18 : decode cX0_finishBlock 18 = .ok (.invokevirtual 44, 3) := by decide +kernel
theorem dX0_finishBlock_21 : decode cX0_finishBlock 21 = .ok (.istore_n 2, 1) := by decide +kernel
theorem dX0_finishBlock_22 : decode cX0_finishBlock 22 = .ok (.iload_n 2, 1) := by decide +kernel
theorem dX0_finishBlock_23 : decode cX0_finishBlock 23 = .ok (.ifCond .ge 23, 3) := by decide +kernel
theorem dX0_finishBlock_26 : decode cX0_finishBlock 26 = .ok (.aload_n 0, 1) := by decide +kernel
theorem dX0_finishBlock_27 : decode cX0_finishBlock 27 = .ok (.getfield 14, 3) := by decide +kernel
theorem dX0_finishBlock_30 : decode cX0_finishBlock 30 = .ok (.iload_n 1, 1) := by decide +kernel
theorem dX0_finishBlock_31 : decode cX0_finishBlock 31 = .ok (.aload_n 0, 1) := by decide +kernel
theorem dX0_finishBlock_32 : decode cX0_finishBlock 32 = .ok (.getfield 22, 3) := by decide +kernel
theorem dX0_finishBlock_35 : decode cX0_finishBlock 35 = .ok (.iconst 0, 1) := by decide +kernel
theorem dX0_finishBlock_36 : decode cX0_finishBlock 36 = .ok (.aload_n 0, 1) := by decide +kernel
theorem dX0_finishBlock_37 : decode cX0_finishBlock 37 = .ok (.getfield 26, 3) := by decide +kernel
theorem dX0_finishBlock_40 : decode cX0_finishBlock 40 = .ok (.invokevirtual 48, 3) := by decide +kernel
theorem dX0_finishBlock_43 : decode cX0_finishBlock 43 = .ok (.goto 28, 3) := by decide +kernel
theorem dX0_finishBlock_46 : decode cX0_finishBlock 46 = .ok (.aload_n 0, 1) := by decide +kernel
theorem dX0_finishBlock_47 : decode cX0_finishBlock 47 = .ok (.getfield 14, 3) := by decide +kernel
theorem dX0_finishBlock_50 : decode cX0_finishBlock 50 = .ok (.iload_n 2, 1) := by decide +kernel
theorem dX0_finishBlock_51 : decode cX0_finishBlock 51 = .ok (.aload_n 0, 1) := by decide +kernel
theorem dX0_finishBlock_52 : decode cX0_finishBlock 52 = .ok (.getfield 22, 3) := by decide +kernel
theorem dX0_finishBlock_55 : decode cX0_finishBlock 55 = .ok (.iconst 0, 1) := by decide +kernel
theorem dX0_finishBlock_56 : decode cX0_finishBlock 56 = .ok (.aload_n 0, 1) := by decide +kernel
theorem dX0_finishBlock_57 : decode cX0_finishBlock 57 = .ok (.getfield 26, 3) := by decide +kernel
theorem dX0_finishBlock_60 : decode cX0_finishBlock 60 = .ok (.invokevirtual 52, 3) := by decide +kernel
theorem dX0_finishBlock_63 : decode cX0_finishBlock 63 = .ok (.ifCond .ne 8, 3) := by decide +kernel
theorem dX0_finishBlock_66 : decode cX0_finishBlock 66 = .ok (.aload_n 0, 1) := by decide +kernel
theorem dX0_finishBlock_67 : decode cX0_finishBlock 67 = .ok (.iconst 1, 1) := by decide +kernel
theorem dX0_finishBlock_68 : decode cX0_finishBlock 68 = .ok (.putfield 30, 3) := by decide +kernel
theorem dX0_finishBlock_71 : decode cX0_finishBlock 71 = .ok (.aload_n 0, 1) := by decide +kernel
theorem dX0_finishBlock_72 : decode cX0_finishBlock 72 = .ok (.iconst 0, 1) := by decide +kernel
theorem dX0_finishBlock_73 : decode cX0_finishBlock 73 = .ok (.putfield 26, 3) := by decide +kernel
theorem dX0_finishBlock_76 : decode cX0_finishBlock 76 = .ok (.iload_n 1, 1) := by decide +kernel
theorem dX0_finishBlock_77 : decode cX0_finishBlock 77 = .ok (.ireturn, 1) := by decide +kernel
def b_X0_finishBlock_71 (d : Nat) (G : Nat → zK) (Q : zQ) : zK := o_al 0 <| o_c 0 <| o_pf 0 2 <| o_il 1 <| t_iret Q
def b_X0_finishBlock_66 (d : Nat) (G : Nat → zK) (Q : zQ) : zK := o_al 0 <| o_c 1 <| o_pz 0 3 <| b_X0_finishBlock_71 d G Q
def b_X0_finishBlock_46 (d : Nat) (G : Nat → zK) (Q : zQ) : zK := o_al 0 <| o_gf 0 0 <| o_il 2 <| o_al 0 <| o_gf 0 1 <| o_c 0 <| o_al 0 <| o_gf 0 2 <| o_callv (zCt (d - 1) mX6_hasSameBytes) 4 5 <| t_zeq (b_X0_finishBlock_66 d G Q) (b_X0_finishBlock_71 d G Q)
def b_X0_finishBlock_26 (d : Nat) (G : Nat → zK) (Q : zQ) : zK := o_al 0 <| o_gf 0 0 <| o_il 1 <| o_al 0 <| o_gf 0 1 <| o_c 0 <| o_al 0 <| o_gf 0 2 <| o_callv (zCt (d - 1) mX6_append) 4 5 <| b_X0_finishBlock_71 d G Q
def b_X0_finishBlock_0 (d : Nat) (G : Nat → zK) (Q : zQ) : zK := o_al 0 <| o_gf 0 1 <| o_c 0 <| o_al 0 <| o_gf 0 2 <| o_call (zCt (d - 1) mX10_nameOf) 3 <| o_is 1 <| o_al 0 <| o_gf 0 0 <| o_il 1 <| o_callv (zCt (d - 1) mX6_slotOf) 4 2 <| o_is 2 <| o_il 2 <| t_zlt (b_X0_finishBlock_26 d G Q) (b_X0_finishBlock_46 d G Q)
set_option maxRecDepth 20000 in
theorem k_X0_finishBlock_71 {p : Program} {l : Launch} {e : Env} {s : State} {m : MethodId} {args : Array Value} {below : List Frame} {meth : Method} {c : Code} {E : zE} {d : Nat} {Q : zQ} (hd1 : 1 ≤ d) (B : zB p s m args c E mX0_finishBlock.1.cls mX0_finishBlock.2.1 mX0_finishBlock.2.2.1) (hr : meth.sig.returnType = mX0_finishBlock.2.2.2) (hlk : meth.locks = false) : zLk (zG p l e (zrm d) s m args below meth c E mX0_finishBlock.2.2.1 0 0 (MQ below (zQc E Q) args s 0 0 (zaA E))) 71 (b_X0_finishBlock_71 d (zG p l e (zrm d) s m args below meth c E mX0_finishBlock.2.2.1 0 0 (MQ below (zQc E Q) args s 0 0 (zaA E))) Q) := by
  unfold b_X0_finishBlock_71
  exact lk_aln B dX0_finishBlock_71 rfl (lk_c B dX0_finishBlock_72 (lk_pf (T := TX0) B cl_X0 (by decide) in_X0 tyX0_ok nmX0 zw_180 rfl (by decide +kernel) dX0_finishBlock_73 (lk_iln B dX0_finishBlock_76 rfl (lk_iret B hr hlk dX0_finishBlock_77))))
set_option maxRecDepth 20000 in
theorem k_X0_finishBlock_66 {p : Program} {l : Launch} {e : Env} {s : State} {m : MethodId} {args : Array Value} {below : List Frame} {meth : Method} {c : Code} {E : zE} {d : Nat} {Q : zQ} (hd1 : 1 ≤ d) (B : zB p s m args c E mX0_finishBlock.1.cls mX0_finishBlock.2.1 mX0_finishBlock.2.2.1) (hr : meth.sig.returnType = mX0_finishBlock.2.2.2) (hlk : meth.locks = false) : zLk (zG p l e (zrm d) s m args below meth c E mX0_finishBlock.2.2.1 0 0 (MQ below (zQc E Q) args s 0 0 (zaA E))) 66 (b_X0_finishBlock_66 d (zG p l e (zrm d) s m args below meth c E mX0_finishBlock.2.2.1 0 0 (MQ below (zQc E Q) args s 0 0 (zaA E))) Q) := by
  unfold b_X0_finishBlock_66
  exact lk_aln B dX0_finishBlock_66 rfl (lk_c B dX0_finishBlock_67 (lk_pz (T := TX0) B cl_X0 (by decide) in_X0 tyX0_ok nmX0 zw_181 rfl (by decide +kernel) dX0_finishBlock_68 (k_X0_finishBlock_71 hd1 B hr hlk)))
set_option maxRecDepth 20000 in
theorem k_X0_finishBlock_46 {p : Program} {l : Launch} {e : Env} {s : State} {m : MethodId} {args : Array Value} {below : List Frame} {meth : Method} {c : Code} {E : zE} {d : Nat} {Q : zQ} (hd1 : 1 ≤ d) (B : zB p s m args c E mX0_finishBlock.1.cls mX0_finishBlock.2.1 mX0_finishBlock.2.2.1) (hr : meth.sig.returnType = mX0_finishBlock.2.2.2) (hlk : meth.locks = false) : zLk (zG p l e (zrm d) s m args below meth c E mX0_finishBlock.2.2.1 0 0 (MQ below (zQc E Q) args s 0 0 (zaA E))) 46 (b_X0_finishBlock_46 d (zG p l e (zrm d) s m args below meth c E mX0_finishBlock.2.2.1 0 0 (MQ below (zQc E Q) args s 0 0 (zaA E))) Q) := by
  unfold b_X0_finishBlock_46
  exact lk_aln B dX0_finishBlock_46 rfl (lk_gf (T := TX0) B cl_X0 (by decide) in_X0 zw_178 dX0_finishBlock_47 (lk_iln B dX0_finishBlock_50 rfl (lk_aln B dX0_finishBlock_51 rfl (lk_gf (T := TX0) B cl_X0 (by decide) in_X0 zw_179 dX0_finishBlock_52 (lk_c B dX0_finishBlock_55 (lk_aln B dX0_finishBlock_56 rfl (lk_gf (T := TX0) B cl_X0 (by decide) in_X0 zw_180 dX0_finishBlock_57 (lk_callv (M := mX6_hasSameBytes) (T := TX6) (N := 5) B (zhR hd1 (by decide)) ⟨Nat.zero_le _, Nat.zero_le _⟩ cl_X6 (zw5 zw_325 zw_322 zw_323 zw_324 zw_51) (by decide +kernel) dX0_finishBlock_60 (lk_zne B dX0_finishBlock_63 (by decide) (k_X0_finishBlock_71 hd1 B hr hlk) (k_X0_finishBlock_66 hd1 B hr hlk))))))))))
set_option maxRecDepth 20000 in
theorem k_X0_finishBlock_26 {p : Program} {l : Launch} {e : Env} {s : State} {m : MethodId} {args : Array Value} {below : List Frame} {meth : Method} {c : Code} {E : zE} {d : Nat} {Q : zQ} (hd1 : 1 ≤ d) (B : zB p s m args c E mX0_finishBlock.1.cls mX0_finishBlock.2.1 mX0_finishBlock.2.2.1) (hr : meth.sig.returnType = mX0_finishBlock.2.2.2) (hlk : meth.locks = false) : zLk (zG p l e (zrm d) s m args below meth c E mX0_finishBlock.2.2.1 0 0 (MQ below (zQc E Q) args s 0 0 (zaA E))) 26 (b_X0_finishBlock_26 d (zG p l e (zrm d) s m args below meth c E mX0_finishBlock.2.2.1 0 0 (MQ below (zQc E Q) args s 0 0 (zaA E))) Q) := by
  unfold b_X0_finishBlock_26
  exact lk_aln B dX0_finishBlock_26 rfl (lk_gf (T := TX0) B cl_X0 (by decide) in_X0 zw_178 dX0_finishBlock_27 (lk_iln B dX0_finishBlock_30 rfl (lk_aln B dX0_finishBlock_31 rfl (lk_gf (T := TX0) B cl_X0 (by decide) in_X0 zw_179 dX0_finishBlock_32 (lk_c B dX0_finishBlock_35 (lk_aln B dX0_finishBlock_36 rfl (lk_gf (T := TX0) B cl_X0 (by decide) in_X0 zw_180 dX0_finishBlock_37 (lk_callv (M := mX6_append) (T := TX6) (N := 5) B (zhR hd1 (by decide)) ⟨Nat.zero_le _, Nat.zero_le _⟩ cl_X6 (zw5 zw_314 zw_311 zw_312 zw_313 zw_51) (by decide +kernel) dX0_finishBlock_40 (lk_goto B dX0_finishBlock_43 (by decide) (k_X0_finishBlock_71 hd1 B hr hlk))))))))))
set_option maxRecDepth 20000 in
theorem k_X0_finishBlock_0 {p : Program} {l : Launch} {e : Env} {s : State} {m : MethodId} {args : Array Value} {below : List Frame} {meth : Method} {c : Code} {E : zE} {d : Nat} {Q : zQ} (hd1 : 1 ≤ d) (B : zB p s m args c E mX0_finishBlock.1.cls mX0_finishBlock.2.1 mX0_finishBlock.2.2.1) (hr : meth.sig.returnType = mX0_finishBlock.2.2.2) (hlk : meth.locks = false) : zLk (zG p l e (zrm d) s m args below meth c E mX0_finishBlock.2.2.1 0 0 (MQ below (zQc E Q) args s 0 0 (zaA E))) 0 (b_X0_finishBlock_0 d (zG p l e (zrm d) s m args below meth c E mX0_finishBlock.2.2.1 0 0 (MQ below (zQc E Q) args s 0 0 (zaA E))) Q) := by
  unfold b_X0_finishBlock_0
  exact lk_aln B dX0_finishBlock_0 rfl (lk_gf (T := TX0) B cl_X0 (by decide) in_X0 zw_179 dX0_finishBlock_1 (lk_c B dX0_finishBlock_4 (lk_aln B dX0_finishBlock_5 rfl (lk_gf (T := TX0) B cl_X0 (by decide) in_X0 zw_180 dX0_finishBlock_6 (lk_calln (M := mX10_nameOf) B (zhR hd1 (by decide)) ⟨Nat.zero_le _, Nat.zero_le _⟩ B.2.2.2.2.2.2.2.2.2.2.1 (zw3 zw_280 zw_279 zw_49) (by decide +kernel) dX0_finishBlock_9 (lk_isn B dX0_finishBlock_12 rfl (by decide) (lk_aln B dX0_finishBlock_13 rfl (lk_gf (T := TX0) B cl_X0 (by decide) in_X0 zw_178 dX0_finishBlock_14 (lk_iln B dX0_finishBlock_17 rfl (lk_callv (M := mX6_slotOf) (T := TX6) (N := 5) B (zhR hd1 (by decide)) ⟨Nat.zero_le _, Nat.zero_le _⟩ cl_X6 (zw5 zw_310 zw_307 zw_308 zw_309 zw_51) (by decide +kernel) dX0_finishBlock_18 (lk_isn B dX0_finishBlock_21 rfl (by decide) (lk_iln B dX0_finishBlock_22 rfl (lk_zge B dX0_finishBlock_23 (by decide) (k_X0_finishBlock_46 hd1 B hr hlk) (k_X0_finishBlock_26 hd1 B hr hlk))))))))))))))
def S_X0_finishBlock (d : Nat) (G : Nat → zK) (Q : zQ) : Prop := zLk G 0 (b_X0_finishBlock_0 d G Q)
theorem s_X0_finishBlock_0 {d : Nat} {G : Nat → zK} {Q : zQ} (h : S_X0_finishBlock d G Q) {ls st : List zV} {μ : zM} (k : b_X0_finishBlock_0 d G Q ls st μ) : G 0 ls st μ := h ls st μ k
theorem of_X0_finishBlock {d : Nat} {a0 : zV} {μ : zM} {Q : zQ} (hd1 : 1 ≤ d) (h : ∀ G : Nat → zK, S_X0_finishBlock d G Q → G 0 [a0, .inr none, .inr none] [] μ) : zCt d mX0_finishBlock [a0] μ Q := zCt.mk (by decide) (Nat.le_of_ble_eq_true rfl) (fun p l e s m args below meth c E B hr hlk => h _ (k_X0_finishBlock_0 hd1 B hr hlk))
theorem dX0_takeCopy_0 : decode cX0_takeCopy 0 = .ok (.aload_n 0, 1) := by decide +kernel
theorem dX0_takeCopy_1 : decode cX0_takeCopy 1 = .ok (.getfield 14, 3) := by decide +kernel
theorem dX0_takeCopy_4 : decode cX0_takeCopy 4 = .ok (.aload_n 1, 1) := by decide +kernel
theorem dX0_takeCopy_5 : decode cX0_takeCopy 5 = .ok (.iload_n 2, 1) := by decide +kernel
theorem dX0_takeCopy_6 : decode cX0_takeCopy 6 = .ok (.invokevirtual 56, 3) := by decide +kernel
theorem dX0_takeCopy_9 : decode cX0_takeCopy 9 = .ok (.return_, 1) := by decide +kernel
def b_X0_takeCopy_0 (d : Nat) (G : Nat → zK) (Q : zQ) : zK := o_al 0 <| o_gf 0 0 <| o_al 1 <| o_il 2 <| o_callv (zCt (d - 1) mX6_appendCopy) 4 3 <| t_vret Q
set_option maxRecDepth 20000 in
theorem k_X0_takeCopy_0 {p : Program} {l : Launch} {e : Env} {s : State} {m : MethodId} {args : Array Value} {below : List Frame} {meth : Method} {c : Code} {E : zE} {d : Nat} {Q : zQ} (hd1 : 1 ≤ d) (B : zB p s m args c E mX0_takeCopy.1.cls mX0_takeCopy.2.1 mX0_takeCopy.2.2.1) (hr : meth.sig.returnType = mX0_takeCopy.2.2.2) (hlk : meth.locks = false) : zLk (zG p l e (zrm d) s m args below meth c E mX0_takeCopy.2.2.1 0 0 (MQ below (zQc E Q) args s 0 0 (zaA E))) 0 (b_X0_takeCopy_0 d (zG p l e (zrm d) s m args below meth c E mX0_takeCopy.2.2.1 0 0 (MQ below (zQc E Q) args s 0 0 (zaA E))) Q) := by
  unfold b_X0_takeCopy_0
  exact lk_aln B dX0_takeCopy_0 rfl (lk_gf (T := TX0) B cl_X0 (by decide) in_X0 zw_178 dX0_takeCopy_1 (lk_aln B dX0_takeCopy_4 rfl (lk_iln B dX0_takeCopy_5 rfl (lk_callv (M := mX6_appendCopy) (T := TX6) (N := 5) B (zhR hd1 (by decide)) ⟨Nat.zero_le _, Nat.zero_le _⟩ cl_X6 (zw5 zw_412 zw_714 zw_410 zw_411 zw_51) (by decide +kernel) dX0_takeCopy_6 (lk_vret B hr hlk dX0_takeCopy_9)))))
def S_X0_takeCopy (d : Nat) (G : Nat → zK) (Q : zQ) : Prop := zLk G 0 (b_X0_takeCopy_0 d G Q)
theorem s_X0_takeCopy_0 {d : Nat} {G : Nat → zK} {Q : zQ} (h : S_X0_takeCopy d G Q) {ls st : List zV} {μ : zM} (k : b_X0_takeCopy_0 d G Q ls st μ) : G 0 ls st μ := h ls st μ k
theorem of_X0_takeCopy {d : Nat} {a0 a1 a2 : zV} {μ : zM} {Q : zQ} (hd1 : 1 ≤ d) (h : ∀ G : Nat → zK, S_X0_takeCopy d G Q → G 0 [a0, a1, a2] [] μ) : zCt d mX0_takeCopy [a0, a1, a2] μ Q := zCt.mk (by decide) (Nat.le_of_ble_eq_true rfl) (fun p l e s m args below meth c E B hr hlk => h _ (k_X0_takeCopy_0 hd1 B hr hlk))
