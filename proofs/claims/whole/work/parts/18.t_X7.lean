theorem dX7_shelf_0 : decode cX7_shelf 0 = .ok (.aload_n 0, 1) := by decide +kernel
theorem dX7_shelf_1 : decode cX7_shelf 1 = .ok (.getfield 14, 3) := by decide +kernel
theorem dX7_shelf_4 : decode cX7_shelf 4 = .ok (.areturn, 1) := by decide +kernel
def b_X7_shelf_0 (d : Nat) (G : Nat → zK) (Q : zQ) : zK := o_al 0 <| o_gf 5 0 <| t_aret Q
set_option maxRecDepth 20000 in
theorem k_X7_shelf_0 {p : Program} {l : Launch} {e : Env} {s : State} {m : MethodId} {args : Array Value} {below : List Frame} {meth : Method} {c : Code} {E : zE} {d : Nat} {Q : zQ} (B : zB p s m args c E mX7_shelf.1.cls mX7_shelf.2.1 mX7_shelf.2.2.1) (hr : meth.sig.returnType = mX7_shelf.2.2.2) (hlk : meth.locks = false) : zLk (zG p l e (zrm d) s m args below meth c E mX7_shelf.2.2.1 0 0 (MQ below (zQc E Q) args s 0 0 (zaA E))) 0 (b_X7_shelf_0 d (zG p l e (zrm d) s m args below meth c E mX7_shelf.2.2.1 0 0 (MQ below (zQc E Q) args s 0 0 (zaA E))) Q) := by
  unfold b_X7_shelf_0
  exact lk_aln B dX7_shelf_0 rfl (lk_gf (T := TX7) B cl_X7 (by decide) in_X7 zw_119 dX7_shelf_1 (lk_aret B hr hlk dX7_shelf_4))
def S_X7_shelf (d : Nat) (G : Nat → zK) (Q : zQ) : Prop := zLk G 0 (b_X7_shelf_0 d G Q)
theorem s_X7_shelf_0 {d : Nat} {G : Nat → zK} {Q : zQ} (h : S_X7_shelf d G Q) {ls st : List zV} {μ : zM} (k : b_X7_shelf_0 d G Q ls st μ) : G 0 ls st μ := h ls st μ k
theorem of_X7_shelf {d : Nat} {a0 : zV} {μ : zM} {Q : zQ} (h : ∀ G : Nat → zK, S_X7_shelf d G Q → G 0 [a0] [] μ) : zCt d mX7_shelf [a0] μ Q := zCt.mk (by decide) (Nat.le_of_ble_eq_true rfl) (fun p l e s m args below meth c E B hr hlk => h _ (k_X7_shelf_0 B hr hlk))
theorem dX7_takeBatch_0 : decode cX7_takeBatch 0 = .ok (.aload_n 1, 1) := by decide +kernel
theorem dX7_takeBatch_1 : decode cX7_takeBatch 1 = .ok (.invokevirtual 37, 3) := by decide +kernel
theorem dX7_takeBatch_4 : decode cX7_takeBatch 4 = .ok (.astore_n 2, 1) := by decide +kernel
theorem dX7_takeBatch_5 : decode cX7_takeBatch 5 = .ok (.iconst 0, 1) := by decide +kernel
theorem dX7_takeBatch_6 : decode cX7_takeBatch 6 = .ok (.istore_n 3, 1) := by decide +kernel
theorem dX7_takeBatch_7 : decode cX7_takeBatch 7 = .ok (.aload_n 1, 1) := by decide +kernel
theorem dX7_takeBatch_8 : decode cX7_takeBatch 8 = .ok (.invokevirtual 43, 3) := by decide +kernel
theorem dX7_takeBatch_11 : decode cX7_takeBatch 11 = .ok (.istore 4, 2) := by decide +kernel
theorem dX7_takeBatch_13 : decode cX7_takeBatch 13 = .ok (.iconst 0, 1) := by decide +kernel
theorem dX7_takeBatch_14 : decode cX7_takeBatch 14 = .ok (.istore 5, 2) := by decide +kernel
theorem dX7_takeBatch_16 : decode cX7_takeBatch 16 = .ok (.iload 5, 2) := by decide +kernel
theorem dX7_takeBatch_18 : decode cX7_takeBatch 18 = .ok (.aload_n 2, 1) := by decide +kernel
theorem dX7_takeBatch_19 : decode cX7_takeBatch 19 = .ok (.invokevirtual 47, 3) := by decide +kernel
theorem dX7_takeBatch_22 : decode cX7_takeBatch 22 = .ok (.if_icmp .ge 53, 3) := by decide +kernel
theorem dX7_takeBatch_25 : decode cX7_takeBatch 25 = .ok (.aload_n 0, 1) := by decide +kernel
theorem dX7_takeBatch_26 : decode cX7_takeBatch 26 = .ok (.getfield 14, 3) := by decide +kernel
theorem dX7_takeBatch_29 : decode cX7_takeBatch 29 = .ok (.aload_n 2, 1) := by decide +kernel
theorem dX7_takeBatch_30 : decode cX7_takeBatch 30 = .ok (.iload 5, 2) := by decide +kernel
theorem dX7_takeBatch_32 : decode cX7_takeBatch 32 = .ok (.invokevirtual 51, 3) := by decide +kernel
theorem dX7_takeBatch_35 : decode cX7_takeBatch 35 = .ok (.invokevirtual 55, 3) := by decide +kernel
theorem dX7_takeBatch_38 : decode cX7_takeBatch 38 = .ok (.istore 6, 2) := by decide +kernel
theorem dX7_takeBatch_40 : decode cX7_takeBatch 40 = .ok (.iload 6, 2) := by decide +kernel
theorem dX7_takeBatch_42 : decode cX7_takeBatch 42 = .ok (.ifCond .ge 9, 3) := by decide +kernel
theorem dX7_takeBatch_45 : decode cX7_takeBatch 45 = .ok (.iinc 3 1, 3) := by decide +kernel
theorem dX7_takeBatch_48 : decode cX7_takeBatch 48 = .ok (.goto 21, 3) := by decide +kernel
theorem dX7_takeBatch_51 : decode cX7_takeBatch 51 = .ok (.aload_n 0, 1) := by decide +kernel
theorem dX7_takeBatch_52 : decode cX7_takeBatch 52 = .ok (.getfield 14, 3) := by decide +kernel
theorem dX7_takeBatch_55 : decode cX7_takeBatch 55 = .ok (.iload 6, 2) := by decide +kernel
theorem dX7_takeBatch_57 : decode cX7_takeBatch 57 = .ok (.aload_n 2, 1) := by decide +kernel
theorem dX7_takeBatch_58 : decode cX7_takeBatch 58 = .ok (.iload 5, 2) := by decide +kernel
theorem dX7_takeBatch_60 : decode cX7_takeBatch 60 = .ok (.invokevirtual 58, 3) := by decide +kernel
theorem dX7_takeBatch_63 : decode cX7_takeBatch 63 = .ok (.ifCond .ne 6, 3) := by decide +kernel
theorem dX7_takeBatch_66 : decode cX7_takeBatch 66 = .ok (.iconst 1, 1) := by decide +kernel
theorem dX7_takeBatch_67 : decode cX7_takeBatch 67 = .ok (.istore 4, 2) := by decide +kernel
theorem dX7_takeBatch_69 : decode cX7_takeBatch 69 = .ok (.iinc 5 1, 3) := by decide +kernel
theorem dX7_takeBatch_72 : decode cX7_takeBatch 72 = .ok (.goto (-56), 3) := by decide +kernel
theorem dX7_takeBatch_75 : decode cX7_takeBatch 75 = .ok (.iload 4, 2) := by decide +kernel
theorem dX7_takeBatch_77 : decode cX7_takeBatch 77 = .ok (.ifCond .eq 6, 3) := by decide +kernel
theorem dX7_takeBatch_80 : decode cX7_takeBatch 80 = .ok (.bipush (-2), 2) := by decide +kernel
theorem dX7_takeBatch_82 : decode cX7_takeBatch 82 = .ok (.ireturn, 1) := by decide +kernel
theorem dX7_takeBatch_83 : decode cX7_takeBatch 83 = .ok (.aload_n 0, 1) := by decide +kernel
theorem dX7_takeBatch_84 : decode cX7_takeBatch 84 = .ok (.getfield 14, 3) := by decide +kernel
theorem dX7_takeBatch_87 : decode cX7_takeBatch 87 = .ok (.invokevirtual 47, 3) := by decide +kernel
theorem dX7_takeBatch_90 : decode cX7_takeBatch 90 = .ok (.iload_n 3, 1) := by decide +kernel
theorem dX7_takeBatch_91 : decode cX7_takeBatch 91 = .ok (.iadd, 1) := by decide +kernel
theorem dX7_takeBatch_92 : decode cX7_takeBatch 92 = .ok (.bipush 64, 2) := by decide +kernel
theorem dX7_takeBatch_94 : decode cX7_takeBatch 94 = .ok (.if_icmp .le 6, 3) := by decide +kernel
theorem dX7_takeBatch_97 : decode cX7_takeBatch 97 = .ok (.bipush (-3), 2) := by decide +kernel
theorem dX7_takeBatch_99 : decode cX7_takeBatch 99 = .ok (.ireturn, 1) := by decide +kernel
theorem dX7_takeBatch_100 : decode cX7_takeBatch 100 = .ok (.iconst 0, 1) := by decide +kernel
theorem dX7_takeBatch_101 : decode cX7_takeBatch 101 = .ok (.istore 5, 2) := by decide +kernel
theorem dX7_takeBatch_103 : decode cX7_takeBatch 103 = .ok (.iload 5, 2) := by decide +kernel
theorem dX7_takeBatch_105 : decode cX7_takeBatch 105 = .ok (.aload_n 2, 1) := by decide +kernel
theorem dX7_takeBatch_106 : decode cX7_takeBatch 106 = .ok (.invokevirtual 47, 3) := by decide +kernel
theorem dX7_takeBatch_109 : decode cX7_takeBatch 109 = .ok (.if_icmp .ge 35, 3) := by decide +kernel
theorem dX7_takeBatch_112 : decode cX7_takeBatch 112 = .ok (.aload_n 0, 1) := by decide +kernel
theorem dX7_takeBatch_113 : decode cX7_takeBatch 113 = .ok (.getfield 14, 3) := by decide +kernel
theorem dX7_takeBatch_116 : decode cX7_takeBatch 116 = .ok (.aload_n 2, 1) := by decide +kernel
theorem dX7_takeBatch_117 : decode cX7_takeBatch 117 = .ok (.iload 5, 2) := by decide +kernel
theorem dX7_takeBatch_119 : decode cX7_takeBatch 119 = .ok (.invokevirtual 51, 3) := by decide +kernel
theorem dX7_takeBatch_122 : decode cX7_takeBatch 122 = .ok (.invokevirtual 55, 3) := by decide +kernel
theorem dX7_takeBatch_125 : decode cX7_takeBatch 125 = .ok (.ifCond .ge 13, 3) := by decide +kernel
theorem dX7_takeBatch_128 : decode cX7_takeBatch 128 = .ok (.aload_n 0, 1) := by decide +kernel
theorem dX7_takeBatch_129 : decode cX7_takeBatch 129 = .ok (.getfield 14, 3) := by decide +kernel
theorem dX7_takeBatch_132 : decode cX7_takeBatch 132 = .ok (.aload_n 2, 1) := by decide +kernel
theorem dX7_takeBatch_133 : decode cX7_takeBatch 133 = .ok (.iload 5, 2) := by decide +kernel
theorem dX7_takeBatch_135 : decode cX7_takeBatch 135 = .ok (.invokevirtual 62, 3) := by decide +kernel
theorem dX7_takeBatch_138 : decode cX7_takeBatch 138 = .ok (.iinc 5 1, 3) := by decide +kernel
theorem dX7_takeBatch_141 : decode cX7_takeBatch 141 = .ok (.goto (-38), 3) := by decide +kernel
theorem dX7_takeBatch_144 : decode cX7_takeBatch 144 = .ok (.iconst 0, 1) := by decide +kernel
theorem dX7_takeBatch_145 : decode cX7_takeBatch 145 = .ok (.ireturn, 1) := by decide +kernel
def b_X7_takeBatch_0 (d : Nat) (G : Nat → zK) (Q : zQ) : zK := o_al 1 <| o_callv (zCt (d - 1) mX0_made) 0 1 <| o_as 2 <| o_c 0 <| o_is 3 <| o_al 1 <| o_callv (zCt (d - 1) mX0_hasClash) 0 1 <| o_is 4 <| o_c 0 <| o_is 5 <| G 16
def b_X7_takeBatch_100 (d : Nat) (G : Nat → zK) (Q : zQ) : zK := o_c 0 <| o_is 5 <| G 103
def b_X7_takeBatch_97 (d : Nat) (G : Nat → zK) (Q : zQ) : zK := o_c (-3) <| t_iret Q
def b_X7_takeBatch_83 (d : Nat) (G : Nat → zK) (Q : zQ) : zK := o_al 0 <| o_gf 5 0 <| o_callv (zCt (d - 1) mX6_count) 4 1 <| o_il 3 <| o_add <| o_c 64 <| t_igt (b_X7_takeBatch_97 d G Q) (b_X7_takeBatch_100 d G Q)
def b_X7_takeBatch_80 (d : Nat) (G : Nat → zK) (Q : zQ) : zK := o_c (-2) <| t_iret Q
def b_X7_takeBatch_75 (d : Nat) (G : Nat → zK) (Q : zQ) : zK := o_il 4 <| t_zeq (b_X7_takeBatch_83 d G Q) (b_X7_takeBatch_80 d G Q)
def b_X7_takeBatch_69 (d : Nat) (G : Nat → zK) (Q : zQ) : zK := o_inc 5 1 <| G 16
def b_X7_takeBatch_66 (d : Nat) (G : Nat → zK) (Q : zQ) : zK := o_c 1 <| o_is 4 <| b_X7_takeBatch_69 d G Q
def b_X7_takeBatch_51 (d : Nat) (G : Nat → zK) (Q : zQ) : zK := o_al 0 <| o_gf 5 0 <| o_il 6 <| o_al 2 <| o_il 5 <| o_callv (zCt (d - 1) mX6_hasSameBlock) 4 4 <| t_zeq (b_X7_takeBatch_66 d G Q) (b_X7_takeBatch_69 d G Q)
def b_X7_takeBatch_45 (d : Nat) (G : Nat → zK) (Q : zQ) : zK := o_inc 3 1 <| b_X7_takeBatch_69 d G Q
def b_X7_takeBatch_25 (d : Nat) (G : Nat → zK) (Q : zQ) : zK := o_al 0 <| o_gf 5 0 <| o_al 2 <| o_il 5 <| o_callv (zCt (d - 1) mX6_nameAt) 4 2 <| o_callv (zCt (d - 1) mX6_slotOf) 4 2 <| o_is 6 <| o_il 6 <| t_zlt (b_X7_takeBatch_45 d G Q) (b_X7_takeBatch_51 d G Q)
def b_X7_takeBatch_16 (d : Nat) (G : Nat → zK) (Q : zQ) : zK := o_il 5 <| o_al 2 <| o_callv (zCt (d - 1) mX6_count) 4 1 <| t_ilt (b_X7_takeBatch_25 d G Q) (b_X7_takeBatch_75 d G Q)
def b_X7_takeBatch_144 (d : Nat) (G : Nat → zK) (Q : zQ) : zK := o_c 0 <| t_iret Q
def b_X7_takeBatch_138 (d : Nat) (G : Nat → zK) (Q : zQ) : zK := o_inc 5 1 <| G 103
def b_X7_takeBatch_128 (d : Nat) (G : Nat → zK) (Q : zQ) : zK := o_al 0 <| o_gf 5 0 <| o_al 2 <| o_il 5 <| o_callv (zCt (d - 1) mX6_appendCopy) 4 3 <| b_X7_takeBatch_138 d G Q
def b_X7_takeBatch_112 (d : Nat) (G : Nat → zK) (Q : zQ) : zK := o_al 0 <| o_gf 5 0 <| o_al 2 <| o_il 5 <| o_callv (zCt (d - 1) mX6_nameAt) 4 2 <| o_callv (zCt (d - 1) mX6_slotOf) 4 2 <| t_zlt (b_X7_takeBatch_128 d G Q) (b_X7_takeBatch_138 d G Q)
def b_X7_takeBatch_103 (d : Nat) (G : Nat → zK) (Q : zQ) : zK := o_il 5 <| o_al 2 <| o_callv (zCt (d - 1) mX6_count) 4 1 <| t_ilt (b_X7_takeBatch_112 d G Q) (b_X7_takeBatch_144 d G Q)
set_option maxRecDepth 20000 in
theorem k_X7_takeBatch_0 {p : Program} {l : Launch} {e : Env} {s : State} {m : MethodId} {args : Array Value} {below : List Frame} {meth : Method} {c : Code} {E : zE} {d : Nat} {Q : zQ} (hd1 : 1 ≤ d) (B : zB p s m args c E mX7_takeBatch.1.cls mX7_takeBatch.2.1 mX7_takeBatch.2.2.1) (hr : meth.sig.returnType = mX7_takeBatch.2.2.2) (hlk : meth.locks = false) : zLk (zG p l e (zrm d) s m args below meth c E mX7_takeBatch.2.2.1 0 0 (MQ below (zQc E Q) args s 0 0 (zaA E))) 0 (b_X7_takeBatch_0 d (zG p l e (zrm d) s m args below meth c E mX7_takeBatch.2.2.1 0 0 (MQ below (zQc E Q) args s 0 0 (zaA E))) Q) := by
  unfold b_X7_takeBatch_0
  exact lk_aln B dX7_takeBatch_0 rfl (lk_callv (M := mX0_made) (T := TX0) (N := 4) B (zhR hd1 (by decide)) ⟨Nat.zero_le _, Nat.zero_le _⟩ cl_X0 (zw5 zw_333 zw_390 zw_331 zw_332 zw_55) (by decide +kernel) dX7_takeBatch_1 (lk_asn B dX7_takeBatch_4 rfl (by decide) (lk_c B dX7_takeBatch_5 (lk_isn B dX7_takeBatch_6 rfl (by decide) (lk_aln B dX7_takeBatch_7 rfl (lk_callv (M := mX0_hasClash) (T := TX0) (N := 4) B (zhR hd1 (by decide)) ⟨Nat.zero_le _, Nat.zero_le _⟩ cl_X0 (zw5 zw_394 zw_391 zw_392 zw_393 zw_55) (by decide +kernel) dX7_takeBatch_8 (lk_is B dX7_takeBatch_11 (by decide) (lk_c B dX7_takeBatch_13 (lk_is B dX7_takeBatch_14 (by decide) (fun _ _ _ h => h))))))))))
set_option maxRecDepth 20000 in
theorem k_X7_takeBatch_100 {p : Program} {l : Launch} {e : Env} {s : State} {m : MethodId} {args : Array Value} {below : List Frame} {meth : Method} {c : Code} {E : zE} {d : Nat} {Q : zQ} (hd1 : 1 ≤ d) (B : zB p s m args c E mX7_takeBatch.1.cls mX7_takeBatch.2.1 mX7_takeBatch.2.2.1) (hr : meth.sig.returnType = mX7_takeBatch.2.2.2) (hlk : meth.locks = false) : zLk (zG p l e (zrm d) s m args below meth c E mX7_takeBatch.2.2.1 0 0 (MQ below (zQc E Q) args s 0 0 (zaA E))) 100 (b_X7_takeBatch_100 d (zG p l e (zrm d) s m args below meth c E mX7_takeBatch.2.2.1 0 0 (MQ below (zQc E Q) args s 0 0 (zaA E))) Q) := by
  unfold b_X7_takeBatch_100
  exact lk_c B dX7_takeBatch_100 (lk_is B dX7_takeBatch_101 (by decide) (fun _ _ _ h => h))
set_option maxRecDepth 20000 in
theorem k_X7_takeBatch_97 {p : Program} {l : Launch} {e : Env} {s : State} {m : MethodId} {args : Array Value} {below : List Frame} {meth : Method} {c : Code} {E : zE} {d : Nat} {Q : zQ} (hd1 : 1 ≤ d) (B : zB p s m args c E mX7_takeBatch.1.cls mX7_takeBatch.2.1 mX7_takeBatch.2.2.1) (hr : meth.sig.returnType = mX7_takeBatch.2.2.2) (hlk : meth.locks = false) : zLk (zG p l e (zrm d) s m args below meth c E mX7_takeBatch.2.2.1 0 0 (MQ below (zQc E Q) args s 0 0 (zaA E))) 97 (b_X7_takeBatch_97 d (zG p l e (zrm d) s m args below meth c E mX7_takeBatch.2.2.1 0 0 (MQ below (zQc E Q) args s 0 0 (zaA E))) Q) := by
  unfold b_X7_takeBatch_97
  exact lk_b B dX7_takeBatch_97 rfl (lk_iret B hr hlk dX7_takeBatch_99)
set_option maxRecDepth 20000 in
theorem k_X7_takeBatch_83 {p : Program} {l : Launch} {e : Env} {s : State} {m : MethodId} {args : Array Value} {below : List Frame} {meth : Method} {c : Code} {E : zE} {d : Nat} {Q : zQ} (hd1 : 1 ≤ d) (B : zB p s m args c E mX7_takeBatch.1.cls mX7_takeBatch.2.1 mX7_takeBatch.2.2.1) (hr : meth.sig.returnType = mX7_takeBatch.2.2.2) (hlk : meth.locks = false) : zLk (zG p l e (zrm d) s m args below meth c E mX7_takeBatch.2.2.1 0 0 (MQ below (zQc E Q) args s 0 0 (zaA E))) 83 (b_X7_takeBatch_83 d (zG p l e (zrm d) s m args below meth c E mX7_takeBatch.2.2.1 0 0 (MQ below (zQc E Q) args s 0 0 (zaA E))) Q) := by
  unfold b_X7_takeBatch_83
  exact lk_aln B dX7_takeBatch_83 rfl (lk_gf (T := TX7) B cl_X7 (by decide) in_X7 zw_119 dX7_takeBatch_84 (lk_callv (M := mX6_count) (T := TX6) (N := 5) B (zhR hd1 (by decide)) ⟨Nat.zero_le _, Nat.zero_le _⟩ cl_X6 (zw5 zw_398 zw_395 zw_396 zw_397 zw_51) (by decide +kernel) dX7_takeBatch_87 (lk_iln B dX7_takeBatch_90 rfl (lk_add B dX7_takeBatch_91 (lk_b B dX7_takeBatch_92 rfl (lk_ile B dX7_takeBatch_94 (by decide) (k_X7_takeBatch_100 hd1 B hr hlk) (k_X7_takeBatch_97 hd1 B hr hlk)))))))
set_option maxRecDepth 20000 in
theorem k_X7_takeBatch_80 {p : Program} {l : Launch} {e : Env} {s : State} {m : MethodId} {args : Array Value} {below : List Frame} {meth : Method} {c : Code} {E : zE} {d : Nat} {Q : zQ} (hd1 : 1 ≤ d) (B : zB p s m args c E mX7_takeBatch.1.cls mX7_takeBatch.2.1 mX7_takeBatch.2.2.1) (hr : meth.sig.returnType = mX7_takeBatch.2.2.2) (hlk : meth.locks = false) : zLk (zG p l e (zrm d) s m args below meth c E mX7_takeBatch.2.2.1 0 0 (MQ below (zQc E Q) args s 0 0 (zaA E))) 80 (b_X7_takeBatch_80 d (zG p l e (zrm d) s m args below meth c E mX7_takeBatch.2.2.1 0 0 (MQ below (zQc E Q) args s 0 0 (zaA E))) Q) := by
  unfold b_X7_takeBatch_80
  exact lk_b B dX7_takeBatch_80 rfl (lk_iret B hr hlk dX7_takeBatch_82)
set_option maxRecDepth 20000 in
theorem k_X7_takeBatch_75 {p : Program} {l : Launch} {e : Env} {s : State} {m : MethodId} {args : Array Value} {below : List Frame} {meth : Method} {c : Code} {E : zE} {d : Nat} {Q : zQ} (hd1 : 1 ≤ d) (B : zB p s m args c E mX7_takeBatch.1.cls mX7_takeBatch.2.1 mX7_takeBatch.2.2.1) (hr : meth.sig.returnType = mX7_takeBatch.2.2.2) (hlk : meth.locks = false) : zLk (zG p l e (zrm d) s m args below meth c E mX7_takeBatch.2.2.1 0 0 (MQ below (zQc E Q) args s 0 0 (zaA E))) 75 (b_X7_takeBatch_75 d (zG p l e (zrm d) s m args below meth c E mX7_takeBatch.2.2.1 0 0 (MQ below (zQc E Q) args s 0 0 (zaA E))) Q) := by
  unfold b_X7_takeBatch_75
  exact lk_il B dX7_takeBatch_75 (lk_zeq B dX7_takeBatch_77 (by decide) (k_X7_takeBatch_83 hd1 B hr hlk) (k_X7_takeBatch_80 hd1 B hr hlk))
set_option maxRecDepth 20000 in
theorem k_X7_takeBatch_69 {p : Program} {l : Launch} {e : Env} {s : State} {m : MethodId} {args : Array Value} {below : List Frame} {meth : Method} {c : Code} {E : zE} {d : Nat} {Q : zQ} (hd1 : 1 ≤ d) (B : zB p s m args c E mX7_takeBatch.1.cls mX7_takeBatch.2.1 mX7_takeBatch.2.2.1) (hr : meth.sig.returnType = mX7_takeBatch.2.2.2) (hlk : meth.locks = false) : zLk (zG p l e (zrm d) s m args below meth c E mX7_takeBatch.2.2.1 0 0 (MQ below (zQc E Q) args s 0 0 (zaA E))) 69 (b_X7_takeBatch_69 d (zG p l e (zrm d) s m args below meth c E mX7_takeBatch.2.2.1 0 0 (MQ below (zQc E Q) args s 0 0 (zaA E))) Q) := by
  unfold b_X7_takeBatch_69
  exact lk_inc B dX7_takeBatch_69 (by decide) (lk_goto B dX7_takeBatch_72 (by decide) (fun _ _ _ h => h))
set_option maxRecDepth 20000 in
theorem k_X7_takeBatch_66 {p : Program} {l : Launch} {e : Env} {s : State} {m : MethodId} {args : Array Value} {below : List Frame} {meth : Method} {c : Code} {E : zE} {d : Nat} {Q : zQ} (hd1 : 1 ≤ d) (B : zB p s m args c E mX7_takeBatch.1.cls mX7_takeBatch.2.1 mX7_takeBatch.2.2.1) (hr : meth.sig.returnType = mX7_takeBatch.2.2.2) (hlk : meth.locks = false) : zLk (zG p l e (zrm d) s m args below meth c E mX7_takeBatch.2.2.1 0 0 (MQ below (zQc E Q) args s 0 0 (zaA E))) 66 (b_X7_takeBatch_66 d (zG p l e (zrm d) s m args below meth c E mX7_takeBatch.2.2.1 0 0 (MQ below (zQc E Q) args s 0 0 (zaA E))) Q) := by
  unfold b_X7_takeBatch_66
  exact lk_c B dX7_takeBatch_66 (lk_is B dX7_takeBatch_67 (by decide) (k_X7_takeBatch_69 hd1 B hr hlk))
set_option maxRecDepth 20000 in
theorem k_X7_takeBatch_51 {p : Program} {l : Launch} {e : Env} {s : State} {m : MethodId} {args : Array Value} {below : List Frame} {meth : Method} {c : Code} {E : zE} {d : Nat} {Q : zQ} (hd1 : 1 ≤ d) (B : zB p s m args c E mX7_takeBatch.1.cls mX7_takeBatch.2.1 mX7_takeBatch.2.2.1) (hr : meth.sig.returnType = mX7_takeBatch.2.2.2) (hlk : meth.locks = false) : zLk (zG p l e (zrm d) s m args below meth c E mX7_takeBatch.2.2.1 0 0 (MQ below (zQc E Q) args s 0 0 (zaA E))) 51 (b_X7_takeBatch_51 d (zG p l e (zrm d) s m args below meth c E mX7_takeBatch.2.2.1 0 0 (MQ below (zQc E Q) args s 0 0 (zaA E))) Q) := by
  unfold b_X7_takeBatch_51
  exact lk_aln B dX7_takeBatch_51 rfl (lk_gf (T := TX7) B cl_X7 (by decide) in_X7 zw_119 dX7_takeBatch_52 (lk_il B dX7_takeBatch_55 (lk_aln B dX7_takeBatch_57 rfl (lk_il B dX7_takeBatch_58 (lk_callv (M := mX6_hasSameBlock) (T := TX6) (N := 5) B (zhR hd1 (by decide)) ⟨Nat.zero_le _, Nat.zero_le _⟩ cl_X6 (zw5 zw_407 zw_404 zw_405 zw_406 zw_51) (by decide +kernel) dX7_takeBatch_60 (lk_zne B dX7_takeBatch_63 (by decide) (k_X7_takeBatch_69 hd1 B hr hlk) (k_X7_takeBatch_66 hd1 B hr hlk)))))))
set_option maxRecDepth 20000 in
theorem k_X7_takeBatch_45 {p : Program} {l : Launch} {e : Env} {s : State} {m : MethodId} {args : Array Value} {below : List Frame} {meth : Method} {c : Code} {E : zE} {d : Nat} {Q : zQ} (hd1 : 1 ≤ d) (B : zB p s m args c E mX7_takeBatch.1.cls mX7_takeBatch.2.1 mX7_takeBatch.2.2.1) (hr : meth.sig.returnType = mX7_takeBatch.2.2.2) (hlk : meth.locks = false) : zLk (zG p l e (zrm d) s m args below meth c E mX7_takeBatch.2.2.1 0 0 (MQ below (zQc E Q) args s 0 0 (zaA E))) 45 (b_X7_takeBatch_45 d (zG p l e (zrm d) s m args below meth c E mX7_takeBatch.2.2.1 0 0 (MQ below (zQc E Q) args s 0 0 (zaA E))) Q) := by
  unfold b_X7_takeBatch_45
  exact lk_inc B dX7_takeBatch_45 (by decide) (lk_goto B dX7_takeBatch_48 (by decide) (k_X7_takeBatch_69 hd1 B hr hlk))
set_option maxRecDepth 20000 in
theorem k_X7_takeBatch_25 {p : Program} {l : Launch} {e : Env} {s : State} {m : MethodId} {args : Array Value} {below : List Frame} {meth : Method} {c : Code} {E : zE} {d : Nat} {Q : zQ} (hd1 : 1 ≤ d) (B : zB p s m args c E mX7_takeBatch.1.cls mX7_takeBatch.2.1 mX7_takeBatch.2.2.1) (hr : meth.sig.returnType = mX7_takeBatch.2.2.2) (hlk : meth.locks = false) : zLk (zG p l e (zrm d) s m args below meth c E mX7_takeBatch.2.2.1 0 0 (MQ below (zQc E Q) args s 0 0 (zaA E))) 25 (b_X7_takeBatch_25 d (zG p l e (zrm d) s m args below meth c E mX7_takeBatch.2.2.1 0 0 (MQ below (zQc E Q) args s 0 0 (zaA E))) Q) := by
  unfold b_X7_takeBatch_25
  exact lk_aln B dX7_takeBatch_25 rfl (lk_gf (T := TX7) B cl_X7 (by decide) in_X7 zw_119 dX7_takeBatch_26 (lk_aln B dX7_takeBatch_29 rfl (lk_il B dX7_takeBatch_30 (lk_callv (M := mX6_nameAt) (T := TX6) (N := 5) B (zhR hd1 (by decide)) ⟨Nat.zero_le _, Nat.zero_le _⟩ cl_X6 (zw5 zw_402 zw_399 zw_400 zw_401 zw_51) (by decide +kernel) dX7_takeBatch_32 (lk_callv (M := mX6_slotOf) (T := TX6) (N := 5) B (zhR hd1 (by decide)) ⟨Nat.zero_le _, Nat.zero_le _⟩ cl_X6 (zw5 zw_310 zw_403 zw_308 zw_309 zw_51) (by decide +kernel) dX7_takeBatch_35 (lk_is B dX7_takeBatch_38 (by decide) (lk_il B dX7_takeBatch_40 (lk_zge B dX7_takeBatch_42 (by decide) (k_X7_takeBatch_51 hd1 B hr hlk) (k_X7_takeBatch_45 hd1 B hr hlk)))))))))
set_option maxRecDepth 20000 in
theorem k_X7_takeBatch_16 {p : Program} {l : Launch} {e : Env} {s : State} {m : MethodId} {args : Array Value} {below : List Frame} {meth : Method} {c : Code} {E : zE} {d : Nat} {Q : zQ} (hd1 : 1 ≤ d) (B : zB p s m args c E mX7_takeBatch.1.cls mX7_takeBatch.2.1 mX7_takeBatch.2.2.1) (hr : meth.sig.returnType = mX7_takeBatch.2.2.2) (hlk : meth.locks = false) : zLk (zG p l e (zrm d) s m args below meth c E mX7_takeBatch.2.2.1 0 0 (MQ below (zQc E Q) args s 0 0 (zaA E))) 16 (b_X7_takeBatch_16 d (zG p l e (zrm d) s m args below meth c E mX7_takeBatch.2.2.1 0 0 (MQ below (zQc E Q) args s 0 0 (zaA E))) Q) := by
  unfold b_X7_takeBatch_16
  exact lk_il B dX7_takeBatch_16 (lk_aln B dX7_takeBatch_18 rfl (lk_callv (M := mX6_count) (T := TX6) (N := 5) B (zhR hd1 (by decide)) ⟨Nat.zero_le _, Nat.zero_le _⟩ cl_X6 (zw5 zw_398 zw_395 zw_396 zw_397 zw_51) (by decide +kernel) dX7_takeBatch_19 (lk_ige B dX7_takeBatch_22 (by decide) (k_X7_takeBatch_75 hd1 B hr hlk) (k_X7_takeBatch_25 hd1 B hr hlk))))
set_option maxRecDepth 20000 in
theorem k_X7_takeBatch_144 {p : Program} {l : Launch} {e : Env} {s : State} {m : MethodId} {args : Array Value} {below : List Frame} {meth : Method} {c : Code} {E : zE} {d : Nat} {Q : zQ} (hd1 : 1 ≤ d) (B : zB p s m args c E mX7_takeBatch.1.cls mX7_takeBatch.2.1 mX7_takeBatch.2.2.1) (hr : meth.sig.returnType = mX7_takeBatch.2.2.2) (hlk : meth.locks = false) : zLk (zG p l e (zrm d) s m args below meth c E mX7_takeBatch.2.2.1 0 0 (MQ below (zQc E Q) args s 0 0 (zaA E))) 144 (b_X7_takeBatch_144 d (zG p l e (zrm d) s m args below meth c E mX7_takeBatch.2.2.1 0 0 (MQ below (zQc E Q) args s 0 0 (zaA E))) Q) := by
  unfold b_X7_takeBatch_144
  exact lk_c B dX7_takeBatch_144 (lk_iret B hr hlk dX7_takeBatch_145)
set_option maxRecDepth 20000 in
theorem k_X7_takeBatch_138 {p : Program} {l : Launch} {e : Env} {s : State} {m : MethodId} {args : Array Value} {below : List Frame} {meth : Method} {c : Code} {E : zE} {d : Nat} {Q : zQ} (hd1 : 1 ≤ d) (B : zB p s m args c E mX7_takeBatch.1.cls mX7_takeBatch.2.1 mX7_takeBatch.2.2.1) (hr : meth.sig.returnType = mX7_takeBatch.2.2.2) (hlk : meth.locks = false) : zLk (zG p l e (zrm d) s m args below meth c E mX7_takeBatch.2.2.1 0 0 (MQ below (zQc E Q) args s 0 0 (zaA E))) 138 (b_X7_takeBatch_138 d (zG p l e (zrm d) s m args below meth c E mX7_takeBatch.2.2.1 0 0 (MQ below (zQc E Q) args s 0 0 (zaA E))) Q) := by
  unfold b_X7_takeBatch_138
  exact lk_inc B dX7_takeBatch_138 (by decide) (lk_goto B dX7_takeBatch_141 (by decide) (fun _ _ _ h => h))
set_option maxRecDepth 20000 in
theorem k_X7_takeBatch_128 {p : Program} {l : Launch} {e : Env} {s : State} {m : MethodId} {args : Array Value} {below : List Frame} {meth : Method} {c : Code} {E : zE} {d : Nat} {Q : zQ} (hd1 : 1 ≤ d) (B : zB p s m args c E mX7_takeBatch.1.cls mX7_takeBatch.2.1 mX7_takeBatch.2.2.1) (hr : meth.sig.returnType = mX7_takeBatch.2.2.2) (hlk : meth.locks = false) : zLk (zG p l e (zrm d) s m args below meth c E mX7_takeBatch.2.2.1 0 0 (MQ below (zQc E Q) args s 0 0 (zaA E))) 128 (b_X7_takeBatch_128 d (zG p l e (zrm d) s m args below meth c E mX7_takeBatch.2.2.1 0 0 (MQ below (zQc E Q) args s 0 0 (zaA E))) Q) := by
  unfold b_X7_takeBatch_128
  exact lk_aln B dX7_takeBatch_128 rfl (lk_gf (T := TX7) B cl_X7 (by decide) in_X7 zw_119 dX7_takeBatch_129 (lk_aln B dX7_takeBatch_132 rfl (lk_il B dX7_takeBatch_133 (lk_callv (M := mX6_appendCopy) (T := TX6) (N := 5) B (zhR hd1 (by decide)) ⟨Nat.zero_le _, Nat.zero_le _⟩ cl_X6 (zw5 zw_412 zw_409 zw_410 zw_411 zw_51) (by decide +kernel) dX7_takeBatch_135 (k_X7_takeBatch_138 hd1 B hr hlk)))))
set_option maxRecDepth 20000 in
theorem k_X7_takeBatch_112 {p : Program} {l : Launch} {e : Env} {s : State} {m : MethodId} {args : Array Value} {below : List Frame} {meth : Method} {c : Code} {E : zE} {d : Nat} {Q : zQ} (hd1 : 1 ≤ d) (B : zB p s m args c E mX7_takeBatch.1.cls mX7_takeBatch.2.1 mX7_takeBatch.2.2.1) (hr : meth.sig.returnType = mX7_takeBatch.2.2.2) (hlk : meth.locks = false) : zLk (zG p l e (zrm d) s m args below meth c E mX7_takeBatch.2.2.1 0 0 (MQ below (zQc E Q) args s 0 0 (zaA E))) 112 (b_X7_takeBatch_112 d (zG p l e (zrm d) s m args below meth c E mX7_takeBatch.2.2.1 0 0 (MQ below (zQc E Q) args s 0 0 (zaA E))) Q) := by
  unfold b_X7_takeBatch_112
  exact lk_aln B dX7_takeBatch_112 rfl (lk_gf (T := TX7) B cl_X7 (by decide) in_X7 zw_119 dX7_takeBatch_113 (lk_aln B dX7_takeBatch_116 rfl (lk_il B dX7_takeBatch_117 (lk_callv (M := mX6_nameAt) (T := TX6) (N := 5) B (zhR hd1 (by decide)) ⟨Nat.zero_le _, Nat.zero_le _⟩ cl_X6 (zw5 zw_402 zw_399 zw_400 zw_401 zw_51) (by decide +kernel) dX7_takeBatch_119 (lk_callv (M := mX6_slotOf) (T := TX6) (N := 5) B (zhR hd1 (by decide)) ⟨Nat.zero_le _, Nat.zero_le _⟩ cl_X6 (zw5 zw_310 zw_403 zw_308 zw_309 zw_51) (by decide +kernel) dX7_takeBatch_122 (lk_zge B dX7_takeBatch_125 (by decide) (k_X7_takeBatch_138 hd1 B hr hlk) (k_X7_takeBatch_128 hd1 B hr hlk)))))))
set_option maxRecDepth 20000 in
theorem k_X7_takeBatch_103 {p : Program} {l : Launch} {e : Env} {s : State} {m : MethodId} {args : Array Value} {below : List Frame} {meth : Method} {c : Code} {E : zE} {d : Nat} {Q : zQ} (hd1 : 1 ≤ d) (B : zB p s m args c E mX7_takeBatch.1.cls mX7_takeBatch.2.1 mX7_takeBatch.2.2.1) (hr : meth.sig.returnType = mX7_takeBatch.2.2.2) (hlk : meth.locks = false) : zLk (zG p l e (zrm d) s m args below meth c E mX7_takeBatch.2.2.1 0 0 (MQ below (zQc E Q) args s 0 0 (zaA E))) 103 (b_X7_takeBatch_103 d (zG p l e (zrm d) s m args below meth c E mX7_takeBatch.2.2.1 0 0 (MQ below (zQc E Q) args s 0 0 (zaA E))) Q) := by
  unfold b_X7_takeBatch_103
  exact lk_il B dX7_takeBatch_103 (lk_aln B dX7_takeBatch_105 rfl (lk_callv (M := mX6_count) (T := TX6) (N := 5) B (zhR hd1 (by decide)) ⟨Nat.zero_le _, Nat.zero_le _⟩ cl_X6 (zw5 zw_398 zw_395 zw_396 zw_397 zw_51) (by decide +kernel) dX7_takeBatch_106 (lk_ige B dX7_takeBatch_109 (by decide) (k_X7_takeBatch_144 hd1 B hr hlk) (k_X7_takeBatch_112 hd1 B hr hlk))))
def S_X7_takeBatch (d : Nat) (G : Nat → zK) (Q : zQ) : Prop := zLk G 0 (b_X7_takeBatch_0 d G Q) ∧ zLk G 16 (b_X7_takeBatch_16 d G Q) ∧ zLk G 103 (b_X7_takeBatch_103 d G Q)
theorem s_X7_takeBatch_0 {d : Nat} {G : Nat → zK} {Q : zQ} (h : S_X7_takeBatch d G Q) {ls st : List zV} {μ : zM} (k : b_X7_takeBatch_0 d G Q ls st μ) : G 0 ls st μ := h.1 ls st μ k
theorem s_X7_takeBatch_16 {d : Nat} {G : Nat → zK} {Q : zQ} (h : S_X7_takeBatch d G Q) {ls st : List zV} {μ : zM} (k : b_X7_takeBatch_16 d G Q ls st μ) : G 16 ls st μ := h.2.1 ls st μ k
theorem s_X7_takeBatch_103 {d : Nat} {G : Nat → zK} {Q : zQ} (h : S_X7_takeBatch d G Q) {ls st : List zV} {μ : zM} (k : b_X7_takeBatch_103 d G Q ls st μ) : G 103 ls st μ := h.2.2 ls st μ k
theorem of_X7_takeBatch {d : Nat} {a0 a1 : zV} {μ : zM} {Q : zQ} (hd1 : 1 ≤ d) (h : ∀ G : Nat → zK, S_X7_takeBatch d G Q → G 0 [a0, a1, .inr none, .inr none, .inr none, .inr none, .inr none] [] μ) : zCt d mX7_takeBatch [a0, a1] μ Q := zCt.mk (by decide) (Nat.le_of_ble_eq_true rfl) (fun p l e s m args below meth c E B hr hlk => h _ ⟨k_X7_takeBatch_0 hd1 B hr hlk, k_X7_takeBatch_16 hd1 B hr hlk, k_X7_takeBatch_103 hd1 B hr hlk⟩)
theorem dX7_pinBlock_0 : decode cX7_pinBlock 0 = .ok (.aload_n 0, 1) := by decide +kernel
theorem dX7_pinBlock_1 : decode cX7_pinBlock 1 = .ok (.getfield 14, 3) := by decide +kernel
theorem dX7_pinBlock_4 : decode cX7_pinBlock 4 = .ok (.iload_n 1, 1) := by decide +kernel
theorem dX7_pinBlock_5 : decode cX7_pinBlock 5 = .ok (.invokevirtual 55, 3) := by decide +kernel
theorem dX7_pinBlock_8 : decode cX7_pinBlock 8 = .ok (.ifCond .lt 19, 3) := by decide +kernel
theorem dX7_pinBlock_11 : decode cX7_pinBlock 11 = .ok (.aload_n 0, 1) := by decide +kernel
theorem dX7_pinBlock_12 : decode cX7_pinBlock 12 = .ok (.getfield 23, 3) := by decide +kernel
theorem dX7_pinBlock_15 : decode cX7_pinBlock 15 = .ok (.iload_n 1, 1) := by decide +kernel
theorem dX7_pinBlock_16 : decode cX7_pinBlock 16 = .ok (.iload_n 2, 1) := by decide +kernel
theorem dX7_pinBlock_17 : decode cX7_pinBlock 17 = .ok (.invokevirtual 66, 3) := by decide +kernel
theorem dX7_pinBlock_20 : decode cX7_pinBlock 20 = .ok (.ifCond .eq 7, 3) := by decide +kernel
theorem dX7_pinBlock_23 : decode cX7_pinBlock 23 = .ok (.iconst 1, 1) := by decide +kernel
theorem dX7_pinBlock_24 : decode cX7_pinBlock 24 = .ok (.goto 4, 3) := by decide +kernel
theorem dX7_pinBlock_27 : decode cX7_pinBlock 27 = .ok (.iconst 0, 1) := by decide +kernel
theorem dX7_pinBlock_28 : decode cX7_pinBlock 28 = .ok (.ireturn, 1) := by decide +kernel
def b_X7_pinBlock_28 (d : Nat) (G : Nat → zK) (Q : zQ) : zK := t_zret Q
def b_X7_pinBlock_27 (d : Nat) (G : Nat → zK) (Q : zQ) : zK := o_c 0 <| b_X7_pinBlock_28 d G Q
def b_X7_pinBlock_23 (d : Nat) (G : Nat → zK) (Q : zQ) : zK := o_c 1 <| b_X7_pinBlock_28 d G Q
def b_X7_pinBlock_11 (d : Nat) (G : Nat → zK) (Q : zQ) : zK := o_al 0 <| o_gf 5 1 <| o_il 1 <| o_il 2 <| o_callv (zCt (d - 1) mX5_insert) 3 3 <| t_zeq (b_X7_pinBlock_27 d G Q) (b_X7_pinBlock_23 d G Q)
def b_X7_pinBlock_0 (d : Nat) (G : Nat → zK) (Q : zQ) : zK := o_al 0 <| o_gf 5 0 <| o_il 1 <| o_callv (zCt (d - 1) mX6_slotOf) 4 2 <| t_zlt (b_X7_pinBlock_27 d G Q) (b_X7_pinBlock_11 d G Q)
set_option maxRecDepth 20000 in
theorem k_X7_pinBlock_28 {p : Program} {l : Launch} {e : Env} {s : State} {m : MethodId} {args : Array Value} {below : List Frame} {meth : Method} {c : Code} {E : zE} {d : Nat} {Q : zQ} (hd1 : 1 ≤ d) (B : zB p s m args c E mX7_pinBlock.1.cls mX7_pinBlock.2.1 mX7_pinBlock.2.2.1) (hr : meth.sig.returnType = mX7_pinBlock.2.2.2) (hlk : meth.locks = false) : zLk (zG p l e (zrm d) s m args below meth c E mX7_pinBlock.2.2.1 0 0 (MQ below (zQc E Q) args s 0 0 (zaA E))) 28 (b_X7_pinBlock_28 d (zG p l e (zrm d) s m args below meth c E mX7_pinBlock.2.2.1 0 0 (MQ below (zQc E Q) args s 0 0 (zaA E))) Q) := by
  unfold b_X7_pinBlock_28
  exact lk_zret B hr hlk dX7_pinBlock_28
set_option maxRecDepth 20000 in
theorem k_X7_pinBlock_27 {p : Program} {l : Launch} {e : Env} {s : State} {m : MethodId} {args : Array Value} {below : List Frame} {meth : Method} {c : Code} {E : zE} {d : Nat} {Q : zQ} (hd1 : 1 ≤ d) (B : zB p s m args c E mX7_pinBlock.1.cls mX7_pinBlock.2.1 mX7_pinBlock.2.2.1) (hr : meth.sig.returnType = mX7_pinBlock.2.2.2) (hlk : meth.locks = false) : zLk (zG p l e (zrm d) s m args below meth c E mX7_pinBlock.2.2.1 0 0 (MQ below (zQc E Q) args s 0 0 (zaA E))) 27 (b_X7_pinBlock_27 d (zG p l e (zrm d) s m args below meth c E mX7_pinBlock.2.2.1 0 0 (MQ below (zQc E Q) args s 0 0 (zaA E))) Q) := by
  unfold b_X7_pinBlock_27
  exact lk_c B dX7_pinBlock_27 (k_X7_pinBlock_28 hd1 B hr hlk)
set_option maxRecDepth 20000 in
theorem k_X7_pinBlock_23 {p : Program} {l : Launch} {e : Env} {s : State} {m : MethodId} {args : Array Value} {below : List Frame} {meth : Method} {c : Code} {E : zE} {d : Nat} {Q : zQ} (hd1 : 1 ≤ d) (B : zB p s m args c E mX7_pinBlock.1.cls mX7_pinBlock.2.1 mX7_pinBlock.2.2.1) (hr : meth.sig.returnType = mX7_pinBlock.2.2.2) (hlk : meth.locks = false) : zLk (zG p l e (zrm d) s m args below meth c E mX7_pinBlock.2.2.1 0 0 (MQ below (zQc E Q) args s 0 0 (zaA E))) 23 (b_X7_pinBlock_23 d (zG p l e (zrm d) s m args below meth c E mX7_pinBlock.2.2.1 0 0 (MQ below (zQc E Q) args s 0 0 (zaA E))) Q) := by
  unfold b_X7_pinBlock_23
  exact lk_c B dX7_pinBlock_23 (lk_goto B dX7_pinBlock_24 (by decide) (k_X7_pinBlock_28 hd1 B hr hlk))
set_option maxRecDepth 20000 in
theorem k_X7_pinBlock_11 {p : Program} {l : Launch} {e : Env} {s : State} {m : MethodId} {args : Array Value} {below : List Frame} {meth : Method} {c : Code} {E : zE} {d : Nat} {Q : zQ} (hd1 : 1 ≤ d) (B : zB p s m args c E mX7_pinBlock.1.cls mX7_pinBlock.2.1 mX7_pinBlock.2.2.1) (hr : meth.sig.returnType = mX7_pinBlock.2.2.2) (hlk : meth.locks = false) : zLk (zG p l e (zrm d) s m args below meth c E mX7_pinBlock.2.2.1 0 0 (MQ below (zQc E Q) args s 0 0 (zaA E))) 11 (b_X7_pinBlock_11 d (zG p l e (zrm d) s m args below meth c E mX7_pinBlock.2.2.1 0 0 (MQ below (zQc E Q) args s 0 0 (zaA E))) Q) := by
  unfold b_X7_pinBlock_11
  exact lk_aln B dX7_pinBlock_11 rfl (lk_gf (T := TX7) B cl_X7 (by decide) in_X7 zw_120 dX7_pinBlock_12 (lk_iln B dX7_pinBlock_15 rfl (lk_iln B dX7_pinBlock_16 rfl (lk_callv (M := mX5_insert) (T := TX5) (N := 3) B (zhR hd1 (by decide)) ⟨Nat.zero_le _, Nat.zero_le _⟩ cl_X5 (zw5 zw_597 zw_594 zw_595 zw_596 zw_52) (by decide +kernel) dX7_pinBlock_17 (lk_zeq B dX7_pinBlock_20 (by decide) (k_X7_pinBlock_27 hd1 B hr hlk) (k_X7_pinBlock_23 hd1 B hr hlk))))))
set_option maxRecDepth 20000 in
theorem k_X7_pinBlock_0 {p : Program} {l : Launch} {e : Env} {s : State} {m : MethodId} {args : Array Value} {below : List Frame} {meth : Method} {c : Code} {E : zE} {d : Nat} {Q : zQ} (hd1 : 1 ≤ d) (B : zB p s m args c E mX7_pinBlock.1.cls mX7_pinBlock.2.1 mX7_pinBlock.2.2.1) (hr : meth.sig.returnType = mX7_pinBlock.2.2.2) (hlk : meth.locks = false) : zLk (zG p l e (zrm d) s m args below meth c E mX7_pinBlock.2.2.1 0 0 (MQ below (zQc E Q) args s 0 0 (zaA E))) 0 (b_X7_pinBlock_0 d (zG p l e (zrm d) s m args below meth c E mX7_pinBlock.2.2.1 0 0 (MQ below (zQc E Q) args s 0 0 (zaA E))) Q) := by
  unfold b_X7_pinBlock_0
  exact lk_aln B dX7_pinBlock_0 rfl (lk_gf (T := TX7) B cl_X7 (by decide) in_X7 zw_119 dX7_pinBlock_1 (lk_iln B dX7_pinBlock_4 rfl (lk_callv (M := mX6_slotOf) (T := TX6) (N := 5) B (zhR hd1 (by decide)) ⟨Nat.zero_le _, Nat.zero_le _⟩ cl_X6 (zw5 zw_310 zw_403 zw_308 zw_309 zw_51) (by decide +kernel) dX7_pinBlock_5 (lk_zlt B dX7_pinBlock_8 (by decide) (k_X7_pinBlock_27 hd1 B hr hlk) (k_X7_pinBlock_11 hd1 B hr hlk)))))
def S_X7_pinBlock (d : Nat) (G : Nat → zK) (Q : zQ) : Prop := zLk G 0 (b_X7_pinBlock_0 d G Q)
theorem s_X7_pinBlock_0 {d : Nat} {G : Nat → zK} {Q : zQ} (h : S_X7_pinBlock d G Q) {ls st : List zV} {μ : zM} (k : b_X7_pinBlock_0 d G Q ls st μ) : G 0 ls st μ := h ls st μ k
theorem of_X7_pinBlock {d : Nat} {a0 a1 a2 : zV} {μ : zM} {Q : zQ} (hd1 : 1 ≤ d) (h : ∀ G : Nat → zK, S_X7_pinBlock d G Q → G 0 [a0, a1, a2] [] μ) : zCt d mX7_pinBlock [a0, a1, a2] μ Q := zCt.mk (by decide) (Nat.le_of_ble_eq_true rfl) (fun p l e s m args below meth c E B hr hlk => h _ (k_X7_pinBlock_0 hd1 B hr hlk))
theorem dX7_unpinBlock_0 : decode cX7_unpinBlock 0 = .ok (.aload_n 0, 1) := by decide +kernel
theorem dX7_unpinBlock_1 : decode cX7_unpinBlock 1 = .ok (.getfield 23, 3) := by decide +kernel
theorem dX7_unpinBlock_4 : decode cX7_unpinBlock 4 = .ok (.iload_n 1, 1) := by decide +kernel
theorem dX7_unpinBlock_5 : decode cX7_unpinBlock 5 = .ok (.iload_n 2, 1) := by decide +kernel
theorem dX7_unpinBlock_6 : decode cX7_unpinBlock 6 = .ok (.invokevirtual 70, 3) := by decide +kernel
theorem dX7_unpinBlock_9 : decode cX7_unpinBlock 9 = .ok (.ireturn, 1) := by decide +kernel
def b_X7_unpinBlock_0 (d : Nat) (G : Nat → zK) (Q : zQ) : zK := o_al 0 <| o_gf 5 1 <| o_il 1 <| o_il 2 <| o_callv (zCt (d - 1) mX5_remove) 3 3 <| t_zret Q
set_option maxRecDepth 20000 in
theorem k_X7_unpinBlock_0 {p : Program} {l : Launch} {e : Env} {s : State} {m : MethodId} {args : Array Value} {below : List Frame} {meth : Method} {c : Code} {E : zE} {d : Nat} {Q : zQ} (hd1 : 1 ≤ d) (B : zB p s m args c E mX7_unpinBlock.1.cls mX7_unpinBlock.2.1 mX7_unpinBlock.2.2.1) (hr : meth.sig.returnType = mX7_unpinBlock.2.2.2) (hlk : meth.locks = false) : zLk (zG p l e (zrm d) s m args below meth c E mX7_unpinBlock.2.2.1 0 0 (MQ below (zQc E Q) args s 0 0 (zaA E))) 0 (b_X7_unpinBlock_0 d (zG p l e (zrm d) s m args below meth c E mX7_unpinBlock.2.2.1 0 0 (MQ below (zQc E Q) args s 0 0 (zaA E))) Q) := by
  unfold b_X7_unpinBlock_0
  exact lk_aln B dX7_unpinBlock_0 rfl (lk_gf (T := TX7) B cl_X7 (by decide) in_X7 zw_120 dX7_unpinBlock_1 (lk_iln B dX7_unpinBlock_4 rfl (lk_iln B dX7_unpinBlock_5 rfl (lk_callv (M := mX5_remove) (T := TX5) (N := 3) B (zhR hd1 (by decide)) ⟨Nat.zero_le _, Nat.zero_le _⟩ cl_X5 (zw5 zw_609 zw_606 zw_607 zw_608 zw_52) (by decide +kernel) dX7_unpinBlock_6 (lk_zret B hr hlk dX7_unpinBlock_9)))))
def S_X7_unpinBlock (d : Nat) (G : Nat → zK) (Q : zQ) : Prop := zLk G 0 (b_X7_unpinBlock_0 d G Q)
theorem s_X7_unpinBlock_0 {d : Nat} {G : Nat → zK} {Q : zQ} (h : S_X7_unpinBlock d G Q) {ls st : List zV} {μ : zM} (k : b_X7_unpinBlock_0 d G Q ls st μ) : G 0 ls st μ := h ls st μ k
theorem of_X7_unpinBlock {d : Nat} {a0 a1 a2 : zV} {μ : zM} {Q : zQ} (hd1 : 1 ≤ d) (h : ∀ G : Nat → zK, S_X7_unpinBlock d G Q → G 0 [a0, a1, a2] [] μ) : zCt d mX7_unpinBlock [a0, a1, a2] μ Q := zCt.mk (by decide) (Nat.le_of_ble_eq_true rfl) (fun p l e s m args below meth c E B hr hlk => h _ (k_X7_unpinBlock_0 hd1 B hr hlk))
theorem dX7_sweep_0 : decode cX7_sweep 0 = .ok (.aload_n 1, 1) := by decide +kernel
theorem dX7_sweep_1 : decode cX7_sweep 1 = .ok (.invokevirtual 73, 3) := by decide +kernel
theorem dX7_sweep_4 : decode cX7_sweep 4 = .ok (.aload_n 0, 1) := by decide +kernel
theorem dX7_sweep_5 : decode cX7_sweep 5 = .ok (.getfield 23, 3) := by decide +kernel
theorem dX7_sweep_8 : decode cX7_sweep 8 = .ok (.aload_n 0, 1) := by decide +kernel
theorem dX7_sweep_9 : decode cX7_sweep 9 = .ok (.getfield 14, 3) := by decide +kernel
theorem dX7_sweep_12 : decode cX7_sweep 12 = .ok (.aload_n 1, 1) := by decide +kernel
theorem dX7_sweep_13 : decode cX7_sweep 13 = .ok (.invokevirtual 78, 3) := by decide +kernel
theorem dX7_sweep_16 : decode cX7_sweep 16 = .ok (.aload_n 0, 1) := by decide +kernel
theorem dX7_sweep_17 : decode cX7_sweep 17 = .ok (.invokevirtual 82, 3) := by decide +kernel
theorem dX7_sweep_20 : decode cX7_sweep 20 = .ok (.ifCond .eq 15, 3) := by decide +kernel
theorem dX7_sweep_23 : decode cX7_sweep 23 = .ok (.aload_n 1, 1) := by decide +kernel
theorem dX7_sweep_24 : decode cX7_sweep 24 = .ok (.aload_n 0, 1) := by decide +kernel
theorem dX7_sweep_25 : decode cX7_sweep 25 = .ok (.getfield 14, 3) := by decide +kernel
theorem dX7_sweep_28 : decode cX7_sweep 28 = .ok (.aload_n 0, 1) := by decide +kernel
theorem dX7_sweep_29 : decode cX7_sweep 29 = .ok (.getfield 34, 3) := by decide +kernel
theorem dX7_sweep_32 : decode cX7_sweep 32 = .ok (.invokevirtual 85, 3) := by decide +kernel
theorem dX7_sweep_35 : decode cX7_sweep 35 = .ok (.aload_n 0, 1) := by decide +kernel
theorem dX7_sweep_36 : decode cX7_sweep 36 = .ok (.getfield 23, 3) := by decide +kernel
theorem dX7_sweep_39 : decode cX7_sweep 39 = .ok (.aload_n 0, 1) := by decide +kernel
theorem dX7_sweep_40 : decode cX7_sweep 40 = .ok (.getfield 14, 3) := by decide +kernel
theorem dX7_sweep_43 : decode cX7_sweep 43 = .ok (.aload_n 1, 1) := by decide +kernel
theorem dX7_sweep_44 : decode cX7_sweep 44 = .ok (.invokevirtual 88, 3) := by decide +kernel
theorem dX7_sweep_47 : decode cX7_sweep 47 = .ok (.iconst 0, 1) := by decide +kernel
theorem dX7_sweep_48 : decode cX7_sweep 48 = .ok (.istore_n 2, 1) := by decide +kernel
theorem dX7_sweep_49 : decode cX7_sweep 49 = .ok (.aload_n 0, 1) := by decide +kernel
theorem dX7_sweep_50 : decode cX7_sweep 50 = .ok (.getfield 14, 3) := by decide +kernel
theorem dX7_sweep_53 : decode cX7_sweep 53 = .ok (.invokevirtual 47, 3) := by decide +kernel
theorem dX7_sweep_56 : decode cX7_sweep 56 = .ok (.iconst 1, 1) := by decide +kernel
theorem dX7_sweep_57 : decode cX7_sweep 57 = .ok (.isub, 1) := by decide +kernel
theorem dX7_sweep_58 : decode cX7_sweep 58 = .ok (.istore_n 3, 1) := by decide +kernel
theorem dX7_sweep_59 : decode cX7_sweep 59 = .ok (.iload_n 3, 1) := by decide +kernel
theorem dX7_sweep_60 : decode cX7_sweep 60 = .ok (.ifCond .lt 28, 3) := by decide +kernel
theorem dX7_sweep_63 : decode cX7_sweep 63 = .ok (.aload_n 1, 1) := by decide +kernel
theorem dX7_sweep_64 : decode cX7_sweep 64 = .ok (.iload_n 3, 1) := by decide +kernel
theorem dX7_sweep_65 : decode cX7_sweep 65 = .ok (.invokevirtual 91, 3) := by decide +kernel
theorem dX7_sweep_68 : decode cX7_sweep 68 = .ok (.ifCond .ne 14, 3) := by decide +kernel
theorem dX7_sweep_71 : decode cX7_sweep 71 = .ok (.aload_n 0, 1) := by decide +kernel
theorem dX7_sweep_72 : decode cX7_sweep 72 = .ok (.getfield 14, 3) := by decide +kernel
theorem dX7_sweep_75 : decode cX7_sweep 75 = .ok (.iload_n 3, 1) := by decide +kernel
theorem dX7_sweep_76 : decode cX7_sweep 76 = .ok (.invokevirtual 95, 3) := by decide +kernel
theorem dX7_sweep_79 : decode cX7_sweep 79 = .ok (.iinc 2 1, 3) := by decide +kernel
theorem dX7_sweep_82 : decode cX7_sweep 82 = .ok (.iinc 3 (-1), 3) := by decide +kernel
theorem dX7_sweep_85 : decode cX7_sweep 85 = .ok (.goto (-26), 3) := by decide +kernel
theorem dX7_sweep_88 : decode cX7_sweep 88 = .ok (.iload_n 2, 1) := by decide +kernel
theorem dX7_sweep_89 : decode cX7_sweep 89 = .ok (.ireturn, 1) := by decide +kernel
def b_X7_sweep_35 (d : Nat) (G : Nat → zK) (Q : zQ) : zK := o_al 0 <| o_gf 5 1 <| o_al 0 <| o_gf 5 0 <| o_al 1 <| o_callv (zCt (d - 1) mX5_reachPinned) 3 3 <| o_c 0 <| o_is 2 <| o_al 0 <| o_gf 5 0 <| o_callv (zCt (d - 1) mX6_count) 4 1 <| o_c 1 <| o_sub <| o_is 3 <| G 59
def b_X7_sweep_23 (d : Nat) (G : Nat → zK) (Q : zQ) : zK := o_al 1 <| o_al 0 <| o_gf 5 0 <| o_al 0 <| o_gf 5 4 <| o_callv (zCt (d - 1) mX9_goUnder) 7 3 <| b_X7_sweep_35 d G Q
def b_X7_sweep_0 (d : Nat) (G : Nat → zK) (Q : zQ) : zK := o_al 1 <| o_callv (zCt (d - 1) mX9_restart) 7 1 <| o_al 0 <| o_gf 5 1 <| o_al 0 <| o_gf 5 0 <| o_al 1 <| o_callv (zCt (d - 1) mX5_reachUnderDeep) 3 3 <| o_al 0 <| o_callv (zCt (d - 1) mX7_isFetching) 5 1 <| t_zeq (b_X7_sweep_35 d G Q) (b_X7_sweep_23 d G Q)
def b_X7_sweep_88 (d : Nat) (G : Nat → zK) (Q : zQ) : zK := o_il 2 <| t_iret Q
def b_X7_sweep_82 (d : Nat) (G : Nat → zK) (Q : zQ) : zK := o_inc 3 (-1) <| G 59
def b_X7_sweep_71 (d : Nat) (G : Nat → zK) (Q : zQ) : zK := o_al 0 <| o_gf 5 0 <| o_il 3 <| o_callv (zCt (d - 1) mX6_removeSlot) 4 2 <| o_inc 2 1 <| b_X7_sweep_82 d G Q
def b_X7_sweep_63 (d : Nat) (G : Nat → zK) (Q : zQ) : zK := o_al 1 <| o_il 3 <| o_callv (zCt (d - 1) mX9_hasReached) 7 2 <| t_zeq (b_X7_sweep_71 d G Q) (b_X7_sweep_82 d G Q)
def b_X7_sweep_59 (d : Nat) (G : Nat → zK) (Q : zQ) : zK := o_il 3 <| t_zlt (b_X7_sweep_88 d G Q) (b_X7_sweep_63 d G Q)
set_option maxRecDepth 20000 in
theorem k_X7_sweep_35 {p : Program} {l : Launch} {e : Env} {s : State} {m : MethodId} {args : Array Value} {below : List Frame} {meth : Method} {c : Code} {E : zE} {d : Nat} {Q : zQ} (hd1 : 1 ≤ d) (B : zB p s m args c E mX7_sweep.1.cls mX7_sweep.2.1 mX7_sweep.2.2.1) (hr : meth.sig.returnType = mX7_sweep.2.2.2) (hlk : meth.locks = false) : zLk (zG p l e (zrm d) s m args below meth c E mX7_sweep.2.2.1 0 0 (MQ below (zQc E Q) args s 0 0 (zaA E))) 35 (b_X7_sweep_35 d (zG p l e (zrm d) s m args below meth c E mX7_sweep.2.2.1 0 0 (MQ below (zQc E Q) args s 0 0 (zaA E))) Q) := by
  unfold b_X7_sweep_35
  exact lk_aln B dX7_sweep_35 rfl (lk_gf (T := TX7) B cl_X7 (by decide) in_X7 zw_120 dX7_sweep_36 (lk_aln B dX7_sweep_39 rfl (lk_gf (T := TX7) B cl_X7 (by decide) in_X7 zw_119 dX7_sweep_40 (lk_aln B dX7_sweep_43 rfl (lk_callv (M := mX5_reachPinned) (T := TX5) (N := 3) B (zhR hd1 (by decide)) ⟨Nat.zero_le _, Nat.zero_le _⟩ cl_X5 (zw5 zw_627 zw_624 zw_625 zw_626 zw_52) (by decide +kernel) dX7_sweep_44 (lk_c B dX7_sweep_47 (lk_isn B dX7_sweep_48 rfl (by decide) (lk_aln B dX7_sweep_49 rfl (lk_gf (T := TX7) B cl_X7 (by decide) in_X7 zw_119 dX7_sweep_50 (lk_callv (M := mX6_count) (T := TX6) (N := 5) B (zhR hd1 (by decide)) ⟨Nat.zero_le _, Nat.zero_le _⟩ cl_X6 (zw5 zw_398 zw_395 zw_396 zw_397 zw_51) (by decide +kernel) dX7_sweep_53 (lk_c B dX7_sweep_56 (lk_sub B dX7_sweep_57 (lk_isn B dX7_sweep_58 rfl (by decide) (fun _ _ _ h => h))))))))))))))
set_option maxRecDepth 20000 in
theorem k_X7_sweep_23 {p : Program} {l : Launch} {e : Env} {s : State} {m : MethodId} {args : Array Value} {below : List Frame} {meth : Method} {c : Code} {E : zE} {d : Nat} {Q : zQ} (hd1 : 1 ≤ d) (B : zB p s m args c E mX7_sweep.1.cls mX7_sweep.2.1 mX7_sweep.2.2.1) (hr : meth.sig.returnType = mX7_sweep.2.2.2) (hlk : meth.locks = false) : zLk (zG p l e (zrm d) s m args below meth c E mX7_sweep.2.2.1 0 0 (MQ below (zQc E Q) args s 0 0 (zaA E))) 23 (b_X7_sweep_23 d (zG p l e (zrm d) s m args below meth c E mX7_sweep.2.2.1 0 0 (MQ below (zQc E Q) args s 0 0 (zaA E))) Q) := by
  unfold b_X7_sweep_23
  exact lk_aln B dX7_sweep_23 rfl (lk_aln B dX7_sweep_24 rfl (lk_gf (T := TX7) B cl_X7 (by decide) in_X7 zw_119 dX7_sweep_25 (lk_aln B dX7_sweep_28 rfl (lk_gf (T := TX7) B cl_X7 (by decide) in_X7 zw_123 dX7_sweep_29 (lk_callv (M := mX9_goUnder) (T := TX9) (N := 5) B (zhR hd1 (by decide)) ⟨Nat.zero_le _, Nat.zero_le _⟩ cl_X9 (zw5 zw_429 zw_426 zw_427 zw_428 zw_57) (by decide +kernel) dX7_sweep_32 (k_X7_sweep_35 hd1 B hr hlk))))))
set_option maxRecDepth 20000 in
theorem k_X7_sweep_0 {p : Program} {l : Launch} {e : Env} {s : State} {m : MethodId} {args : Array Value} {below : List Frame} {meth : Method} {c : Code} {E : zE} {d : Nat} {Q : zQ} (hd1 : 1 ≤ d) (B : zB p s m args c E mX7_sweep.1.cls mX7_sweep.2.1 mX7_sweep.2.2.1) (hr : meth.sig.returnType = mX7_sweep.2.2.2) (hlk : meth.locks = false) : zLk (zG p l e (zrm d) s m args below meth c E mX7_sweep.2.2.1 0 0 (MQ below (zQc E Q) args s 0 0 (zaA E))) 0 (b_X7_sweep_0 d (zG p l e (zrm d) s m args below meth c E mX7_sweep.2.2.1 0 0 (MQ below (zQc E Q) args s 0 0 (zaA E))) Q) := by
  unfold b_X7_sweep_0
  exact lk_aln B dX7_sweep_0 rfl (lk_callv (M := mX9_restart) (T := TX9) (N := 5) B (zhR hd1 (by decide)) ⟨Nat.zero_le _, Nat.zero_le _⟩ cl_X9 (zw5 zw_425 zw_422 zw_423 zw_424 zw_57) (by decide +kernel) dX7_sweep_1 (lk_aln B dX7_sweep_4 rfl (lk_gf (T := TX7) B cl_X7 (by decide) in_X7 zw_120 dX7_sweep_5 (lk_aln B dX7_sweep_8 rfl (lk_gf (T := TX7) B cl_X7 (by decide) in_X7 zw_119 dX7_sweep_9 (lk_aln B dX7_sweep_12 rfl (lk_callv (M := mX5_reachUnderDeep) (T := TX5) (N := 3) B (zhR hd1 (by decide)) ⟨Nat.zero_le _, Nat.zero_le _⟩ cl_X5 (zw5 zw_621 zw_618 zw_619 zw_620 zw_52) (by decide +kernel) dX7_sweep_13 (lk_aln B dX7_sweep_16 rfl (lk_callv (M := mX7_isFetching) (T := TX7) (N := 5) B (zhR hd1 (by decide)) ⟨Nat.zero_le _, Nat.zero_le _⟩ cl_X7 (zw5 zw_417 zw_623 zw_415 zw_416 zw_50) (by decide +kernel) dX7_sweep_17 (lk_zeq B dX7_sweep_20 (by decide) (k_X7_sweep_35 hd1 B hr hlk) (k_X7_sweep_23 hd1 B hr hlk)))))))))))
set_option maxRecDepth 20000 in
theorem k_X7_sweep_88 {p : Program} {l : Launch} {e : Env} {s : State} {m : MethodId} {args : Array Value} {below : List Frame} {meth : Method} {c : Code} {E : zE} {d : Nat} {Q : zQ} (hd1 : 1 ≤ d) (B : zB p s m args c E mX7_sweep.1.cls mX7_sweep.2.1 mX7_sweep.2.2.1) (hr : meth.sig.returnType = mX7_sweep.2.2.2) (hlk : meth.locks = false) : zLk (zG p l e (zrm d) s m args below meth c E mX7_sweep.2.2.1 0 0 (MQ below (zQc E Q) args s 0 0 (zaA E))) 88 (b_X7_sweep_88 d (zG p l e (zrm d) s m args below meth c E mX7_sweep.2.2.1 0 0 (MQ below (zQc E Q) args s 0 0 (zaA E))) Q) := by
  unfold b_X7_sweep_88
  exact lk_iln B dX7_sweep_88 rfl (lk_iret B hr hlk dX7_sweep_89)
set_option maxRecDepth 20000 in
theorem k_X7_sweep_82 {p : Program} {l : Launch} {e : Env} {s : State} {m : MethodId} {args : Array Value} {below : List Frame} {meth : Method} {c : Code} {E : zE} {d : Nat} {Q : zQ} (hd1 : 1 ≤ d) (B : zB p s m args c E mX7_sweep.1.cls mX7_sweep.2.1 mX7_sweep.2.2.1) (hr : meth.sig.returnType = mX7_sweep.2.2.2) (hlk : meth.locks = false) : zLk (zG p l e (zrm d) s m args below meth c E mX7_sweep.2.2.1 0 0 (MQ below (zQc E Q) args s 0 0 (zaA E))) 82 (b_X7_sweep_82 d (zG p l e (zrm d) s m args below meth c E mX7_sweep.2.2.1 0 0 (MQ below (zQc E Q) args s 0 0 (zaA E))) Q) := by
  unfold b_X7_sweep_82
  exact lk_inc B dX7_sweep_82 (by decide) (lk_goto B dX7_sweep_85 (by decide) (fun _ _ _ h => h))
set_option maxRecDepth 20000 in
theorem k_X7_sweep_71 {p : Program} {l : Launch} {e : Env} {s : State} {m : MethodId} {args : Array Value} {below : List Frame} {meth : Method} {c : Code} {E : zE} {d : Nat} {Q : zQ} (hd1 : 1 ≤ d) (B : zB p s m args c E mX7_sweep.1.cls mX7_sweep.2.1 mX7_sweep.2.2.1) (hr : meth.sig.returnType = mX7_sweep.2.2.2) (hlk : meth.locks = false) : zLk (zG p l e (zrm d) s m args below meth c E mX7_sweep.2.2.1 0 0 (MQ below (zQc E Q) args s 0 0 (zaA E))) 71 (b_X7_sweep_71 d (zG p l e (zrm d) s m args below meth c E mX7_sweep.2.2.1 0 0 (MQ below (zQc E Q) args s 0 0 (zaA E))) Q) := by
  unfold b_X7_sweep_71
  exact lk_aln B dX7_sweep_71 rfl (lk_gf (T := TX7) B cl_X7 (by decide) in_X7 zw_119 dX7_sweep_72 (lk_iln B dX7_sweep_75 rfl (lk_callv (M := mX6_removeSlot) (T := TX6) (N := 5) B (zhR hd1 (by decide)) ⟨Nat.zero_le _, Nat.zero_le _⟩ cl_X6 (zw5 zw_634 zw_631 zw_632 zw_633 zw_51) (by decide +kernel) dX7_sweep_76 (lk_inc B dX7_sweep_79 (by decide) (k_X7_sweep_82 hd1 B hr hlk)))))
set_option maxRecDepth 20000 in
theorem k_X7_sweep_63 {p : Program} {l : Launch} {e : Env} {s : State} {m : MethodId} {args : Array Value} {below : List Frame} {meth : Method} {c : Code} {E : zE} {d : Nat} {Q : zQ} (hd1 : 1 ≤ d) (B : zB p s m args c E mX7_sweep.1.cls mX7_sweep.2.1 mX7_sweep.2.2.1) (hr : meth.sig.returnType = mX7_sweep.2.2.2) (hlk : meth.locks = false) : zLk (zG p l e (zrm d) s m args below meth c E mX7_sweep.2.2.1 0 0 (MQ below (zQc E Q) args s 0 0 (zaA E))) 63 (b_X7_sweep_63 d (zG p l e (zrm d) s m args below meth c E mX7_sweep.2.2.1 0 0 (MQ below (zQc E Q) args s 0 0 (zaA E))) Q) := by
  unfold b_X7_sweep_63
  exact lk_aln B dX7_sweep_63 rfl (lk_iln B dX7_sweep_64 rfl (lk_callv (M := mX9_hasReached) (T := TX9) (N := 5) B (zhR hd1 (by decide)) ⟨Nat.zero_le _, Nat.zero_le _⟩ cl_X9 (zw5 zw_450 zw_630 zw_448 zw_449 zw_57) (by decide +kernel) dX7_sweep_65 (lk_zne B dX7_sweep_68 (by decide) (k_X7_sweep_82 hd1 B hr hlk) (k_X7_sweep_71 hd1 B hr hlk))))
set_option maxRecDepth 20000 in
theorem k_X7_sweep_59 {p : Program} {l : Launch} {e : Env} {s : State} {m : MethodId} {args : Array Value} {below : List Frame} {meth : Method} {c : Code} {E : zE} {d : Nat} {Q : zQ} (hd1 : 1 ≤ d) (B : zB p s m args c E mX7_sweep.1.cls mX7_sweep.2.1 mX7_sweep.2.2.1) (hr : meth.sig.returnType = mX7_sweep.2.2.2) (hlk : meth.locks = false) : zLk (zG p l e (zrm d) s m args below meth c E mX7_sweep.2.2.1 0 0 (MQ below (zQc E Q) args s 0 0 (zaA E))) 59 (b_X7_sweep_59 d (zG p l e (zrm d) s m args below meth c E mX7_sweep.2.2.1 0 0 (MQ below (zQc E Q) args s 0 0 (zaA E))) Q) := by
  unfold b_X7_sweep_59
  exact lk_iln B dX7_sweep_59 rfl (lk_zlt B dX7_sweep_60 (by decide) (k_X7_sweep_88 hd1 B hr hlk) (k_X7_sweep_63 hd1 B hr hlk))
def S_X7_sweep (d : Nat) (G : Nat → zK) (Q : zQ) : Prop := zLk G 0 (b_X7_sweep_0 d G Q) ∧ zLk G 59 (b_X7_sweep_59 d G Q)
theorem s_X7_sweep_0 {d : Nat} {G : Nat → zK} {Q : zQ} (h : S_X7_sweep d G Q) {ls st : List zV} {μ : zM} (k : b_X7_sweep_0 d G Q ls st μ) : G 0 ls st μ := h.1 ls st μ k
theorem s_X7_sweep_59 {d : Nat} {G : Nat → zK} {Q : zQ} (h : S_X7_sweep d G Q) {ls st : List zV} {μ : zM} (k : b_X7_sweep_59 d G Q ls st μ) : G 59 ls st μ := h.2 ls st μ k
theorem of_X7_sweep {d : Nat} {a0 a1 : zV} {μ : zM} {Q : zQ} (hd1 : 1 ≤ d) (h : ∀ G : Nat → zK, S_X7_sweep d G Q → G 0 [a0, a1, .inr none, .inr none] [] μ) : zCt d mX7_sweep [a0, a1] μ Q := zCt.mk (by decide) (Nat.le_of_ble_eq_true rfl) (fun p l e s m args below meth c E B hr hlk => h _ ⟨k_X7_sweep_0 hd1 B hr hlk, k_X7_sweep_59 hd1 B hr hlk⟩)
theorem dX7_fetchState_0 : decode cX7_fetchState 0 = .ok (.aload_n 0, 1) := by decide +kernel
theorem dX7_fetchState_1 : decode cX7_fetchState 1 = .ok (.getfield 27, 3) := by decide +kernel
theorem dX7_fetchState_4 : decode cX7_fetchState 4 = .ok (.ireturn, 1) := by decide +kernel
def b_X7_fetchState_0 (d : Nat) (G : Nat → zK) (Q : zQ) : zK := o_al 0 <| o_gf 5 2 <| t_iret Q
set_option maxRecDepth 20000 in
theorem k_X7_fetchState_0 {p : Program} {l : Launch} {e : Env} {s : State} {m : MethodId} {args : Array Value} {below : List Frame} {meth : Method} {c : Code} {E : zE} {d : Nat} {Q : zQ} (B : zB p s m args c E mX7_fetchState.1.cls mX7_fetchState.2.1 mX7_fetchState.2.2.1) (hr : meth.sig.returnType = mX7_fetchState.2.2.2) (hlk : meth.locks = false) : zLk (zG p l e (zrm d) s m args below meth c E mX7_fetchState.2.2.1 0 0 (MQ below (zQc E Q) args s 0 0 (zaA E))) 0 (b_X7_fetchState_0 d (zG p l e (zrm d) s m args below meth c E mX7_fetchState.2.2.1 0 0 (MQ below (zQc E Q) args s 0 0 (zaA E))) Q) := by
  unfold b_X7_fetchState_0
  exact lk_aln B dX7_fetchState_0 rfl (lk_gf (T := TX7) B cl_X7 (by decide) in_X7 zw_121 dX7_fetchState_1 (lk_iret B hr hlk dX7_fetchState_4))
def S_X7_fetchState (d : Nat) (G : Nat → zK) (Q : zQ) : Prop := zLk G 0 (b_X7_fetchState_0 d G Q)
theorem s_X7_fetchState_0 {d : Nat} {G : Nat → zK} {Q : zQ} (h : S_X7_fetchState d G Q) {ls st : List zV} {μ : zM} (k : b_X7_fetchState_0 d G Q ls st μ) : G 0 ls st μ := h ls st μ k
theorem of_X7_fetchState {d : Nat} {a0 : zV} {μ : zM} {Q : zQ} (h : ∀ G : Nat → zK, S_X7_fetchState d G Q → G 0 [a0] [] μ) : zCt d mX7_fetchState [a0] μ Q := zCt.mk (by decide) (Nat.le_of_ble_eq_true rfl) (fun p l e s m args below meth c E B hr hlk => h _ (k_X7_fetchState_0 B hr hlk))
theorem dX7_fetchPeer_0 : decode cX7_fetchPeer 0 = .ok (.aload_n 0, 1) := by decide +kernel
theorem dX7_fetchPeer_1 : decode cX7_fetchPeer 1 = .ok (.getfield 31, 3) := by decide +kernel
theorem dX7_fetchPeer_4 : decode cX7_fetchPeer 4 = .ok (.ireturn, 1) := by decide +kernel
def b_X7_fetchPeer_0 (d : Nat) (G : Nat → zK) (Q : zQ) : zK := o_al 0 <| o_gf 5 3 <| t_iret Q
set_option maxRecDepth 20000 in
theorem k_X7_fetchPeer_0 {p : Program} {l : Launch} {e : Env} {s : State} {m : MethodId} {args : Array Value} {below : List Frame} {meth : Method} {c : Code} {E : zE} {d : Nat} {Q : zQ} (B : zB p s m args c E mX7_fetchPeer.1.cls mX7_fetchPeer.2.1 mX7_fetchPeer.2.2.1) (hr : meth.sig.returnType = mX7_fetchPeer.2.2.2) (hlk : meth.locks = false) : zLk (zG p l e (zrm d) s m args below meth c E mX7_fetchPeer.2.2.1 0 0 (MQ below (zQc E Q) args s 0 0 (zaA E))) 0 (b_X7_fetchPeer_0 d (zG p l e (zrm d) s m args below meth c E mX7_fetchPeer.2.2.1 0 0 (MQ below (zQc E Q) args s 0 0 (zaA E))) Q) := by
  unfold b_X7_fetchPeer_0
  exact lk_aln B dX7_fetchPeer_0 rfl (lk_gf (T := TX7) B cl_X7 (by decide) in_X7 zw_122 dX7_fetchPeer_1 (lk_iret B hr hlk dX7_fetchPeer_4))
def S_X7_fetchPeer (d : Nat) (G : Nat → zK) (Q : zQ) : Prop := zLk G 0 (b_X7_fetchPeer_0 d G Q)
theorem s_X7_fetchPeer_0 {d : Nat} {G : Nat → zK} {Q : zQ} (h : S_X7_fetchPeer d G Q) {ls st : List zV} {μ : zM} (k : b_X7_fetchPeer_0 d G Q ls st μ) : G 0 ls st μ := h ls st μ k
theorem of_X7_fetchPeer {d : Nat} {a0 : zV} {μ : zM} {Q : zQ} (h : ∀ G : Nat → zK, S_X7_fetchPeer d G Q → G 0 [a0] [] μ) : zCt d mX7_fetchPeer [a0] μ Q := zCt.mk (by decide) (Nat.le_of_ble_eq_true rfl) (fun p l e s m args below meth c E B hr hlk => h _ (k_X7_fetchPeer_0 B hr hlk))
theorem dX7_isFetching_0 : decode cX7_isFetching 0 = .ok (.aload_n 0, 1) := by decide +kernel
theorem dX7_isFetching_1 : decode cX7_isFetching 1 = .ok (.getfield 27, 3) := by decide +kernel
theorem dX7_isFetching_4 : decode cX7_isFetching 4 = .ok (.iconst 1, 1) := by decide +kernel
theorem dX7_isFetching_5 : decode cX7_isFetching 5 = .ok (.if_icmp .ne 7, 3) := by decide +kernel
theorem dX7_isFetching_8 : decode cX7_isFetching 8 = .ok (.iconst 1, 1) := by decide +kernel
theorem dX7_isFetching_9 : decode cX7_isFetching 9 = .ok (.goto 4, 3) := by decide +kernel
theorem dX7_isFetching_12 : decode cX7_isFetching 12 = .ok (.iconst 0, 1) := by decide +kernel
theorem dX7_isFetching_13 : decode cX7_isFetching 13 = .ok (.ireturn, 1) := by decide +kernel
def b_X7_isFetching_13 (d : Nat) (G : Nat → zK) (Q : zQ) : zK := t_zret Q
def b_X7_isFetching_12 (d : Nat) (G : Nat → zK) (Q : zQ) : zK := o_c 0 <| b_X7_isFetching_13 d G Q
def b_X7_isFetching_8 (d : Nat) (G : Nat → zK) (Q : zQ) : zK := o_c 1 <| b_X7_isFetching_13 d G Q
def b_X7_isFetching_0 (d : Nat) (G : Nat → zK) (Q : zQ) : zK := o_al 0 <| o_gf 5 2 <| o_c 1 <| t_ieq (b_X7_isFetching_8 d G Q) (b_X7_isFetching_12 d G Q)
set_option maxRecDepth 20000 in
theorem k_X7_isFetching_13 {p : Program} {l : Launch} {e : Env} {s : State} {m : MethodId} {args : Array Value} {below : List Frame} {meth : Method} {c : Code} {E : zE} {d : Nat} {Q : zQ} (B : zB p s m args c E mX7_isFetching.1.cls mX7_isFetching.2.1 mX7_isFetching.2.2.1) (hr : meth.sig.returnType = mX7_isFetching.2.2.2) (hlk : meth.locks = false) : zLk (zG p l e (zrm d) s m args below meth c E mX7_isFetching.2.2.1 0 0 (MQ below (zQc E Q) args s 0 0 (zaA E))) 13 (b_X7_isFetching_13 d (zG p l e (zrm d) s m args below meth c E mX7_isFetching.2.2.1 0 0 (MQ below (zQc E Q) args s 0 0 (zaA E))) Q) := by
  unfold b_X7_isFetching_13
  exact lk_zret B hr hlk dX7_isFetching_13
set_option maxRecDepth 20000 in
theorem k_X7_isFetching_12 {p : Program} {l : Launch} {e : Env} {s : State} {m : MethodId} {args : Array Value} {below : List Frame} {meth : Method} {c : Code} {E : zE} {d : Nat} {Q : zQ} (B : zB p s m args c E mX7_isFetching.1.cls mX7_isFetching.2.1 mX7_isFetching.2.2.1) (hr : meth.sig.returnType = mX7_isFetching.2.2.2) (hlk : meth.locks = false) : zLk (zG p l e (zrm d) s m args below meth c E mX7_isFetching.2.2.1 0 0 (MQ below (zQc E Q) args s 0 0 (zaA E))) 12 (b_X7_isFetching_12 d (zG p l e (zrm d) s m args below meth c E mX7_isFetching.2.2.1 0 0 (MQ below (zQc E Q) args s 0 0 (zaA E))) Q) := by
  unfold b_X7_isFetching_12
  exact lk_c B dX7_isFetching_12 (k_X7_isFetching_13 B hr hlk)
set_option maxRecDepth 20000 in
theorem k_X7_isFetching_8 {p : Program} {l : Launch} {e : Env} {s : State} {m : MethodId} {args : Array Value} {below : List Frame} {meth : Method} {c : Code} {E : zE} {d : Nat} {Q : zQ} (B : zB p s m args c E mX7_isFetching.1.cls mX7_isFetching.2.1 mX7_isFetching.2.2.1) (hr : meth.sig.returnType = mX7_isFetching.2.2.2) (hlk : meth.locks = false) : zLk (zG p l e (zrm d) s m args below meth c E mX7_isFetching.2.2.1 0 0 (MQ below (zQc E Q) args s 0 0 (zaA E))) 8 (b_X7_isFetching_8 d (zG p l e (zrm d) s m args below meth c E mX7_isFetching.2.2.1 0 0 (MQ below (zQc E Q) args s 0 0 (zaA E))) Q) := by
  unfold b_X7_isFetching_8
  exact lk_c B dX7_isFetching_8 (lk_goto B dX7_isFetching_9 (by decide) (k_X7_isFetching_13 B hr hlk))
set_option maxRecDepth 20000 in
theorem k_X7_isFetching_0 {p : Program} {l : Launch} {e : Env} {s : State} {m : MethodId} {args : Array Value} {below : List Frame} {meth : Method} {c : Code} {E : zE} {d : Nat} {Q : zQ} (B : zB p s m args c E mX7_isFetching.1.cls mX7_isFetching.2.1 mX7_isFetching.2.2.1) (hr : meth.sig.returnType = mX7_isFetching.2.2.2) (hlk : meth.locks = false) : zLk (zG p l e (zrm d) s m args below meth c E mX7_isFetching.2.2.1 0 0 (MQ below (zQc E Q) args s 0 0 (zaA E))) 0 (b_X7_isFetching_0 d (zG p l e (zrm d) s m args below meth c E mX7_isFetching.2.2.1 0 0 (MQ below (zQc E Q) args s 0 0 (zaA E))) Q) := by
  unfold b_X7_isFetching_0
  exact lk_aln B dX7_isFetching_0 rfl (lk_gf (T := TX7) B cl_X7 (by decide) in_X7 zw_121 dX7_isFetching_1 (lk_c B dX7_isFetching_4 (lk_ine B dX7_isFetching_5 (by decide) (k_X7_isFetching_12 B hr hlk) (k_X7_isFetching_8 B hr hlk))))
def S_X7_isFetching (d : Nat) (G : Nat → zK) (Q : zQ) : Prop := zLk G 0 (b_X7_isFetching_0 d G Q)
theorem s_X7_isFetching_0 {d : Nat} {G : Nat → zK} {Q : zQ} (h : S_X7_isFetching d G Q) {ls st : List zV} {μ : zM} (k : b_X7_isFetching_0 d G Q ls st μ) : G 0 ls st μ := h ls st μ k
theorem of_X7_isFetching {d : Nat} {a0 : zV} {μ : zM} {Q : zQ} (h : ∀ G : Nat → zK, S_X7_isFetching d G Q → G 0 [a0] [] μ) : zCt d mX7_isFetching [a0] μ Q := zCt.mk (by decide) (Nat.le_of_ble_eq_true rfl) (fun p l e s m args below meth c E B hr hlk => h _ (k_X7_isFetching_0 B hr hlk))
theorem dX7_isFetchingFrom_0 : decode cX7_isFetchingFrom 0 = .ok (.aload_n 0, 1) := by decide +kernel
theorem dX7_isFetchingFrom_1 : decode cX7_isFetchingFrom 1 = .ok (.getfield 27, 3) := by decide +kernel
theorem dX7_isFetchingFrom_4 : decode cX7_isFetchingFrom 4 = .ok (.iconst 1, 1) := by decide +kernel
theorem dX7_isFetchingFrom_5 : decode cX7_isFetchingFrom 5 = .ok (.if_icmp .ne 15, 3) := by decide +kernel
theorem dX7_isFetchingFrom_8 : decode cX7_isFetchingFrom 8 = .ok (.aload_n 0, 1) := by decide +kernel
theorem dX7_isFetchingFrom_9 : decode cX7_isFetchingFrom 9 = .ok (.getfield 31, 3) := by decide +kernel
theorem dX7_isFetchingFrom_12 : decode cX7_isFetchingFrom 12 = .ok (.iload_n 1, 1) := by decide +kernel
theorem dX7_isFetchingFrom_13 : decode cX7_isFetchingFrom 13 = .ok (.if_icmp .ne 7, 3) := by decide +kernel
theorem dX7_isFetchingFrom_16 : decode cX7_isFetchingFrom 16 = .ok (.iconst 1, 1) := by decide +kernel
theorem dX7_isFetchingFrom_17 : decode cX7_isFetchingFrom 17 = .ok (.goto 4, 3) := by decide +kernel
theorem dX7_isFetchingFrom_20 : decode cX7_isFetchingFrom 20 = .ok (.iconst 0, 1) := by decide +kernel
theorem dX7_isFetchingFrom_21 : decode cX7_isFetchingFrom 21 = .ok (.ireturn, 1) := by decide +kernel
def b_X7_isFetchingFrom_21 (d : Nat) (G : Nat → zK) (Q : zQ) : zK := t_zret Q
def b_X7_isFetchingFrom_20 (d : Nat) (G : Nat → zK) (Q : zQ) : zK := o_c 0 <| b_X7_isFetchingFrom_21 d G Q
def b_X7_isFetchingFrom_16 (d : Nat) (G : Nat → zK) (Q : zQ) : zK := o_c 1 <| b_X7_isFetchingFrom_21 d G Q
def b_X7_isFetchingFrom_8 (d : Nat) (G : Nat → zK) (Q : zQ) : zK := o_al 0 <| o_gf 5 3 <| o_il 1 <| t_ieq (b_X7_isFetchingFrom_16 d G Q) (b_X7_isFetchingFrom_20 d G Q)
def b_X7_isFetchingFrom_0 (d : Nat) (G : Nat → zK) (Q : zQ) : zK := o_al 0 <| o_gf 5 2 <| o_c 1 <| t_ieq (b_X7_isFetchingFrom_8 d G Q) (b_X7_isFetchingFrom_20 d G Q)
set_option maxRecDepth 20000 in
theorem k_X7_isFetchingFrom_21 {p : Program} {l : Launch} {e : Env} {s : State} {m : MethodId} {args : Array Value} {below : List Frame} {meth : Method} {c : Code} {E : zE} {d : Nat} {Q : zQ} (B : zB p s m args c E mX7_isFetchingFrom.1.cls mX7_isFetchingFrom.2.1 mX7_isFetchingFrom.2.2.1) (hr : meth.sig.returnType = mX7_isFetchingFrom.2.2.2) (hlk : meth.locks = false) : zLk (zG p l e (zrm d) s m args below meth c E mX7_isFetchingFrom.2.2.1 0 0 (MQ below (zQc E Q) args s 0 0 (zaA E))) 21 (b_X7_isFetchingFrom_21 d (zG p l e (zrm d) s m args below meth c E mX7_isFetchingFrom.2.2.1 0 0 (MQ below (zQc E Q) args s 0 0 (zaA E))) Q) := by
  unfold b_X7_isFetchingFrom_21
  exact lk_zret B hr hlk dX7_isFetchingFrom_21
set_option maxRecDepth 20000 in
theorem k_X7_isFetchingFrom_20 {p : Program} {l : Launch} {e : Env} {s : State} {m : MethodId} {args : Array Value} {below : List Frame} {meth : Method} {c : Code} {E : zE} {d : Nat} {Q : zQ} (B : zB p s m args c E mX7_isFetchingFrom.1.cls mX7_isFetchingFrom.2.1 mX7_isFetchingFrom.2.2.1) (hr : meth.sig.returnType = mX7_isFetchingFrom.2.2.2) (hlk : meth.locks = false) : zLk (zG p l e (zrm d) s m args below meth c E mX7_isFetchingFrom.2.2.1 0 0 (MQ below (zQc E Q) args s 0 0 (zaA E))) 20 (b_X7_isFetchingFrom_20 d (zG p l e (zrm d) s m args below meth c E mX7_isFetchingFrom.2.2.1 0 0 (MQ below (zQc E Q) args s 0 0 (zaA E))) Q) := by
  unfold b_X7_isFetchingFrom_20
  exact lk_c B dX7_isFetchingFrom_20 (k_X7_isFetchingFrom_21 B hr hlk)
set_option maxRecDepth 20000 in
theorem k_X7_isFetchingFrom_16 {p : Program} {l : Launch} {e : Env} {s : State} {m : MethodId} {args : Array Value} {below : List Frame} {meth : Method} {c : Code} {E : zE} {d : Nat} {Q : zQ} (B : zB p s m args c E mX7_isFetchingFrom.1.cls mX7_isFetchingFrom.2.1 mX7_isFetchingFrom.2.2.1) (hr : meth.sig.returnType = mX7_isFetchingFrom.2.2.2) (hlk : meth.locks = false) : zLk (zG p l e (zrm d) s m args below meth c E mX7_isFetchingFrom.2.2.1 0 0 (MQ below (zQc E Q) args s 0 0 (zaA E))) 16 (b_X7_isFetchingFrom_16 d (zG p l e (zrm d) s m args below meth c E mX7_isFetchingFrom.2.2.1 0 0 (MQ below (zQc E Q) args s 0 0 (zaA E))) Q) := by
  unfold b_X7_isFetchingFrom_16
  exact lk_c B dX7_isFetchingFrom_16 (lk_goto B dX7_isFetchingFrom_17 (by decide) (k_X7_isFetchingFrom_21 B hr hlk))
set_option maxRecDepth 20000 in
theorem k_X7_isFetchingFrom_8 {p : Program} {l : Launch} {e : Env} {s : State} {m : MethodId} {args : Array Value} {below : List Frame} {meth : Method} {c : Code} {E : zE} {d : Nat} {Q : zQ} (B : zB p s m args c E mX7_isFetchingFrom.1.cls mX7_isFetchingFrom.2.1 mX7_isFetchingFrom.2.2.1) (hr : meth.sig.returnType = mX7_isFetchingFrom.2.2.2) (hlk : meth.locks = false) : zLk (zG p l e (zrm d) s m args below meth c E mX7_isFetchingFrom.2.2.1 0 0 (MQ below (zQc E Q) args s 0 0 (zaA E))) 8 (b_X7_isFetchingFrom_8 d (zG p l e (zrm d) s m args below meth c E mX7_isFetchingFrom.2.2.1 0 0 (MQ below (zQc E Q) args s 0 0 (zaA E))) Q) := by
  unfold b_X7_isFetchingFrom_8
  exact lk_aln B dX7_isFetchingFrom_8 rfl (lk_gf (T := TX7) B cl_X7 (by decide) in_X7 zw_122 dX7_isFetchingFrom_9 (lk_iln B dX7_isFetchingFrom_12 rfl (lk_ine B dX7_isFetchingFrom_13 (by decide) (k_X7_isFetchingFrom_20 B hr hlk) (k_X7_isFetchingFrom_16 B hr hlk))))
set_option maxRecDepth 20000 in
theorem k_X7_isFetchingFrom_0 {p : Program} {l : Launch} {e : Env} {s : State} {m : MethodId} {args : Array Value} {below : List Frame} {meth : Method} {c : Code} {E : zE} {d : Nat} {Q : zQ} (B : zB p s m args c E mX7_isFetchingFrom.1.cls mX7_isFetchingFrom.2.1 mX7_isFetchingFrom.2.2.1) (hr : meth.sig.returnType = mX7_isFetchingFrom.2.2.2) (hlk : meth.locks = false) : zLk (zG p l e (zrm d) s m args below meth c E mX7_isFetchingFrom.2.2.1 0 0 (MQ below (zQc E Q) args s 0 0 (zaA E))) 0 (b_X7_isFetchingFrom_0 d (zG p l e (zrm d) s m args below meth c E mX7_isFetchingFrom.2.2.1 0 0 (MQ below (zQc E Q) args s 0 0 (zaA E))) Q) := by
  unfold b_X7_isFetchingFrom_0
  exact lk_aln B dX7_isFetchingFrom_0 rfl (lk_gf (T := TX7) B cl_X7 (by decide) in_X7 zw_121 dX7_isFetchingFrom_1 (lk_c B dX7_isFetchingFrom_4 (lk_ine B dX7_isFetchingFrom_5 (by decide) (k_X7_isFetchingFrom_20 B hr hlk) (k_X7_isFetchingFrom_8 B hr hlk))))
def S_X7_isFetchingFrom (d : Nat) (G : Nat → zK) (Q : zQ) : Prop := zLk G 0 (b_X7_isFetchingFrom_0 d G Q)
theorem s_X7_isFetchingFrom_0 {d : Nat} {G : Nat → zK} {Q : zQ} (h : S_X7_isFetchingFrom d G Q) {ls st : List zV} {μ : zM} (k : b_X7_isFetchingFrom_0 d G Q ls st μ) : G 0 ls st μ := h ls st μ k
theorem of_X7_isFetchingFrom {d : Nat} {a0 a1 : zV} {μ : zM} {Q : zQ} (h : ∀ G : Nat → zK, S_X7_isFetchingFrom d G Q → G 0 [a0, a1] [] μ) : zCt d mX7_isFetchingFrom [a0, a1] μ Q := zCt.mk (by decide) (Nat.le_of_ble_eq_true rfl) (fun p l e s m args below meth c E B hr hlk => h _ (k_X7_isFetchingFrom_0 B hr hlk))
theorem dX7_startFetch_0 : decode cX7_startFetch 0 = .ok (.aload_n 0, 1) := by decide +kernel
theorem dX7_startFetch_1 : decode cX7_startFetch 1 = .ok (.iconst 1, 1) := by decide +kernel
theorem dX7_startFetch_2 : decode cX7_startFetch 2 = .ok (.putfield 27, 3) := by decide +kernel
theorem dX7_startFetch_5 : decode cX7_startFetch 5 = .ok (.aload_n 0, 1) := by decide +kernel
theorem dX7_startFetch_6 : decode cX7_startFetch 6 = .ok (.iload_n 1, 1) := by decide +kernel
theorem dX7_startFetch_7 : decode cX7_startFetch 7 = .ok (.putfield 31, 3) := by decide +kernel
theorem dX7_startFetch_10 : decode cX7_startFetch 10 = .ok (.aload_n 0, 1) := by decide +kernel
theorem dX7_startFetch_11 : decode cX7_startFetch 11 = .ok (.iload_n 2, 1) := by decide +kernel
theorem dX7_startFetch_12 : decode cX7_startFetch 12 = .ok (.putfield 34, 3) := by decide +kernel
theorem dX7_startFetch_15 : decode cX7_startFetch 15 = .ok (.return_, 1) := by decide +kernel
def b_X7_startFetch_0 (d : Nat) (G : Nat → zK) (Q : zQ) : zK := o_al 0 <| o_c 1 <| o_pf 5 2 <| o_al 0 <| o_il 1 <| o_pf 5 3 <| o_al 0 <| o_il 2 <| o_pf 5 4 <| t_vret Q
set_option maxRecDepth 20000 in
theorem k_X7_startFetch_0 {p : Program} {l : Launch} {e : Env} {s : State} {m : MethodId} {args : Array Value} {below : List Frame} {meth : Method} {c : Code} {E : zE} {d : Nat} {Q : zQ} (B : zB p s m args c E mX7_startFetch.1.cls mX7_startFetch.2.1 mX7_startFetch.2.2.1) (hr : meth.sig.returnType = mX7_startFetch.2.2.2) (hlk : meth.locks = false) : zLk (zG p l e (zrm d) s m args below meth c E mX7_startFetch.2.2.1 0 0 (MQ below (zQc E Q) args s 0 0 (zaA E))) 0 (b_X7_startFetch_0 d (zG p l e (zrm d) s m args below meth c E mX7_startFetch.2.2.1 0 0 (MQ below (zQc E Q) args s 0 0 (zaA E))) Q) := by
  unfold b_X7_startFetch_0
  exact lk_aln B dX7_startFetch_0 rfl (lk_c B dX7_startFetch_1 (lk_pf (T := TX7) B cl_X7 (by decide) in_X7 tyX7_ok nmX7 zw_121 rfl (by decide +kernel) dX7_startFetch_2 (lk_aln B dX7_startFetch_5 rfl (lk_iln B dX7_startFetch_6 rfl (lk_pf (T := TX7) B cl_X7 (by decide) in_X7 tyX7_ok nmX7 zw_122 rfl (by decide +kernel) dX7_startFetch_7 (lk_aln B dX7_startFetch_10 rfl (lk_iln B dX7_startFetch_11 rfl (lk_pf (T := TX7) B cl_X7 (by decide) in_X7 tyX7_ok nmX7 zw_123 rfl (by decide +kernel) dX7_startFetch_12 (lk_vret B hr hlk dX7_startFetch_15)))))))))
def S_X7_startFetch (d : Nat) (G : Nat → zK) (Q : zQ) : Prop := zLk G 0 (b_X7_startFetch_0 d G Q)
theorem s_X7_startFetch_0 {d : Nat} {G : Nat → zK} {Q : zQ} (h : S_X7_startFetch d G Q) {ls st : List zV} {μ : zM} (k : b_X7_startFetch_0 d G Q ls st μ) : G 0 ls st μ := h ls st μ k
theorem of_X7_startFetch {d : Nat} {a0 a1 a2 : zV} {μ : zM} {Q : zQ} (h : ∀ G : Nat → zK, S_X7_startFetch d G Q → G 0 [a0, a1, a2] [] μ) : zCt d mX7_startFetch [a0, a1, a2] μ Q := zCt.mk (by decide) (Nat.le_of_ble_eq_true rfl) (fun p l e s m args below meth c E B hr hlk => h _ (k_X7_startFetch_0 B hr hlk))
theorem dX7_failFetch_0 : decode cX7_failFetch 0 = .ok (.aload_n 0, 1) := by decide +kernel
theorem dX7_failFetch_1 : decode cX7_failFetch 1 = .ok (.iconst 3, 1) := by decide +kernel
theorem dX7_failFetch_2 : decode cX7_failFetch 2 = .ok (.putfield 27, 3) := by decide +kernel
theorem dX7_failFetch_5 : decode cX7_failFetch 5 = .ok (.return_, 1) := by decide +kernel
def b_X7_failFetch_0 (d : Nat) (G : Nat → zK) (Q : zQ) : zK := o_al 0 <| o_c 3 <| o_pf 5 2 <| t_vret Q
set_option maxRecDepth 20000 in
theorem k_X7_failFetch_0 {p : Program} {l : Launch} {e : Env} {s : State} {m : MethodId} {args : Array Value} {below : List Frame} {meth : Method} {c : Code} {E : zE} {d : Nat} {Q : zQ} (B : zB p s m args c E mX7_failFetch.1.cls mX7_failFetch.2.1 mX7_failFetch.2.2.1) (hr : meth.sig.returnType = mX7_failFetch.2.2.2) (hlk : meth.locks = false) : zLk (zG p l e (zrm d) s m args below meth c E mX7_failFetch.2.2.1 0 0 (MQ below (zQc E Q) args s 0 0 (zaA E))) 0 (b_X7_failFetch_0 d (zG p l e (zrm d) s m args below meth c E mX7_failFetch.2.2.1 0 0 (MQ below (zQc E Q) args s 0 0 (zaA E))) Q) := by
  unfold b_X7_failFetch_0
  exact lk_aln B dX7_failFetch_0 rfl (lk_c B dX7_failFetch_1 (lk_pf (T := TX7) B cl_X7 (by decide) in_X7 tyX7_ok nmX7 zw_121 rfl (by decide +kernel) dX7_failFetch_2 (lk_vret B hr hlk dX7_failFetch_5)))
def S_X7_failFetch (d : Nat) (G : Nat → zK) (Q : zQ) : Prop := zLk G 0 (b_X7_failFetch_0 d G Q)
theorem s_X7_failFetch_0 {d : Nat} {G : Nat → zK} {Q : zQ} (h : S_X7_failFetch d G Q) {ls st : List zV} {μ : zM} (k : b_X7_failFetch_0 d G Q ls st μ) : G 0 ls st μ := h ls st μ k
theorem of_X7_failFetch {d : Nat} {a0 : zV} {μ : zM} {Q : zQ} (h : ∀ G : Nat → zK, S_X7_failFetch d G Q → G 0 [a0] [] μ) : zCt d mX7_failFetch [a0] μ Q := zCt.mk (by decide) (Nat.le_of_ble_eq_true rfl) (fun p l e s m args below meth c E B hr hlk => h _ (k_X7_failFetch_0 B hr hlk))
theorem dX7_walkFetch_0 : decode cX7_walkFetch 0 = .ok (.aload_n 1, 1) := by decide +kernel
theorem dX7_walkFetch_1 : decode cX7_walkFetch 1 = .ok (.invokevirtual 73, 3) := by decide +kernel
theorem dX7_walkFetch_4 : decode cX7_walkFetch 4 = .ok (.aload_n 1, 1) := by decide +kernel
theorem dX7_walkFetch_5 : decode cX7_walkFetch 5 = .ok (.aload_n 0, 1) := by decide +kernel
theorem dX7_walkFetch_6 : decode cX7_walkFetch 6 = .ok (.getfield 14, 3) := by decide +kernel
theorem dX7_walkFetch_9 : decode cX7_walkFetch 9 = .ok (.aload_n 0, 1) := by decide +kernel
theorem dX7_walkFetch_10 : decode cX7_walkFetch 10 = .ok (.getfield 34, 3) := by decide +kernel
theorem dX7_walkFetch_13 : decode cX7_walkFetch 13 = .ok (.invokevirtual 85, 3) := by decide +kernel
theorem dX7_walkFetch_16 : decode cX7_walkFetch 16 = .ok (.aload_n 0, 1) := by decide +kernel
theorem dX7_walkFetch_17 : decode cX7_walkFetch 17 = .ok (.getfield 27, 3) := by decide +kernel
theorem dX7_walkFetch_20 : decode cX7_walkFetch 20 = .ok (.iconst 1, 1) := by decide +kernel
theorem dX7_walkFetch_21 : decode cX7_walkFetch 21 = .ok (.if_icmp .ne 15, 3) := by decide +kernel
theorem dX7_walkFetch_24 : decode cX7_walkFetch 24 = .ok (.aload_n 1, 1) := by decide +kernel
theorem dX7_walkFetch_25 : decode cX7_walkFetch 25 = .ok (.invokevirtual 98, 3) := by decide +kernel
theorem dX7_walkFetch_28 : decode cX7_walkFetch 28 = .ok (.ifCond .ne 8, 3) := by decide +kernel
theorem dX7_walkFetch_31 : decode cX7_walkFetch 31 = .ok (.aload_n 0, 1) := by decide +kernel
theorem dX7_walkFetch_32 : decode cX7_walkFetch 32 = .ok (.iconst 2, 1) := by decide +kernel
theorem dX7_walkFetch_33 : decode cX7_walkFetch 33 = .ok (.putfield 27, 3) := by decide +kernel
theorem dX7_walkFetch_36 : decode cX7_walkFetch 36 = .ok (.return_, 1) := by decide +kernel
def b_X7_walkFetch_36 (d : Nat) (G : Nat → zK) (Q : zQ) : zK := t_vret Q
def b_X7_walkFetch_31 (d : Nat) (G : Nat → zK) (Q : zQ) : zK := o_al 0 <| o_c 2 <| o_pf 5 2 <| b_X7_walkFetch_36 d G Q
def b_X7_walkFetch_24 (d : Nat) (G : Nat → zK) (Q : zQ) : zK := o_al 1 <| o_callv (zCt (d - 1) mX9_missingCount) 7 1 <| t_zeq (b_X7_walkFetch_31 d G Q) (b_X7_walkFetch_36 d G Q)
def b_X7_walkFetch_0 (d : Nat) (G : Nat → zK) (Q : zQ) : zK := o_al 1 <| o_callv (zCt (d - 1) mX9_restart) 7 1 <| o_al 1 <| o_al 0 <| o_gf 5 0 <| o_al 0 <| o_gf 5 4 <| o_callv (zCt (d - 1) mX9_goUnder) 7 3 <| o_al 0 <| o_gf 5 2 <| o_c 1 <| t_ieq (b_X7_walkFetch_24 d G Q) (b_X7_walkFetch_36 d G Q)
set_option maxRecDepth 20000 in
theorem k_X7_walkFetch_36 {p : Program} {l : Launch} {e : Env} {s : State} {m : MethodId} {args : Array Value} {below : List Frame} {meth : Method} {c : Code} {E : zE} {d : Nat} {Q : zQ} (hd1 : 1 ≤ d) (B : zB p s m args c E mX7_walkFetch.1.cls mX7_walkFetch.2.1 mX7_walkFetch.2.2.1) (hr : meth.sig.returnType = mX7_walkFetch.2.2.2) (hlk : meth.locks = false) : zLk (zG p l e (zrm d) s m args below meth c E mX7_walkFetch.2.2.1 0 0 (MQ below (zQc E Q) args s 0 0 (zaA E))) 36 (b_X7_walkFetch_36 d (zG p l e (zrm d) s m args below meth c E mX7_walkFetch.2.2.1 0 0 (MQ below (zQc E Q) args s 0 0 (zaA E))) Q) := by
  unfold b_X7_walkFetch_36
  exact lk_vret B hr hlk dX7_walkFetch_36
set_option maxRecDepth 20000 in
theorem k_X7_walkFetch_31 {p : Program} {l : Launch} {e : Env} {s : State} {m : MethodId} {args : Array Value} {below : List Frame} {meth : Method} {c : Code} {E : zE} {d : Nat} {Q : zQ} (hd1 : 1 ≤ d) (B : zB p s m args c E mX7_walkFetch.1.cls mX7_walkFetch.2.1 mX7_walkFetch.2.2.1) (hr : meth.sig.returnType = mX7_walkFetch.2.2.2) (hlk : meth.locks = false) : zLk (zG p l e (zrm d) s m args below meth c E mX7_walkFetch.2.2.1 0 0 (MQ below (zQc E Q) args s 0 0 (zaA E))) 31 (b_X7_walkFetch_31 d (zG p l e (zrm d) s m args below meth c E mX7_walkFetch.2.2.1 0 0 (MQ below (zQc E Q) args s 0 0 (zaA E))) Q) := by
  unfold b_X7_walkFetch_31
  exact lk_aln B dX7_walkFetch_31 rfl (lk_c B dX7_walkFetch_32 (lk_pf (T := TX7) B cl_X7 (by decide) in_X7 tyX7_ok nmX7 zw_121 rfl (by decide +kernel) dX7_walkFetch_33 (k_X7_walkFetch_36 hd1 B hr hlk)))
set_option maxRecDepth 20000 in
theorem k_X7_walkFetch_24 {p : Program} {l : Launch} {e : Env} {s : State} {m : MethodId} {args : Array Value} {below : List Frame} {meth : Method} {c : Code} {E : zE} {d : Nat} {Q : zQ} (hd1 : 1 ≤ d) (B : zB p s m args c E mX7_walkFetch.1.cls mX7_walkFetch.2.1 mX7_walkFetch.2.2.1) (hr : meth.sig.returnType = mX7_walkFetch.2.2.2) (hlk : meth.locks = false) : zLk (zG p l e (zrm d) s m args below meth c E mX7_walkFetch.2.2.1 0 0 (MQ below (zQc E Q) args s 0 0 (zaA E))) 24 (b_X7_walkFetch_24 d (zG p l e (zrm d) s m args below meth c E mX7_walkFetch.2.2.1 0 0 (MQ below (zQc E Q) args s 0 0 (zaA E))) Q) := by
  unfold b_X7_walkFetch_24
  exact lk_aln B dX7_walkFetch_24 rfl (lk_callv (M := mX9_missingCount) (T := TX9) (N := 5) B (zhR hd1 (by decide)) ⟨Nat.zero_le _, Nat.zero_le _⟩ cl_X9 (zw5 zw_460 zw_457 zw_458 zw_459 zw_57) (by decide +kernel) dX7_walkFetch_25 (lk_zne B dX7_walkFetch_28 (by decide) (k_X7_walkFetch_36 hd1 B hr hlk) (k_X7_walkFetch_31 hd1 B hr hlk)))
set_option maxRecDepth 20000 in
theorem k_X7_walkFetch_0 {p : Program} {l : Launch} {e : Env} {s : State} {m : MethodId} {args : Array Value} {below : List Frame} {meth : Method} {c : Code} {E : zE} {d : Nat} {Q : zQ} (hd1 : 1 ≤ d) (B : zB p s m args c E mX7_walkFetch.1.cls mX7_walkFetch.2.1 mX7_walkFetch.2.2.1) (hr : meth.sig.returnType = mX7_walkFetch.2.2.2) (hlk : meth.locks = false) : zLk (zG p l e (zrm d) s m args below meth c E mX7_walkFetch.2.2.1 0 0 (MQ below (zQc E Q) args s 0 0 (zaA E))) 0 (b_X7_walkFetch_0 d (zG p l e (zrm d) s m args below meth c E mX7_walkFetch.2.2.1 0 0 (MQ below (zQc E Q) args s 0 0 (zaA E))) Q) := by
  unfold b_X7_walkFetch_0
  exact lk_aln B dX7_walkFetch_0 rfl (lk_callv (M := mX9_restart) (T := TX9) (N := 5) B (zhR hd1 (by decide)) ⟨Nat.zero_le _, Nat.zero_le _⟩ cl_X9 (zw5 zw_425 zw_422 zw_423 zw_424 zw_57) (by decide +kernel) dX7_walkFetch_1 (lk_aln B dX7_walkFetch_4 rfl (lk_aln B dX7_walkFetch_5 rfl (lk_gf (T := TX7) B cl_X7 (by decide) in_X7 zw_119 dX7_walkFetch_6 (lk_aln B dX7_walkFetch_9 rfl (lk_gf (T := TX7) B cl_X7 (by decide) in_X7 zw_123 dX7_walkFetch_10 (lk_callv (M := mX9_goUnder) (T := TX9) (N := 5) B (zhR hd1 (by decide)) ⟨Nat.zero_le _, Nat.zero_le _⟩ cl_X9 (zw5 zw_429 zw_426 zw_427 zw_428 zw_57) (by decide +kernel) dX7_walkFetch_13 (lk_aln B dX7_walkFetch_16 rfl (lk_gf (T := TX7) B cl_X7 (by decide) in_X7 zw_121 dX7_walkFetch_17 (lk_c B dX7_walkFetch_20 (lk_ine B dX7_walkFetch_21 (by decide) (k_X7_walkFetch_36 hd1 B hr hlk) (k_X7_walkFetch_24 hd1 B hr hlk))))))))))))
def S_X7_walkFetch (d : Nat) (G : Nat → zK) (Q : zQ) : Prop := zLk G 0 (b_X7_walkFetch_0 d G Q)
theorem s_X7_walkFetch_0 {d : Nat} {G : Nat → zK} {Q : zQ} (h : S_X7_walkFetch d G Q) {ls st : List zV} {μ : zM} (k : b_X7_walkFetch_0 d G Q ls st μ) : G 0 ls st μ := h ls st μ k
theorem of_X7_walkFetch {d : Nat} {a0 a1 : zV} {μ : zM} {Q : zQ} (hd1 : 1 ≤ d) (h : ∀ G : Nat → zK, S_X7_walkFetch d G Q → G 0 [a0, a1] [] μ) : zCt d mX7_walkFetch [a0, a1] μ Q := zCt.mk (by decide) (Nat.le_of_ble_eq_true rfl) (fun p l e s m args below meth c E B hr hlk => h _ (k_X7_walkFetch_0 hd1 B hr hlk))
