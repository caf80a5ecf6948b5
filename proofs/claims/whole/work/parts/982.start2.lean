/-! THE START: the worlds -/
theorem zc_0 {D : va_G} {cI cZ cS : ClassId} {al : Nat → Nat} {A : Nat → Prop} {H : Heap} (hP : va_P D vwCl (wX10 cI cZ cS (al 0) al) H) : va_at D vwCl (al 0, zce (zE0 D cI cZ cS al A) (zsh 0) (zmu0 0)) H := by
  rw [zsh_0]
  exact hP 0 _ rfl
theorem zc_1 {D : va_G} {cI cZ cS : ClassId} {al : Nat → Nat} {A : Nat → Prop} {H : Heap} (hP : va_P D vwCl (wX10 cI cZ cS (al 0) al) H) : va_at D vwCl (al 1, zce (zE0 D cI cZ cS al A) (zsh 1) (zmu0 1)) H := by
  rw [zsh_1]
  have h1 : H[al 1]? = some (vp_cell cS (3, .inr (.inr (.inr (.inr (va_up (va_up (va_up (fun _ => none) 0 (some (al 2))) 1 (some (al 10))) 2 (some (al 18)))))))) := hP 1 _ rfl
  show H[al 1]? = some (vp_cell cS (3, .inr (.inr (.inr (.inr (fun j => some (al (([2, 10, 18] : List Nat).getD j 0))))))))
  rw [h1]
  refine congrArg some (zqcell (fun j hj => ?_))
  have h3 : j = 0 ∨ j = 1 ∨ j = 2 := by omega
  rcases h3 with rfl | rfl | rfl <;> rfl
theorem zc_2 {D : va_G} {cI cZ cS : ClassId} {al : Nat → Nat} {A : Nat → Prop} {H : Heap} (hP : va_P D vwCl (wX10 cI cZ cS (al 0) al) H) : va_at D vwCl (al 2, zce (zE0 D cI cZ cS al A) (zsh 2) (zmu0 2)) H := by
  rw [zsh_2]
  exact hP 2 _ rfl
theorem zc_3 {D : va_G} {cI cZ cS : ClassId} {al : Nat → Nat} {A : Nat → Prop} {H : Heap} (hP : va_P D vwCl (wX10 cI cZ cS (al 0) al) H) : va_at D vwCl (al 3, zce (zE0 D cI cZ cS al A) (zsh 3) (zmu0 3)) H := by
  rw [zsh_3]
  exact hP 3 _ rfl
theorem zc_4 {D : va_G} {cI cZ cS : ClassId} {al : Nat → Nat} {A : Nat → Prop} {H : Heap} (hP : va_P D vwCl (wX10 cI cZ cS (al 0) al) H) : va_at D vwCl (al 4, zce (zE0 D cI cZ cS al A) (zsh 4) (zmu0 4)) H := by
  rw [zsh_4]
  exact hP 4 _ rfl
theorem zc_5 {D : va_G} {cI cZ cS : ClassId} {al : Nat → Nat} {A : Nat → Prop} {H : Heap} (hP : va_P D vwCl (wX10 cI cZ cS (al 0) al) H) : va_at D vwCl (al 5, zce (zE0 D cI cZ cS al A) (zsh 5) (zmu0 5)) H := by
  rw [zsh_5]
  exact hP 5 _ rfl
theorem zc_6 {D : va_G} {cI cZ cS : ClassId} {al : Nat → Nat} {A : Nat → Prop} {H : Heap} (hP : va_P D vwCl (wX10 cI cZ cS (al 0) al) H) : va_at D vwCl (al 6, zce (zE0 D cI cZ cS al A) (zsh 6) (zmu0 6)) H := by
  rw [zsh_6]
  exact hP 6 _ rfl
theorem zc_7 {D : va_G} {cI cZ cS : ClassId} {al : Nat → Nat} {A : Nat → Prop} {H : Heap} (hP : va_P D vwCl (wX10 cI cZ cS (al 0) al) H) : va_at D vwCl (al 7, zce (zE0 D cI cZ cS al A) (zsh 7) (zmu0 7)) H := by
  rw [zsh_7]
  exact hP 7 _ rfl
theorem zc_8 {D : va_G} {cI cZ cS : ClassId} {al : Nat → Nat} {A : Nat → Prop} {H : Heap} (hP : va_P D vwCl (wX10 cI cZ cS (al 0) al) H) : va_at D vwCl (al 8, zce (zE0 D cI cZ cS al A) (zsh 8) (zmu0 8)) H := by
  rw [zsh_8]
  exact hP 8 _ rfl
theorem zc_9 {D : va_G} {cI cZ cS : ClassId} {al : Nat → Nat} {A : Nat → Prop} {H : Heap} (hP : va_P D vwCl (wX10 cI cZ cS (al 0) al) H) : va_at D vwCl (al 9, zce (zE0 D cI cZ cS al A) (zsh 9) (zmu0 9)) H := by
  rw [zsh_9]
  exact hP 9 _ rfl
theorem zc_10 {D : va_G} {cI cZ cS : ClassId} {al : Nat → Nat} {A : Nat → Prop} {H : Heap} (hP : va_P D vwCl (wX10 cI cZ cS (al 0) al) H) : va_at D vwCl (al 10, zce (zE0 D cI cZ cS al A) (zsh 10) (zmu0 10)) H := by
  rw [zsh_10]
  exact hP 10 _ rfl
theorem zc_11 {D : va_G} {cI cZ cS : ClassId} {al : Nat → Nat} {A : Nat → Prop} {H : Heap} (hP : va_P D vwCl (wX10 cI cZ cS (al 0) al) H) : va_at D vwCl (al 11, zce (zE0 D cI cZ cS al A) (zsh 11) (zmu0 11)) H := by
  rw [zsh_11]
  exact hP 11 _ rfl
theorem zc_12 {D : va_G} {cI cZ cS : ClassId} {al : Nat → Nat} {A : Nat → Prop} {H : Heap} (hP : va_P D vwCl (wX10 cI cZ cS (al 0) al) H) : va_at D vwCl (al 12, zce (zE0 D cI cZ cS al A) (zsh 12) (zmu0 12)) H := by
  rw [zsh_12]
  exact hP 12 _ rfl
theorem zc_13 {D : va_G} {cI cZ cS : ClassId} {al : Nat → Nat} {A : Nat → Prop} {H : Heap} (hP : va_P D vwCl (wX10 cI cZ cS (al 0) al) H) : va_at D vwCl (al 13, zce (zE0 D cI cZ cS al A) (zsh 13) (zmu0 13)) H := by
  rw [zsh_13]
  exact hP 13 _ rfl
theorem zc_14 {D : va_G} {cI cZ cS : ClassId} {al : Nat → Nat} {A : Nat → Prop} {H : Heap} (hP : va_P D vwCl (wX10 cI cZ cS (al 0) al) H) : va_at D vwCl (al 14, zce (zE0 D cI cZ cS al A) (zsh 14) (zmu0 14)) H := by
  rw [zsh_14]
  exact hP 14 _ rfl
theorem zc_15 {D : va_G} {cI cZ cS : ClassId} {al : Nat → Nat} {A : Nat → Prop} {H : Heap} (hP : va_P D vwCl (wX10 cI cZ cS (al 0) al) H) : va_at D vwCl (al 15, zce (zE0 D cI cZ cS al A) (zsh 15) (zmu0 15)) H := by
  rw [zsh_15]
  exact hP 15 _ rfl
theorem zc_16 {D : va_G} {cI cZ cS : ClassId} {al : Nat → Nat} {A : Nat → Prop} {H : Heap} (hP : va_P D vwCl (wX10 cI cZ cS (al 0) al) H) : va_at D vwCl (al 16, zce (zE0 D cI cZ cS al A) (zsh 16) (zmu0 16)) H := by
  rw [zsh_16]
  exact hP 16 _ rfl
theorem zc_17 {D : va_G} {cI cZ cS : ClassId} {al : Nat → Nat} {A : Nat → Prop} {H : Heap} (hP : va_P D vwCl (wX10 cI cZ cS (al 0) al) H) : va_at D vwCl (al 17, zce (zE0 D cI cZ cS al A) (zsh 17) (zmu0 17)) H := by
  rw [zsh_17]
  exact hP 17 _ rfl
theorem zc_18 {D : va_G} {cI cZ cS : ClassId} {al : Nat → Nat} {A : Nat → Prop} {H : Heap} (hP : va_P D vwCl (wX10 cI cZ cS (al 0) al) H) : va_at D vwCl (al 18, zce (zE0 D cI cZ cS al A) (zsh 18) (zmu0 18)) H := by
  rw [zsh_18]
  exact hP 18 _ rfl
theorem zc_19 {D : va_G} {cI cZ cS : ClassId} {al : Nat → Nat} {A : Nat → Prop} {H : Heap} (hP : va_P D vwCl (wX10 cI cZ cS (al 0) al) H) : va_at D vwCl (al 19, zce (zE0 D cI cZ cS al A) (zsh 19) (zmu0 19)) H := by
  rw [zsh_19]
  exact hP 19 _ rfl
theorem zc_20 {D : va_G} {cI cZ cS : ClassId} {al : Nat → Nat} {A : Nat → Prop} {H : Heap} (hP : va_P D vwCl (wX10 cI cZ cS (al 0) al) H) : va_at D vwCl (al 20, zce (zE0 D cI cZ cS al A) (zsh 20) (zmu0 20)) H := by
  rw [zsh_20]
  exact hP 20 _ rfl
theorem zc_21 {D : va_G} {cI cZ cS : ClassId} {al : Nat → Nat} {A : Nat → Prop} {H : Heap} (hP : va_P D vwCl (wX10 cI cZ cS (al 0) al) H) : va_at D vwCl (al 21, zce (zE0 D cI cZ cS al A) (zsh 21) (zmu0 21)) H := by
  rw [zsh_21]
  exact hP 21 _ rfl
theorem zc_22 {D : va_G} {cI cZ cS : ClassId} {al : Nat → Nat} {A : Nat → Prop} {H : Heap} (hP : va_P D vwCl (wX10 cI cZ cS (al 0) al) H) : va_at D vwCl (al 22, zce (zE0 D cI cZ cS al A) (zsh 22) (zmu0 22)) H := by
  rw [zsh_22]
  exact hP 22 _ rfl
theorem zc_23 {D : va_G} {cI cZ cS : ClassId} {al : Nat → Nat} {A : Nat → Prop} {H : Heap} (hP : va_P D vwCl (wX10 cI cZ cS (al 0) al) H) : va_at D vwCl (al 23, zce (zE0 D cI cZ cS al A) (zsh 23) (zmu0 23)) H := by
  rw [zsh_23]
  exact hP 23 _ rfl
theorem zc_24 {D : va_G} {cI cZ cS : ClassId} {al : Nat → Nat} {A : Nat → Prop} {H : Heap} (hP : va_P D vwCl (wX10 cI cZ cS (al 0) al) H) : va_at D vwCl (al 24, zce (zE0 D cI cZ cS al A) (zsh 24) (zmu0 24)) H := by
  rw [zsh_24]
  exact hP 24 _ rfl
theorem zc_25 {D : va_G} {cI cZ cS : ClassId} {al : Nat → Nat} {A : Nat → Prop} {H : Heap} (hP : va_P D vwCl (wX10 cI cZ cS (al 0) al) H) : va_at D vwCl (al 25, zce (zE0 D cI cZ cS al A) (zsh 25) (zmu0 25)) H := by
  rw [zsh_25]
  exact hP 25 _ rfl
theorem zc_26 {D : va_G} {cI cZ cS : ClassId} {al : Nat → Nat} {A : Nat → Prop} {H : Heap} (hP : va_P D vwCl (wX10 cI cZ cS (al 0) al) H) : va_at D vwCl (al 26, zce (zE0 D cI cZ cS al A) (zsh 26) (zmu0 26)) H := by
  rw [zsh_26]
  exact hP 26 _ rfl
theorem zc_27 {D : va_G} {cI cZ cS : ClassId} {al : Nat → Nat} {A : Nat → Prop} {H : Heap} (hP : va_P D vwCl (wX10 cI cZ cS (al 0) al) H) : va_at D vwCl (al 27, zce (zE0 D cI cZ cS al A) (zsh 27) (zmu0 27)) H := by
  rw [zsh_27]
  exact hP 27 _ rfl
theorem zc_28 {D : va_G} {cI cZ cS : ClassId} {al : Nat → Nat} {A : Nat → Prop} {H : Heap} (hP : va_P D vwCl (wX10 cI cZ cS (al 0) al) H) : va_at D vwCl (al 28, zce (zE0 D cI cZ cS al A) (zsh 28) (zmu0 28)) H := by
  rw [zsh_28]
  exact hP 28 _ rfl
theorem zc_29 {D : va_G} {cI cZ cS : ClassId} {al : Nat → Nat} {A : Nat → Prop} {H : Heap} (hP : va_P D vwCl (wX10 cI cZ cS (al 0) al) H) : va_at D vwCl (al 29, zce (zE0 D cI cZ cS al A) (zsh 29) (zmu0 29)) H := by
  rw [zsh_29]
  exact hP 29 _ rfl
theorem zc_30 {D : va_G} {cI cZ cS : ClassId} {al : Nat → Nat} {A : Nat → Prop} {H : Heap} (hP : va_P D vwCl (wX10 cI cZ cS (al 0) al) H) : va_at D vwCl (al 30, zce (zE0 D cI cZ cS al A) (zsh 30) (zmu0 30)) H := by
  rw [zsh_30]
  exact hP 30 _ rfl
theorem zc_31 {D : va_G} {cI cZ cS : ClassId} {al : Nat → Nat} {A : Nat → Prop} {H : Heap} (hP : va_P D vwCl (wX10 cI cZ cS (al 0) al) H) : va_at D vwCl (al 31, zce (zE0 D cI cZ cS al A) (zsh 31) (zmu0 31)) H := by
  rw [zsh_31]
  exact hP 31 _ rfl
theorem zc_32 {D : va_G} {cI cZ cS : ClassId} {al : Nat → Nat} {A : Nat → Prop} {H : Heap} (hP : va_P D vwCl (wX10 cI cZ cS (al 0) al) H) : va_at D vwCl (al 32, zce (zE0 D cI cZ cS al A) (zsh 32) (zmu0 32)) H := by
  rw [zsh_32]
  exact hP 32 _ rfl
theorem zc_33 {D : va_G} {cI cZ cS : ClassId} {al : Nat → Nat} {A : Nat → Prop} {H : Heap} (hP : va_P D vwCl (wX10 cI cZ cS (al 0) al) H) : va_at D vwCl (al 33, zce (zE0 D cI cZ cS al A) (zsh 33) (zmu0 33)) H := by
  rw [zsh_33]
  exact hP 33 _ rfl
theorem zc_34 {D : va_G} {cI cZ cS : ClassId} {al : Nat → Nat} {A : Nat → Prop} {H : Heap} (hP : va_P D vwCl (wX10 cI cZ cS (al 0) al) H) : va_at D vwCl (al 34, zce (zE0 D cI cZ cS al A) (zsh 34) (zmu0 34)) H := by
  rw [zsh_34]
  exact hP 34 _ rfl
theorem zc_35 {D : va_G} {cI cZ cS : ClassId} {al : Nat → Nat} {A : Nat → Prop} {H : Heap} (hP : va_P D vwCl (wX10 cI cZ cS (al 0) al) H) : va_at D vwCl (al 35, zce (zE0 D cI cZ cS al A) (zsh 35) (zmu0 35)) H := by
  rw [zsh_35]
  exact hP 35 _ rfl
theorem zc_36 {D : va_G} {cI cZ cS : ClassId} {al : Nat → Nat} {A : Nat → Prop} {H : Heap} (hP : va_P D vwCl (wX10 cI cZ cS (al 0) al) H) : va_at D vwCl (al 36, zce (zE0 D cI cZ cS al A) (zsh 36) (zmu0 36)) H := by
  rw [zsh_36]
  exact hP 36 _ rfl
theorem zc_37 {D : va_G} {cI cZ cS : ClassId} {al : Nat → Nat} {A : Nat → Prop} {H : Heap} (hP : va_P D vwCl (wX10 cI cZ cS (al 0) al) H) : va_at D vwCl (al 37, zce (zE0 D cI cZ cS al A) (zsh 37) (zmu0 37)) H := by
  rw [zsh_37]
  exact hP 37 _ rfl
theorem zc_38 {D : va_G} {cI cZ cS : ClassId} {al : Nat → Nat} {A : Nat → Prop} {H : Heap} (hP : va_P D vwCl (wX10 cI cZ cS (al 0) al) H) : va_at D vwCl (al 38, zce (zE0 D cI cZ cS al A) (zsh 38) (zmu0 38)) H := by
  rw [zsh_38]
  exact hP 38 _ rfl
theorem zc_39 {D : va_G} {cI cZ cS : ClassId} {al : Nat → Nat} {A : Nat → Prop} {H : Heap} (hP : va_P D vwCl (wX10 cI cZ cS (al 0) al) H) : va_at D vwCl (al 39, zce (zE0 D cI cZ cS al A) (zsh 39) (zmu0 39)) H := by
  rw [zsh_39]
  exact hP 39 _ rfl
theorem zc_40 {D : va_G} {cI cZ cS : ClassId} {al : Nat → Nat} {A : Nat → Prop} {H : Heap} (hP : va_P D vwCl (wX10 cI cZ cS (al 0) al) H) : va_at D vwCl (al 40, zce (zE0 D cI cZ cS al A) (zsh 40) (zmu0 40)) H := by
  rw [zsh_40]
  exact hP 40 _ rfl
theorem zc_41 {D : va_G} {cI cZ cS : ClassId} {al : Nat → Nat} {A : Nat → Prop} {H : Heap} (hP : va_P D vwCl (wX10 cI cZ cS (al 0) al) H) : va_at D vwCl (al 41, zce (zE0 D cI cZ cS al A) (zsh 41) (zmu0 41)) H := by
  rw [zsh_41]
  exact hP 41 _ rfl
theorem zc_42 {D : va_G} {cI cZ cS : ClassId} {al : Nat → Nat} {A : Nat → Prop} {H : Heap} (hP : va_P D vwCl (wX10 cI cZ cS (al 0) al) H) : va_at D vwCl (al 42, zce (zE0 D cI cZ cS al A) (zsh 42) (zmu0 42)) H := by
  rw [zsh_42]
  exact hP 42 _ rfl
theorem zc_43 {D : va_G} {cI cZ cS : ClassId} {al : Nat → Nat} {A : Nat → Prop} {H : Heap} (hP : va_P D vwCl (wX10 cI cZ cS (al 0) al) H) : va_at D vwCl (al 43, zce (zE0 D cI cZ cS al A) (zsh 43) (zmu0 43)) H := by
  rw [zsh_43]
  exact hP 43 _ rfl
theorem zc_44 {D : va_G} {cI cZ cS : ClassId} {al : Nat → Nat} {A : Nat → Prop} {H : Heap} (hP : va_P D vwCl (wX10 cI cZ cS (al 0) al) H) : va_at D vwCl (al 44, zce (zE0 D cI cZ cS al A) (zsh 44) (zmu0 44)) H := by
  rw [zsh_44]
  exact hP 44 _ rfl
theorem zc_45 {D : va_G} {cI cZ cS : ClassId} {al : Nat → Nat} {A : Nat → Prop} {H : Heap} (hP : va_P D vwCl (wX10 cI cZ cS (al 0) al) H) : va_at D vwCl (al 45, zce (zE0 D cI cZ cS al A) (zsh 45) (zmu0 45)) H := by
  rw [zsh_45]
  exact hP 45 _ rfl
theorem zc_46 {D : va_G} {cI cZ cS : ClassId} {al : Nat → Nat} {A : Nat → Prop} {H : Heap} (hP : va_P D vwCl (wX10 cI cZ cS (al 0) al) H) : va_at D vwCl (al 46, zce (zE0 D cI cZ cS al A) (zsh 46) (zmu0 46)) H := by
  rw [zsh_46]
  exact hP 46 _ rfl
theorem zc_47 {D : va_G} {cI cZ cS : ClassId} {al : Nat → Nat} {A : Nat → Prop} {H : Heap} (hP : va_P D vwCl (wX10 cI cZ cS (al 0) al) H) : va_at D vwCl (al 47, zce (zE0 D cI cZ cS al A) (zsh 47) (zmu0 47)) H := by
  rw [zsh_47]
  exact hP 47 _ rfl
theorem zc_48 {D : va_G} {cI cZ cS : ClassId} {al : Nat → Nat} {A : Nat → Prop} {H : Heap} (hP : va_P D vwCl (wX10 cI cZ cS (al 0) al) H) : va_at D vwCl (al 48, zce (zE0 D cI cZ cS al A) (zsh 48) (zmu0 48)) H := by
  rw [zsh_48]
  exact hP 48 _ rfl
theorem zc_49 {D : va_G} {cI cZ cS : ClassId} {al : Nat → Nat} {A : Nat → Prop} {H : Heap} (hP : va_P D vwCl (wX10 cI cZ cS (al 0) al) H) : va_at D vwCl (al 49, zce (zE0 D cI cZ cS al A) (zsh 49) (zmu0 49)) H := by
  rw [zsh_49]
  exact hP 49 _ rfl
theorem zc_50 {D : va_G} {cI cZ cS : ClassId} {al : Nat → Nat} {A : Nat → Prop} {H : Heap} (hP : va_P D vwCl (wX10 cI cZ cS (al 0) al) H) : va_at D vwCl (al 50, zce (zE0 D cI cZ cS al A) (zsh 50) (zmu0 50)) H := by
  rw [zsh_50]
  exact hP 50 _ rfl
theorem zc_51 {D : va_G} {cI cZ cS : ClassId} {al : Nat → Nat} {A : Nat → Prop} {H : Heap} (hP : va_P D vwCl (wX10 cI cZ cS (al 0) al) H) : va_at D vwCl (al 51, zce (zE0 D cI cZ cS al A) (zsh 51) (zmu0 51)) H := by
  rw [zsh_51]
  exact hP 51 _ rfl
theorem zc_52 {D : va_G} {cI cZ cS : ClassId} {al : Nat → Nat} {A : Nat → Prop} {H : Heap} (hP : va_P D vwCl (wX10 cI cZ cS (al 0) al) H) : va_at D vwCl (al 52, zce (zE0 D cI cZ cS al A) (zsh 52) (zmu0 52)) H := by
  rw [zsh_52]
  exact hP 52 _ rfl
theorem zc_53 {D : va_G} {cI cZ cS : ClassId} {al : Nat → Nat} {A : Nat → Prop} {H : Heap} (hP : va_P D vwCl (wX10 cI cZ cS (al 0) al) H) : va_at D vwCl (al 53, zce (zE0 D cI cZ cS al A) (zsh 53) (zmu0 53)) H := by
  rw [zsh_53]
  exact hP 53 _ rfl
theorem zc_54 {D : va_G} {cI cZ cS : ClassId} {al : Nat → Nat} {A : Nat → Prop} {H : Heap} (hP : va_P D vwCl (wX10 cI cZ cS (al 0) al) H) : va_at D vwCl (al 54, zce (zE0 D cI cZ cS al A) (zsh 54) (zmu0 54)) H := by
  rw [zsh_54]
  exact hP 54 _ rfl
theorem zc_55 {D : va_G} {cI cZ cS : ClassId} {al : Nat → Nat} {A : Nat → Prop} {H : Heap} (hP : va_P D vwCl (wX10 cI cZ cS (al 0) al) H) : va_at D vwCl (al 55, zce (zE0 D cI cZ cS al A) (zsh 55) (zmu0 55)) H := by
  rw [zsh_55]
  exact hP 55 _ rfl
set_option maxRecDepth 100000 in
set_option maxHeartbeats 8000000 in
theorem zc_56 {D : va_G} {cI cZ cS : ClassId} {al : Nat → Nat} {A : Nat → Prop} {H : Heap} (hP : va_P D vwCl (wX11 cI cZ cS (al 56) (fun i => al (56 + i))) H) : va_at D vwCl (al 56, zce (zE0 D cI cZ cS al A) (zsh 56) (zmu0 56)) H := by
  rw [zsh_56]
  simp only [zce, List.mapIdx_cons, List.mapIdx_nil]
  exact hP 0 _ rfl
theorem zc_57 {D : va_G} {cI cZ cS : ClassId} {al : Nat → Nat} {A : Nat → Prop} {H : Heap} (hP : va_P D vwCl (wX11 cI cZ cS (al 56) (fun i => al (56 + i))) H) : va_at D vwCl (al 57, zce (zE0 D cI cZ cS al A) (zsh 57) (zmu0 57)) H := by
  rw [zsh_57]
  exact hP 1 _ rfl
theorem zc_58 {D : va_G} {cI cZ cS : ClassId} {al : Nat → Nat} {A : Nat → Prop} {H : Heap} (hP : va_P D vwCl (wX11 cI cZ cS (al 56) (fun i => al (56 + i))) H) : va_at D vwCl (al 58, zce (zE0 D cI cZ cS al A) (zsh 58) (zmu0 58)) H := by
  rw [zsh_58]
  exact hP 2 _ rfl
theorem zc_59 {D : va_G} {cI cZ cS : ClassId} {al : Nat → Nat} {A : Nat → Prop} {H : Heap} (hP : va_P D vwCl (wX11 cI cZ cS (al 56) (fun i => al (56 + i))) H) : va_at D vwCl (al 59, zce (zE0 D cI cZ cS al A) (zsh 59) (zmu0 59)) H := by
  rw [zsh_59]
  exact hP 3 _ rfl
theorem zc_60 {D : va_G} {cI cZ cS : ClassId} {al : Nat → Nat} {A : Nat → Prop} {H : Heap} (hP : va_P D vwCl (wX11 cI cZ cS (al 56) (fun i => al (56 + i))) H) : va_at D vwCl (al 60, zce (zE0 D cI cZ cS al A) (zsh 60) (zmu0 60)) H := by
  rw [zsh_60]
  exact hP 4 _ rfl
theorem zc_61 {D : va_G} {cI cZ cS : ClassId} {al : Nat → Nat} {A : Nat → Prop} {H : Heap} (hP : va_P D vwCl (wX11 cI cZ cS (al 56) (fun i => al (56 + i))) H) : va_at D vwCl (al 61, zce (zE0 D cI cZ cS al A) (zsh 61) (zmu0 61)) H := by
  rw [zsh_61]
  exact hP 5 _ rfl
theorem zc_62 {D : va_G} {cI cZ cS : ClassId} {al : Nat → Nat} {A : Nat → Prop} {H : Heap} (hP : va_P D vwCl (wX11 cI cZ cS (al 56) (fun i => al (56 + i))) H) : va_at D vwCl (al 62, zce (zE0 D cI cZ cS al A) (zsh 62) (zmu0 62)) H := by
  rw [zsh_62]
  exact hP 6 _ rfl
theorem zc_63 {D : va_G} {cI cZ cS : ClassId} {al : Nat → Nat} {A : Nat → Prop} {H : Heap} (hP : va_P D vwCl (wX11 cI cZ cS (al 56) (fun i => al (56 + i))) H) : va_at D vwCl (al 63, zce (zE0 D cI cZ cS al A) (zsh 63) (zmu0 63)) H := by
  rw [zsh_63]
  exact hP 7 _ rfl
theorem zc_64 {D : va_G} {cI cZ cS : ClassId} {al : Nat → Nat} {A : Nat → Prop} {H : Heap} (hP : va_P D vwCl (wX11 cI cZ cS (al 56) (fun i => al (56 + i))) H) : va_at D vwCl (al 64, zce (zE0 D cI cZ cS al A) (zsh 64) (zmu0 64)) H := by
  rw [zsh_64]
  exact hP 8 _ rfl
theorem zc_65 {D : va_G} {cI cZ cS : ClassId} {al : Nat → Nat} {A : Nat → Prop} {H : Heap} (hP : va_P D vwCl (wX11 cI cZ cS (al 56) (fun i => al (56 + i))) H) : va_at D vwCl (al 65, zce (zE0 D cI cZ cS al A) (zsh 65) (zmu0 65)) H := by
  rw [zsh_65]
  exact hP 9 _ rfl
theorem zc_66 {D : va_G} {cI cZ cS : ClassId} {al : Nat → Nat} {A : Nat → Prop} {H : Heap} (hP : va_P D vwCl (wX11 cI cZ cS (al 56) (fun i => al (56 + i))) H) : va_at D vwCl (al 66, zce (zE0 D cI cZ cS al A) (zsh 66) (zmu0 66)) H := by
  rw [zsh_66]
  exact hP 10 _ rfl
theorem zc_67 {D : va_G} {cI cZ cS : ClassId} {al : Nat → Nat} {A : Nat → Prop} {H : Heap} (hP : va_P D vwCl (wX11 cI cZ cS (al 56) (fun i => al (56 + i))) H) : va_at D vwCl (al 67, zce (zE0 D cI cZ cS al A) (zsh 67) (zmu0 67)) H := by
  rw [zsh_67]
  exact hP 11 _ rfl
theorem zc_68 {D : va_G} {cI cZ cS : ClassId} {al : Nat → Nat} {A : Nat → Prop} {H : Heap} (hP : va_P D vwCl (wX11 cI cZ cS (al 56) (fun i => al (56 + i))) H) : va_at D vwCl (al 68, zce (zE0 D cI cZ cS al A) (zsh 68) (zmu0 68)) H := by
  rw [zsh_68]
  exact hP 12 _ rfl
theorem zc_69 {D : va_G} {cI cZ cS : ClassId} {al : Nat → Nat} {A : Nat → Prop} {H : Heap} (hP : va_P D vwCl (wX11 cI cZ cS (al 56) (fun i => al (56 + i))) H) : va_at D vwCl (al 69, zce (zE0 D cI cZ cS al A) (zsh 69) (zmu0 69)) H := by
  rw [zsh_69]
  exact hP 13 _ rfl
theorem zc_70 {D : va_G} {cI cZ cS : ClassId} {al : Nat → Nat} {A : Nat → Prop} {H : Heap} (hP : va_P D vwCl (wX11 cI cZ cS (al 56) (fun i => al (56 + i))) H) : va_at D vwCl (al 70, zce (zE0 D cI cZ cS al A) (zsh 70) (zmu0 70)) H := by
  rw [zsh_70]
  exact hP 14 _ rfl
theorem zc_71 {D : va_G} {cI cZ cS : ClassId} {al : Nat → Nat} {A : Nat → Prop} {H : Heap} (hP : va_P D vwCl (wX11 cI cZ cS (al 56) (fun i => al (56 + i))) H) : va_at D vwCl (al 71, zce (zE0 D cI cZ cS al A) (zsh 71) (zmu0 71)) H := by
  rw [zsh_71]
  exact hP 15 _ rfl
theorem zc_72 {D : va_G} {cI cZ cS : ClassId} {al : Nat → Nat} {A : Nat → Prop} {H : Heap} (hP : va_P D vwCl (wX11 cI cZ cS (al 56) (fun i => al (56 + i))) H) : va_at D vwCl (al 72, zce (zE0 D cI cZ cS al A) (zsh 72) (zmu0 72)) H := by
  rw [zsh_72]
  exact hP 16 _ rfl
theorem zc_73 {D : va_G} {cI cZ cS : ClassId} {al : Nat → Nat} {A : Nat → Prop} {H : Heap} (hP : va_P D vwCl (wX11 cI cZ cS (al 56) (fun i => al (56 + i))) H) : va_at D vwCl (al 73, zce (zE0 D cI cZ cS al A) (zsh 73) (zmu0 73)) H := by
  rw [zsh_73]
  exact hP 17 _ rfl
theorem zc_74 {D : va_G} {cI cZ cS : ClassId} {al : Nat → Nat} {A : Nat → Prop} {H : Heap} (hP : va_P D vwCl (wX11 cI cZ cS (al 56) (fun i => al (56 + i))) H) : va_at D vwCl (al 74, zce (zE0 D cI cZ cS al A) (zsh 74) (zmu0 74)) H := by
  rw [zsh_74]
  exact hP 18 _ rfl
theorem zc_75 {D : va_G} {cI cZ cS : ClassId} {al : Nat → Nat} {A : Nat → Prop} {H : Heap} (hP : va_P D vwCl (wX11 cI cZ cS (al 56) (fun i => al (56 + i))) H) : va_at D vwCl (al 75, zce (zE0 D cI cZ cS al A) (zsh 75) (zmu0 75)) H := by
  rw [zsh_75]
  exact hP 19 _ rfl
theorem zc_76 {D : va_G} {cI cZ cS : ClassId} {al : Nat → Nat} {A : Nat → Prop} {H : Heap} (hP : va_P D vwCl (wX11 cI cZ cS (al 56) (fun i => al (56 + i))) H) : va_at D vwCl (al 76, zce (zE0 D cI cZ cS al A) (zsh 76) (zmu0 76)) H := by
  rw [zsh_76]
  exact hP 20 _ rfl
theorem zc_77 {D : va_G} {cI cZ cS : ClassId} {al : Nat → Nat} {A : Nat → Prop} {H : Heap} (hP : va_P D vwCl (wX11 cI cZ cS (al 56) (fun i => al (56 + i))) H) : va_at D vwCl (al 77, zce (zE0 D cI cZ cS al A) (zsh 77) (zmu0 77)) H := by
  rw [zsh_77]
  exact hP 21 _ rfl
theorem zc_78 {D : va_G} {cI cZ cS : ClassId} {al : Nat → Nat} {A : Nat → Prop} {H : Heap} (hP : va_P D vwCl (wX11 cI cZ cS (al 56) (fun i => al (56 + i))) H) : va_at D vwCl (al 78, zce (zE0 D cI cZ cS al A) (zsh 78) (zmu0 78)) H := by
  rw [zsh_78]
  exact hP 22 _ rfl
theorem zc_79 {D : va_G} {cI cZ cS : ClassId} {al : Nat → Nat} {A : Nat → Prop} {H : Heap} (hP : va_P D vwCl (wX11 cI cZ cS (al 56) (fun i => al (56 + i))) H) : va_at D vwCl (al 79, zce (zE0 D cI cZ cS al A) (zsh 79) (zmu0 79)) H := by
  rw [zsh_79]
  exact hP 23 _ rfl
theorem zc_80 {D : va_G} {cI cZ cS : ClassId} {al : Nat → Nat} {A : Nat → Prop} {H : Heap} (hP : va_P D vwCl (wX11 cI cZ cS (al 56) (fun i => al (56 + i))) H) : va_at D vwCl (al 80, zce (zE0 D cI cZ cS al A) (zsh 80) (zmu0 80)) H := by
  rw [zsh_80]
  exact hP 24 _ rfl
theorem zc_81 {D : va_G} {cI cZ cS : ClassId} {al : Nat → Nat} {A : Nat → Prop} {H : Heap} (hP : va_P D vwCl (wX11 cI cZ cS (al 56) (fun i => al (56 + i))) H) : va_at D vwCl (al 81, zce (zE0 D cI cZ cS al A) (zsh 81) (zmu0 81)) H := by
  rw [zsh_81]
  exact hP 25 _ rfl
theorem zc_82 {D : va_G} {cI cZ cS : ClassId} {al : Nat → Nat} {A : Nat → Prop} {H : Heap} (hP : va_P D vwCl (wX11 cI cZ cS (al 56) (fun i => al (56 + i))) H) : va_at D vwCl (al 82, zce (zE0 D cI cZ cS al A) (zsh 82) (zmu0 82)) H := by
  rw [zsh_82]
  exact hP 26 _ rfl
theorem zc_83 {D : va_G} {cI cZ cS : ClassId} {al : Nat → Nat} {A : Nat → Prop} {H : Heap} (hP : va_P D vwCl (wX11 cI cZ cS (al 56) (fun i => al (56 + i))) H) : va_at D vwCl (al 83, zce (zE0 D cI cZ cS al A) (zsh 83) (zmu0 83)) H := by
  rw [zsh_83]
  exact hP 27 _ rfl
theorem zc_84 {D : va_G} {cI cZ cS : ClassId} {al : Nat → Nat} {A : Nat → Prop} {H : Heap} (hP : va_P D vwCl (wX11 cI cZ cS (al 56) (fun i => al (56 + i))) H) : va_at D vwCl (al 84, zce (zE0 D cI cZ cS al A) (zsh 84) (zmu0 84)) H := by
  rw [zsh_84]
  exact hP 28 _ rfl
theorem zc_85 {D : va_G} {cI cZ cS : ClassId} {al : Nat → Nat} {A : Nat → Prop} {H : Heap} (hP : va_P D vwCl (wX11 cI cZ cS (al 56) (fun i => al (56 + i))) H) : va_at D vwCl (al 85, zce (zE0 D cI cZ cS al A) (zsh 85) (zmu0 85)) H := by
  rw [zsh_85]
  exact hP 29 _ rfl
theorem zc_86 {D : va_G} {cI cZ cS : ClassId} {al : Nat → Nat} {A : Nat → Prop} {H : Heap} (hP : va_P D vwCl (wX11 cI cZ cS (al 56) (fun i => al (56 + i))) H) : va_at D vwCl (al 86, zce (zE0 D cI cZ cS al A) (zsh 86) (zmu0 86)) H := by
  rw [zsh_86]
  exact hP 30 _ rfl
theorem zc_87 {D : va_G} {cI cZ cS : ClassId} {al : Nat → Nat} {A : Nat → Prop} {H : Heap} (hP : va_P D vwCl (wX11 cI cZ cS (al 56) (fun i => al (56 + i))) H) : va_at D vwCl (al 87, zce (zE0 D cI cZ cS al A) (zsh 87) (zmu0 87)) H := by
  rw [zsh_87]
  exact hP 31 _ rfl
set_option maxRecDepth 100000 in
set_option maxHeartbeats 4000000 in
theorem zworld {D : va_G} {cI cZ cS : ClassId} {al : Nat → Nat} {A : Nat → Prop} {H : Heap} (h1 : va_P D vwCl (wX10 cI cZ cS (al 0) al) H) (h2 : va_P D vwCl (wX11 cI cZ cS (al 56) (fun i => al (56 + i))) H) : va_P D vwCl (zwl (zE0 D cI cZ cS al A) zmu0) H := by
  have key : ∀ k ∈ (0 :: 1 :: 2 :: 3 :: 4 :: 5 :: 6 :: 7 :: 8 :: 9 :: 10 :: 11 :: 12 :: 13 :: 14 :: 15 :: 16 :: 17 :: 18 :: 19 :: 20 :: 21 :: 22 :: 23 :: 24 :: 25 :: 26 :: 27 :: 28 :: 29 :: 30 :: 31 :: 32 :: 33 :: 34 :: 35 :: 36 :: 37 :: 38 :: 39 :: 40 :: 41 :: 42 :: 43 :: 44 :: 45 :: 46 :: 47 :: 48 :: 49 :: 50 :: 51 :: 52 :: 53 :: 54 :: 55 :: 56 :: 57 :: 58 :: 59 :: 60 :: 61 :: 62 :: 63 :: 64 :: 65 :: 66 :: 67 :: 68 :: 69 :: 70 :: 71 :: 72 :: 73 :: 74 :: 75 :: 76 :: 77 :: 78 :: 79 :: 80 :: 81 :: 82 :: 83 :: 84 :: 85 :: 86 :: 87 :: []), va_at D vwCl (al k, zce (zE0 D cI cZ cS al A) (zsh k) (zmu0 k)) H := zfm (zc_0 h1) (zfm (zc_1 h1) (zfm (zc_2 h1) (zfm (zc_3 h1) (zfm (zc_4 h1) (zfm (zc_5 h1) (zfm (zc_6 h1) (zfm (zc_7 h1) (zfm (zc_8 h1) (zfm (zc_9 h1) (zfm (zc_10 h1) (zfm (zc_11 h1) (zfm (zc_12 h1) (zfm (zc_13 h1) (zfm (zc_14 h1) (zfm (zc_15 h1) (zfm (zc_16 h1) (zfm (zc_17 h1) (zfm (zc_18 h1) (zfm (zc_19 h1) (zfm (zc_20 h1) (zfm (zc_21 h1) (zfm (zc_22 h1) (zfm (zc_23 h1) (zfm (zc_24 h1) (zfm (zc_25 h1) (zfm (zc_26 h1) (zfm (zc_27 h1) (zfm (zc_28 h1) (zfm (zc_29 h1) (zfm (zc_30 h1) (zfm (zc_31 h1) (zfm (zc_32 h1) (zfm (zc_33 h1) (zfm (zc_34 h1) (zfm (zc_35 h1) (zfm (zc_36 h1) (zfm (zc_37 h1) (zfm (zc_38 h1) (zfm (zc_39 h1) (zfm (zc_40 h1) (zfm (zc_41 h1) (zfm (zc_42 h1) (zfm (zc_43 h1) (zfm (zc_44 h1) (zfm (zc_45 h1) (zfm (zc_46 h1) (zfm (zc_47 h1) (zfm (zc_48 h1) (zfm (zc_49 h1) (zfm (zc_50 h1) (zfm (zc_51 h1) (zfm (zc_52 h1) (zfm (zc_53 h1) (zfm (zc_54 h1) (zfm (zc_55 h1) (zfm (zc_56 h2) (zfm (zc_57 h2) (zfm (zc_58 h2) (zfm (zc_59 h2) (zfm (zc_60 h2) (zfm (zc_61 h2) (zfm (zc_62 h2) (zfm (zc_63 h2) (zfm (zc_64 h2) (zfm (zc_65 h2) (zfm (zc_66 h2) (zfm (zc_67 h2) (zfm (zc_68 h2) (zfm (zc_69 h2) (zfm (zc_70 h2) (zfm (zc_71 h2) (zfm (zc_72 h2) (zfm (zc_73 h2) (zfm (zc_74 h2) (zfm (zc_75 h2) (zfm (zc_76 h2) (zfm (zc_77 h2) (zfm (zc_78 h2) (zfm (zc_79 h2) (zfm (zc_80 h2) (zfm (zc_81 h2) (zfm (zc_82 h2) (zfm (zc_83 h2) (zfm (zc_84 h2) (zfm (zc_85 h2) (zfm (zc_86 h2) (zfm (zc_87 h2) (zfn))))))))))))))))))))))))))))))))))))))))))))))))))))))))))))))))))))))))))))))))))))))))
  intro k q hk
  obtain ⟨hN, rfl⟩ := zwl_of hk
  have hN : k < 88 := hN
  refine key k ?_
  have e : List.range 88 = (0 :: 1 :: 2 :: 3 :: 4 :: 5 :: 6 :: 7 :: 8 :: 9 :: 10 :: 11 :: 12 :: 13 :: 14 :: 15 :: 16 :: 17 :: 18 :: 19 :: 20 :: 21 :: 22 :: 23 :: 24 :: 25 :: 26 :: 27 :: 28 :: 29 :: 30 :: 31 :: 32 :: 33 :: 34 :: 35 :: 36 :: 37 :: 38 :: 39 :: 40 :: 41 :: 42 :: 43 :: 44 :: 45 :: 46 :: 47 :: 48 :: 49 :: 50 :: 51 :: 52 :: 53 :: 54 :: 55 :: 56 :: 57 :: 58 :: 59 :: 60 :: 61 :: 62 :: 63 :: 64 :: 65 :: 66 :: 67 :: 68 :: 69 :: 70 :: 71 :: 72 :: 73 :: 74 :: 75 :: 76 :: 77 :: 78 :: 79 :: 80 :: 81 :: 82 :: 83 :: 84 :: 85 :: 86 :: 87 :: []) := rfl
  rw [← e]
  exact List.mem_range.mpr hN
set_option maxRecDepth 100000 in
set_option maxHeartbeats 4000000 in
theorem zW_ad (cI cZ cS : ClassId) (al : Nat → Nat) : (wX10 cI cZ cS (al 0) al ++ wX11 cI cZ cS (al 56) (fun i => al (56 + i))).map (·.1) = (List.range 88).map al := rfl
theorem zW_at (cI cZ cS : ClassId) (al : Nat → Nat) {i : Nat} (hi : i < 88) : ∃ e : va_E, (wX10 cI cZ cS (al 0) al ++ wX11 cI cZ cS (al 56) (fun i => al (56 + i)))[i]? = some (al i, e) := by
  have h := congrArg (fun l => l[i]?) (zW_ad cI cZ cS al)
  simp only [List.getElem?_map] at h
  rw [List.getElem?_range hi] at h
  cases e : (wX10 cI cZ cS (al 0) al ++ wX11 cI cZ cS (al 56) (fun i => al (56 + i)))[i]? with
  | none => rw [e] at h; simp at h
  | some q =>
    rw [e] at h
    simp at h
    exact ⟨q.2, by rw [← h]⟩
