/-! THE START: the memory of two new objects -/
def zmu0 : zM := fun k => if k = 3 ∨ k = 11 ∨ k = 19 ∨ k = 35 then (fun j => if j = 0 then 64 else 0) else if k = 41 then (fun j => if j = 0 then 24 else 0) else fun _ => 0
theorem zAR_nil (μ : zM) (c : Nat) : zAR μ c [] := fun j x hj => by simp at hj
theorem zSH_0 {k : Nat} {n : Int} (h : zshK k n) (h0 : zmu0 k 0 = n) (h4 : zmu0 k 4 = 0) : zSH zmu0 k n [] := ⟨h, h0, by rw [h4]; rfl, by rcases h.n with rfl | rfl <;> simp, fun b hb => by simp at hb, fun i b hb => by simp at hb⟩
theorem zWK_0 {w : Nat} (h : zwK w) : zWK zmu0 w (fun _ => false) [] [] := by
  refine ⟨h, fun i hi => ?_, ⟨?_, by simp, zAR_nil _ _, fun x hx => by simp at hx⟩, ⟨?_, by simp, zAR_nil _ _, fun x hx => by simp at hx⟩⟩
  · rcases h with rfl | rfl <;> simp [zmu0]
  · rcases h with rfl | rfl <;> simp [zmu0]
  · rcases h with rfl | rfl <;> simp [zmu0]
def zSt0 : Nat → zStt := fun _ => ([], [], (0, 0, 0))
theorem zST_0 : zST zmu0 := by
  refine ⟨[], [], [], [], zSt0, zSt0, ⟨⟨by simp [zmu0], by simp, zAR_nil _ _, by simp⟩, ⟨by simp [zmu0], by simp, zAR_nil _ _, zAR_nil _ _, by simp⟩, ⟨zSH_0 (by unfold zshK; omega) (by simp [zmu0]) (by simp [zmu0]), zAR_nil _ _, zAR_nil _ _, zAR_nil _ _, by simp⟩, fun s hs => ?_, ⟨[], [], 0, zSH_0 (by unfold zshK; omega) (by simp [zmu0]) (by simp [zmu0]), by simp [zmu0], by simp, by simp, fun j x hj => by simp at hj, by simp [zmu0], Or.inl rfl⟩, ⟨_, _, _, zWK_0 (Or.inl rfl)⟩, ⟨_, _, _, zWK_0 (Or.inr rfl)⟩⟩, ⟨⟨by simp [zmu0], by simp, zAR_nil _ _, by simp⟩, ⟨by simp [zmu0], by simp, zAR_nil _ _, zAR_nil _ _, by simp⟩, ⟨by simp [zmu0], by simp, by simp, fun i m hm => by simp at hm⟩, fun s hs => ?_⟩, List.Perm.refl _, List.Pairwise.nil, fun s hs => ⟨List.Perm.refl _, rfl⟩, fun s hs => ⟨⟨fun b hb => ?_, fun i j a b ha => ?_⟩, fun b hb => ?_, fun h => ?_⟩⟩
  · have h3 : s = 0 ∨ s = 1 ∨ s = 2 := by omega
    rcases h3 with rfl | rfl | rfl
    · exact ⟨zSH_0 (by unfold zshK; omega) (by simp [zmu0]) (by simp [zmu0]), ⟨by unfold zstK; omega, by simp [zmu0, zSt0], by simp [zSt0], zAR_nil _ _, zAR_nil _ _, by simp [zSt0]⟩, ⟨by unfold zstK; omega, by simp [zmu0, zSt0], by simp [zmu0, zSt0], by simp [zmu0, zSt0], by simp [zSt0], by simp [zSt0], by simp [zSt0]⟩⟩
    · exact ⟨zSH_0 (by unfold zshK; omega) (by simp [zmu0]) (by simp [zmu0]), ⟨by unfold zstK; omega, by simp [zmu0, zSt0], by simp [zSt0], zAR_nil _ _, zAR_nil _ _, by simp [zSt0]⟩, ⟨by unfold zstK; omega, by simp [zmu0, zSt0], by simp [zmu0, zSt0], by simp [zmu0, zSt0], by simp [zSt0], by simp [zSt0], by simp [zSt0]⟩⟩
    · exact ⟨zSH_0 (by unfold zshK; omega) (by simp [zmu0]) (by simp [zmu0]), ⟨by unfold zstK; omega, by simp [zmu0, zSt0], by simp [zSt0], zAR_nil _ _, zAR_nil _ _, by simp [zSt0]⟩, ⟨by unfold zstK; omega, by simp [zmu0, zSt0], by simp [zmu0, zSt0], by simp [zmu0, zSt0], by simp [zSt0], by simp [zSt0], by simp [zSt0]⟩⟩
  · exact ⟨⟨by simp [zmu0, zSt0], by simp [zSt0], by simp [zSt0], fun i b hb => by simp [zSt0] at hb⟩, ⟨by simp [zmu0, zSt0], by simp [zSt0], fun i b hb => by simp [zSt0] at hb, by simp [zSt0]⟩, ⟨by simp [zmu0, zSt0], by simp [zmu0, zSt0], by simp [zmu0, zSt0], by simp [zSt0], by simp [zSt0], by simp [zSt0]⟩⟩
  · simp [zSt0] at hb
  · simp [zSt0] at ha
  · simp [zSt0] at hb
  · simp [zSt0] at h
theorem zqcell {cS : ClassId} {n : Nat} {f g : Nat → Option Nat} (h : ∀ j, j < n → f j = g j) : vp_cell cS (n, .inr (.inr (.inr (.inr f)))) = vp_cell cS (n, .inr (.inr (.inr (.inr g)))) := by
  show arrV cS n (fun j => va_rf (f j)) = arrV cS n (fun j => va_rf (g j))
  unfold arrV
  have e : (Array.ofFn (n := n) fun j => va_rf (f j.val)) = Array.ofFn (n := n) fun j => va_rf (g j.val) := by
    congr 1
    funext j
    rw [h j.val j.isLt]
  rw [e]
abbrev zE0 (D : va_G) (cI cZ cS : ClassId) (al : Nat → Nat) (A : Nat → Prop) : zE := (D, cI, cZ, cS, al, A)
def zal0 (q0 : Nat) (u : Nat → Nat) (q1 : Nat) (v : Nat → Nat) (tP b : Nat) : Nat → Nat := fun i => if i = 0 then q0 else if i < 56 then u i else if i = 56 then q1 else if i < 88 then v (i - 56) else if i = 1000 then tP else b
set_option maxRecDepth 100000 in
set_option maxHeartbeats 4000000 in
theorem zw10_c {cI cZ cS : ClassId} {q0 q0' : Nat} {u u' : Nat → Nat} (e : q0 = q0') (h : ∀ i, 1 ≤ i → i < 56 → u i = u' i) : wX10 cI cZ cS q0 u = wX10 cI cZ cS q0' u' := by
  simp only [wX10, e, h 1 (by decide) (by decide), h 2 (by decide) (by decide), h 3 (by decide) (by decide), h 4 (by decide) (by decide), h 5 (by decide) (by decide), h 6 (by decide) (by decide), h 7 (by decide) (by decide), h 8 (by decide) (by decide), h 9 (by decide) (by decide), h 10 (by decide) (by decide), h 11 (by decide) (by decide), h 12 (by decide) (by decide), h 13 (by decide) (by decide), h 14 (by decide) (by decide), h 15 (by decide) (by decide), h 16 (by decide) (by decide), h 17 (by decide) (by decide), h 18 (by decide) (by decide), h 19 (by decide) (by decide), h 20 (by decide) (by decide), h 21 (by decide) (by decide), h 22 (by decide) (by decide), h 23 (by decide) (by decide), h 24 (by decide) (by decide), h 25 (by decide) (by decide), h 26 (by decide) (by decide), h 27 (by decide) (by decide), h 28 (by decide) (by decide), h 29 (by decide) (by decide), h 30 (by decide) (by decide), h 31 (by decide) (by decide), h 32 (by decide) (by decide), h 33 (by decide) (by decide), h 34 (by decide) (by decide), h 35 (by decide) (by decide), h 36 (by decide) (by decide), h 37 (by decide) (by decide), h 38 (by decide) (by decide), h 39 (by decide) (by decide), h 40 (by decide) (by decide), h 41 (by decide) (by decide), h 42 (by decide) (by decide), h 43 (by decide) (by decide), h 44 (by decide) (by decide), h 45 (by decide) (by decide), h 46 (by decide) (by decide), h 47 (by decide) (by decide), h 48 (by decide) (by decide), h 49 (by decide) (by decide), h 50 (by decide) (by decide), h 51 (by decide) (by decide), h 52 (by decide) (by decide), h 53 (by decide) (by decide), h 54 (by decide) (by decide), h 55 (by decide) (by decide)]
set_option maxRecDepth 100000 in
set_option maxHeartbeats 4000000 in
theorem zw11_c {cI cZ cS : ClassId} {q0 q0' : Nat} {u u' : Nat → Nat} (e : q0 = q0') (h : ∀ i, 1 ≤ i → i < 32 → u i = u' i) : wX11 cI cZ cS q0 u = wX11 cI cZ cS q0' u' := by
  simp only [wX11, e, h 1 (by decide) (by decide), h 2 (by decide) (by decide), h 3 (by decide) (by decide), h 4 (by decide) (by decide), h 5 (by decide) (by decide), h 6 (by decide) (by decide), h 7 (by decide) (by decide), h 8 (by decide) (by decide), h 9 (by decide) (by decide), h 10 (by decide) (by decide), h 11 (by decide) (by decide), h 12 (by decide) (by decide), h 13 (by decide) (by decide), h 14 (by decide) (by decide), h 15 (by decide) (by decide), h 16 (by decide) (by decide), h 17 (by decide) (by decide), h 18 (by decide) (by decide), h 19 (by decide) (by decide), h 20 (by decide) (by decide), h 21 (by decide) (by decide), h 22 (by decide) (by decide), h 23 (by decide) (by decide), h 24 (by decide) (by decide), h 25 (by decide) (by decide), h 26 (by decide) (by decide), h 27 (by decide) (by decide), h 28 (by decide) (by decide), h 29 (by decide) (by decide), h 30 (by decide) (by decide), h 31 (by decide) (by decide)]
