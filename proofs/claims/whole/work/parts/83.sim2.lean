/-! BOTH SIDES: what a walk reaches; collecting keeps what a fetch needs -/
theorem zdfs_sub (L : List zBk) : ∀ (f : Nat) (S T : List Int), ∀ x ∈ S, x ∈ zdfs L f S T := by
  intro f
  induction f with
  | zero => intro S T x hx; exact hx
  | succ f ih =>
    intro S T x hx
    cases T with
    | nil => exact hx
    | cons y T =>
      simp only [zdfs]
      split
      · exact ih S T x hx
      · exact ih _ _ x (List.mem_append_left _ hx)
theorem zlks_len {L : List zBk} (hV : zVB L) (x : Int) : (zlks (zlk L x)).length ≤ 4 ∧ (zlk L x = none → zlks (zlk L x) = []) := by
  cases e : zlk L x with
  | none => exact ⟨by simp [zlks, zcnt, zknd, zp_byte], fun _ => by simp [zlks, zcnt, zknd, zp_byte]⟩
  | some bs =>
    have := (hV _ (zlk_mem e)).cnt
    simp only at this
    refine ⟨by simp [zlks]; omega, fun q => by cases q⟩
/-- all is visited, and what is visited is closed under links -/
theorem zdfs_closed {L : List zBk} (hV : zVB L) : ∀ (f : Nat) (S T : List Int), T.length + 4 * zun L S ≤ f → (∀ y ∈ S, ∀ z ∈ zlks (zlk L y), z ∈ S ∨ z ∈ T) → (∀ y ∈ T, y ∈ zdfs L f S T) ∧ ∀ y ∈ zdfs L f S T, ∀ z ∈ zlks (zlk L y), z ∈ zdfs L f S T := by
  intro f
  induction f with
  | zero =>
    intro S T hf hc
    have hT : T = [] := List.eq_nil_of_length_eq_zero (by omega)
    subst hT
    refine ⟨fun y hy => by simp at hy, fun y hy z hz => ?_⟩
    rcases hc y hy z hz with q | q
    · exact q
    · simp at q
  | succ f ih =>
    intro S T hf hc
    cases T with
    | nil =>
      refine ⟨fun y hy => by simp at hy, fun y hy z hz => ?_⟩
      rcases hc y hy z hz with q | q
      · exact q
      · simp at q
    | cons x T =>
      simp only [List.length_cons] at hf
      simp only [zdfs]
      by_cases hx : x ∈ S
      · rw [if_pos hx]
        obtain ⟨a1, a2⟩ := ih S T (by omega) (fun y hy z hz => by
          rcases hc y hy z hz with q | q
          · exact Or.inl q
          · simp only [List.mem_cons] at q
            rcases q with rfl | q
            · exact Or.inl hx
            · exact Or.inr q)
        refine ⟨fun y hy => ?_, a2⟩
        simp only [List.mem_cons] at hy
        rcases hy with rfl | hy
        · exact zdfs_sub L f S T _ hx
        · exact a1 y hy
      · rw [if_neg hx]
        obtain ⟨b1, b2⟩ := zlks_len hV x
        have hfu : (zlks (zlk L x) ++ T).length + 4 * zun L (S ++ [x]) ≤ f := by
          rw [List.length_append]
          cases e : zlk L x with
          | none =>
            rw [e] at b2
            rw [b2 rfl]
            have := zun_mono L S x
            simp only [List.length_nil]
            omega
          | some bs =>
            have h1 := zun_lt (zlk_mem e) (S := S) hx
            simp only at h1
            rw [e] at b1
            omega
        obtain ⟨a1, a2⟩ := ih (S ++ [x]) (zlks (zlk L x) ++ T) hfu (fun y hy z hz => by
          simp only [List.mem_append, List.mem_singleton] at hy ⊢
          rcases hy with hy | rfl
          · rcases hc y hy z hz with q | q
            · exact Or.inl (Or.inl q)
            · simp only [List.mem_cons] at q
              rcases q with rfl | q
              · exact Or.inl (Or.inr rfl)
              · exact Or.inr (Or.inr q)
          · exact Or.inr (Or.inl hz))
        refine ⟨fun y hy => ?_, a2⟩
        simp only [List.mem_cons] at hy
        rcases hy with rfl | hy
        · exact zdfs_sub L f _ _ _ (by simp)
        · exact a1 y (by simp [hy])
/-- nothing else is visited -/
theorem zdfs_min {L : List zBk} {C : Int → Prop} (hC : ∀ y, C y → ∀ z ∈ zlks (zlk L y), C z) : ∀ (f : Nat) (S T : List Int), (∀ y ∈ S, C y) → (∀ y ∈ T, C y) → ∀ y ∈ zdfs L f S T, C y := by
  intro f
  induction f with
  | zero => intro S T hS _ y hy; exact hS y hy
  | succ f ih =>
    intro S T hS hT
    cases T with
    | nil => exact fun y hy => hS y hy
    | cons x T =>
      have hx := hT x (by simp)
      simp only [zdfs]
      split
      · exact ih S T hS (fun y hy => hT y (by simp [hy]))
      · refine ih _ _ (fun y hy => ?_) (fun y hy => ?_)
        · simp only [List.mem_append, List.mem_singleton] at hy
          rcases hy with hy | rfl
          · exact hS y hy
          · exact hx
        · simp only [List.mem_append] at hy
          rcases hy with hy | hy
          · exact hC x hx y hy
          · exact hT y (by simp [hy])
theorem zdfs_eq {L L' : List zBk} : ∀ (f : Nat) (S T : List Int), (∀ x ∈ zdfs L f S T, zlk L' x = zlk L x) → zdfs L' f S T = zdfs L f S T := by
  intro f
  induction f with
  | zero => intro S T _; rfl
  | succ f ih =>
    intro S T h
    cases T with
    | nil => rfl
    | cons x T =>
      simp only [zdfs] at h ⊢
      by_cases hx : x ∈ S
      · rw [if_pos hx] at h ⊢
        rw [if_pos hx]
        exact ih S T h
      · rw [if_neg hx] at h ⊢
        rw [if_neg hx, h x (zdfs_sub L f _ _ x (by simp))]
        exact ih _ _ h
def zCl (L : List zBk) (S : List Int) : Prop := ∀ y ∈ S, ∀ z ∈ zlks (zlk L y), z ∈ S
theorem zdfs_1 {L : List zBk} (hV : zVB L) (hl : L.length ≤ 64) {S : List Int} (h : zCl L S) (x : Int) : x ∈ zdfs L 257 S [x] ∧ zCl L (zdfs L 257 S [x]) := by
  have := zun_le L S
  obtain ⟨a, b⟩ := zdfs_closed hV 257 S [x] (by simp only [List.length_cons, List.length_nil]; omega) (fun y hy z hz => Or.inl (h y hy z hz))
  exact ⟨a x (by simp), b⟩
theorem zdeep_cl {L : List zBk} (hV : zVB L) (hl : L.length ≤ 64) : ∀ (P : List zPp) (S : List Int), zCl L S → zCl L (zdeep L P S) := by
  intro P
  induction P with
  | nil => intro S h; exact h
  | cons p r ih =>
    intro S h
    simp only [zdeep]
    refine ih _ ?_
    split
    · exact (zdfs_1 hV hl h p.1).2
    · exact h
theorem zlk_keep {L : List zBk} {K : List Int} {x : Int} (hx : x ∈ K) : zlk (L.filter (fun b => decide (b.1 ∈ K))) x = zlk L x := by
  rw [zlk_find, zlk_find]
  congr 1
  induction L with
  | nil => rfl
  | cons b r ih =>
    by_cases hb : b.1 ∈ K
    · rw [List.filter_cons_of_pos (by simpa using hb)]
      simp only [List.find?_cons]
      split
      · rfl
      · exact ih
    · rw [List.filter_cons_of_neg (by simpa using hb)]
      have : ¬ b.1 = x := fun q => hb (by rw [q]; exact hx)
      rw [List.find?_cons_of_neg (by simpa using this)]
      exact ih
/-- collecting leaves what a running fetch sees -/
theorem zcl_ms {x : zStt} (hV : zVB x.1) (hl : x.1.length ≤ 64) (hf : x.2.2.1 = 1) : zms (zkpL x.1 x.2.1 x.2.2.1 x.2.2.2.2, x.2) = zms x := by
  have h0 : zCl x.1 [] := fun y hy => by simp at hy
  have h1 := zdeep_cl hV hl x.2.1 [] h0
  obtain ⟨h2, h3⟩ := zdfs_1 hV hl h1 x.2.2.2.2
  have hsub : ∀ y ∈ zsee x.1 x.2.2.2.2, y ∈ zkpt x.1 x.2.1 x.2.2.1 x.2.2.2.2 := fun y hy => by
    unfold zkpt
    rw [if_pos hf]
    refine List.mem_append_left _ ?_
    exact zdfs_min (C := fun z => z ∈ zdfs x.1 257 (zdeep x.1 x.2.1 []) [x.2.2.2.2]) (fun y hy z hz => h3 y hy z hz) 257 [] [x.2.2.2.2] (fun y hy => by simp at hy) (fun y hy => by simp at hy; rw [hy]; exact h2) y hy
  have hk : ∀ y ∈ zsee x.1 x.2.2.2.2, zlk (zkpL x.1 x.2.1 x.2.2.1 x.2.2.2.2) y = zlk x.1 y := fun y hy => zlk_keep (hsub y hy)
  have hs : zsee (zkpL x.1 x.2.1 x.2.2.1 x.2.2.2.2) x.2.2.2.2 = zsee x.1 x.2.2.2.2 := zdfs_eq 257 [] [x.2.2.2.2] hk
  unfold zms
  simp only
  rw [hs]
  unfold zmis
  refine List.filter_congr (fun y hy => ?_)
  refine decide_eq_decide.mpr ?_
  rw [← zlk_none, ← zlk_none, hk y hy]
