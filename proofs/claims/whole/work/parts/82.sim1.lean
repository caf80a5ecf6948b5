/-! BOTH SIDES: stores up to the order of their blocks -/
theorem zNd_iff {L : List zBk} : zNd L ↔ L.Pairwise (fun a b => a.1 ≠ b.1) := by
  constructor
  · intro h
    rw [List.pairwise_iff_getElem]
    intro i j hi hj hij e
    have := h i j _ _ (List.getElem?_eq_getElem hi) (List.getElem?_eq_getElem hj) e
    omega
  · intro h i j a b ha hb e
    rw [List.pairwise_iff_getElem] at h
    obtain ⟨hi, rfl⟩ := List.getElem?_eq_some_iff.mp ha
    obtain ⟨hj, rfl⟩ := List.getElem?_eq_some_iff.mp hb
    rcases Nat.lt_trichotomy i j with q | q | q
    · exact absurd e (h i j hi hj q)
    · exact q
    · exact absurd e.symm (h j i hj hi q)
theorem zNd_perm {L L' : List zBk} (h : L'.Perm L) (hN : zNd L) : zNd L' := by
  rw [zNd_iff] at hN ⊢
  exact (h.pairwise_iff (fun {a b} (e : a.1 ≠ b.1) => Ne.symm e)).mpr hN
theorem zlk_of_mem {L : List zBk} {x : Int} {bs : List Int} (hN : zNd L) (h : (x, bs) ∈ L) : zlk L x = some bs := by
  cases e : zlk L x with
  | none =>
    exact absurd rfl (zix_neg.mp (zlk_none.mp e) _ h)
  | some bs' =>
    have h2 := zlk_mem e
    obtain ⟨i, hi⟩ := List.getElem?_of_mem h
    obtain ⟨j, hj⟩ := List.getElem?_of_mem h2
    have := hN i j _ _ hi hj rfl
    subst this
    rw [hi] at hj
    cases hj
    rfl
theorem zlk_perm {L L' : List zBk} (h : L'.Perm L) (hN : zNd L) (x : Int) : zlk L' x = zlk L x := by
  cases e : zlk L x with
  | none =>
    rw [zlk_none, zix_neg] at e ⊢
    exact fun b hb => e b (h.mem_iff.mp hb)
  | some bs => exact zlk_of_mem (zNd_perm h hN) (h.mem_iff.mpr (zlk_mem e))
theorem zix_lk {L L' : List zBk} (h : ∀ x, zlk L' x = zlk L x) (x : Int) : zix L' x < 0 ↔ zix L x < 0 := by
  rw [← zlk_none, ← zlk_none, h]
/-- what a batch holds of rows -/
def zKI (rows : List (List Int)) (p : List zBk × Int) : Prop := zNd p.1 ∧ (∀ b ∈ p.1, b.1 = zhash b.2 ∧ b.2 ∈ rows) ∧ (∀ D ∈ rows, ∃ D', (zhash D, D') ∈ p.1) ∧ (p.2 = 0 ∨ p.2 = 1) ∧ (p.2 = 1 ↔ ∃ D ∈ rows, ∃ D' ∈ rows, zhash D = zhash D' ∧ D ≠ D') ∧ p.1.length ≤ rows.length
theorem zKI.step {rows : List (List Int)} {p : List zBk × Int} {D : List Int} (h : zKI rows p) (hl : rows.length < 64) : zKI (rows ++ [D]) (zfb p.1 p.2 D) := by
  obtain ⟨h1, h2, h3, h4, h5, h6⟩ := h
  rw [zfb_eq]
  by_cases c1 : zix p.1 (zhash D) < 0
  · rw [if_pos c1]
    have hno := zix_neg.mp c1
    unfold zapp
    rw [if_pos (by omega)]
    have hnr : ∀ D' ∈ rows, zhash D' ≠ zhash D := fun D' hD' e => by
      obtain ⟨D'', hm⟩ := h3 D' hD'
      exact hno _ hm e
    refine ⟨?_, fun b hb => ?_, fun D' hD' => ?_, h4, ?_, by simp; omega⟩
    · rw [zNd_iff] at h1 ⊢
      rw [List.pairwise_append]
      refine ⟨h1, List.pairwise_singleton _ _, fun a ha b hb => ?_⟩
      simp at hb
      subst hb
      exact hno a ha
    · rcases List.mem_append.mp hb with q | q
      · exact ⟨(h2 b q).1, by simp [(h2 b q).2]⟩
      · simp at q
        subst q
        exact ⟨rfl, by simp⟩
    · rcases List.mem_append.mp hD' with q | q
      · obtain ⟨D'', hm⟩ := h3 D' q
        exact ⟨D'', by simp [hm]⟩
      · simp at q
        subst q
        exact ⟨D', by simp⟩
    · rw [h5]
      constructor
      · rintro ⟨A, hA, C, hC, e⟩
        exact ⟨A, by simp [hA], C, by simp [hC], e⟩
      · rintro ⟨A, hA, C, hC, e1, e2⟩
        simp only [List.mem_append, List.mem_singleton] at hA hC
        rcases hA with hA | rfl
        · rcases hC with hC | rfl
          · exact ⟨A, hA, C, hC, e1, e2⟩
          · exact absurd e1 (hnr A hA)
        · rcases hC with hC | rfl
          · exact absurd e1.symm (hnr C hC)
          · exact absurd rfl e2
  · rw [if_neg c1]
    obtain ⟨D0, hD0⟩ : ∃ D0, zlk p.1 (zhash D) = some D0 := by
      cases e : zlk p.1 (zhash D) with
      | none => exact absurd (zlk_none.mp e) c1
      | some D0 => exact ⟨D0, rfl⟩
    have hm0 := zlk_mem hD0
    obtain ⟨g1, g2⟩ := h2 _ hm0
    simp only at g1 g2
    have k3 : ∀ D' ∈ rows ++ [D], ∃ D'', (zhash D', D'') ∈ p.1 := fun D' hD' => by
      rcases List.mem_append.mp hD' with q | q
      · exact h3 D' q
      · simp at q
        subst q
        exact ⟨D0, hm0⟩
    by_cases c2 : zlk p.1 (zhash D) = some D
    · rw [if_pos c2]
      rw [hD0] at c2
      cases c2
      refine ⟨h1, fun b hb => ⟨(h2 b hb).1, by simp [(h2 b hb).2]⟩, k3, h4, ?_, by simp; omega⟩
      rw [h5]
      constructor
      · rintro ⟨A, hA, C, hC, e⟩
        exact ⟨A, by simp [hA], C, by simp [hC], e⟩
      · rintro ⟨A, hA, C, hC, e⟩
        simp only [List.mem_append, List.mem_singleton] at hA hC
        exact ⟨A, hA.elim id (fun q => by rw [q]; exact g2), C, hC.elim id (fun q => by rw [q]; exact g2), e⟩
    · rw [if_neg c2]
      refine ⟨h1, fun b hb => ⟨(h2 b hb).1, by simp [(h2 b hb).2]⟩, k3, Or.inr rfl, ⟨fun _ => ⟨D, by simp, D0, by simp [g2], g1, fun e => c2 (by rw [hD0, e])⟩, fun _ => rfl⟩, by simp; omega⟩
theorem zmk_KI : ∀ (rows pre : List (List Int)) (p : List zBk × Int), zKI pre p → pre.length + rows.length ≤ 64 → zKI (pre ++ rows) (zmk p rows) := by
  intro rows
  induction rows with
  | nil => intro pre p h _; simpa [zmk] using h
  | cons D r ih =>
    intro pre p h hl
    simp only [List.length_cons] at hl
    have := ih (pre ++ [D]) (zfb p.1 p.2 D) (h.step (by omega)) (by simp; omega)
    simpa [zmk] using this
theorem zmk_ok {rows : List (List Int)} (h : rows.length ≤ 64) : zKI rows (zmk ([], 0) rows) := by
  have := zmk_KI rows [] ([], 0) ⟨fun i j a b ha => by simp at ha, fun b hb => by simp at hb, fun D hD => by simp at hD, Or.inl rfl, by simp, by simp⟩ (by simpa using h)
  simpa using this
theorem zgR_of {rows : List (List Int)} (h : rows.length ≤ 64) (hB : ∀ D ∈ rows, zisB (some D)) : zgR rows := by
  obtain ⟨h1, h2, -⟩ := zmk_ok h
  exact ⟨fun b hb => hB _ (h2 b hb).2, h1⟩
theorem zmk_mem {rows : List (List Int)} (h : rows.length ≤ 64) (h0 : (zmk ([], 0) rows).2 = 0) (b : zBk) : b ∈ (zmk ([], 0) rows).1 ↔ b.1 = zhash b.2 ∧ b.2 ∈ rows := by
  obtain ⟨h1, h2, h3, h4, h5, -⟩ := zmk_ok h
  constructor
  · exact h2 b
  · rintro ⟨e, hm⟩
    obtain ⟨D', hD'⟩ := h3 _ hm
    have g := h2 _ hD'
    simp only at g
    have : b.2 = D' := by
      by_cases q : b.2 = D'
      · exact q
      · have := h5.mpr ⟨b.2, hm, D', g.2, g.1, q⟩
        omega
    rw [← this, ← e] at hD'
    exact hD'
theorem zNd_nodup {L : List zBk} (h : zNd L) : L.Nodup := (zNd_iff.mp h).imp (fun {a b} e q => e (by rw [q]))
theorem zmk_same {rows rows' : List (List Int)} (h : ∀ D, D ∈ rows' ↔ D ∈ rows) (hl : rows.length ≤ 64) (hl' : rows'.length ≤ 64) : (zmk ([], 0) rows').2 = (zmk ([], 0) rows).2 ∧ ((zmk ([], 0) rows).2 = 0 → (zmk ([], 0) rows').1.Perm (zmk ([], 0) rows).1) := by
  obtain ⟨a1, a2, a3, a4, a5, -⟩ := zmk_ok hl
  obtain ⟨b1, b2, b3, b4, b5, -⟩ := zmk_ok hl'
  have e : (zmk ([], 0) rows').2 = 1 ↔ (zmk ([], 0) rows).2 = 1 := by
    rw [a5, b5]
    constructor
    · rintro ⟨A, hA, C, hC, q⟩
      exact ⟨A, (h A).mp hA, C, (h C).mp hC, q⟩
    · rintro ⟨A, hA, C, hC, q⟩
      exact ⟨A, (h A).mpr hA, C, (h C).mpr hC, q⟩
  have e2 : (zmk ([], 0) rows').2 = (zmk ([], 0) rows).2 := by omega
  refine ⟨e2, fun h0 => ?_⟩
  refine (List.perm_ext_iff_of_nodup (zNd_nodup b1) (zNd_nodup a1)).mpr (fun b => ?_)
  rw [zmk_mem hl' (by omega), zmk_mem hl h0, h]
theorem ztk_same {L L' Lb Lb' : List zBk} {c : Int} (hL : L'.Perm L) (hN : zNd L) (hc : c = 0 ∨ c = 1) (hb : c = 0 → Lb'.Perm Lb) : ztkc L' Lb' c = ztkc L Lb c ∧ (ztkc L Lb c = 0 → (zfre L' Lb').Perm (zfre L Lb)) := by
  have hlk := zlk_perm hL hN
  have hix := zix_lk hlk
  rcases hc with rfl | rfl
  · have hb := hb rfl
    have hf : (zfre L' Lb').Perm (zfre L Lb) := by
      have : zfre L' Lb' = Lb'.filter (fun b => decide (zix L b.1 < 0)) := by
        unfold zfre
        congr 1
        funext b
        exact decide_eq_decide.mpr (hix b.1)
      rw [this]
      exact hb.filter _
    have hcl : zcls L' Lb' 0 ↔ zcls L Lb 0 := by
      unfold zcls
      constructor
      · rintro (q | ⟨b, hm, q1, q2⟩)
        · exact Or.inl q
        · exact Or.inr ⟨b, hb.mem_iff.mp hm, fun w => q1 ((hix b.1).mpr w), fun w => q2 ((hlk b.1).trans w)⟩
      · rintro (q | ⟨b, hm, q1, q2⟩)
        · exact Or.inl q
        · exact Or.inr ⟨b, hb.mem_iff.mpr hm, fun w => q1 ((hix b.1).mp w), fun w => q2 ((hlk b.1).symm.trans w)⟩
    refine ⟨?_, fun _ => hf⟩
    unfold ztkc
    rw [hf.length_eq, hL.length_eq]
    rcases zb_or (zcls L Lb 0) with ⟨q1, q2⟩ | ⟨q1, q2⟩
    · rw [q1, zb_t (hcl.mpr q2)]
    · rw [q1, zb_f (fun w => q2 (hcl.mp w))]
  · have e1 : ztkc L Lb 1 = -2 := by unfold ztkc; rw [zb_t (show zcls L Lb 1 from Or.inl rfl)]; rfl
    have e2 : ztkc L' Lb' 1 = -2 := by unfold ztkc; rw [zb_t (show zcls L' Lb' 1 from Or.inl rfl)]; rfl
    rw [e1, e2]
    exact ⟨rfl, fun w => by omega⟩
theorem zdfs_lk {L L' : List zBk} (h : ∀ x, zlk L' x = zlk L x) : ∀ (f : Nat) (S T : List Int), zdfs L' f S T = zdfs L f S T := by
  intro f
  induction f with
  | zero => intro S T; rfl
  | succ f ih =>
    intro S T
    cases T with
    | nil => rfl
    | cons x T =>
      simp only [zdfs]
      rw [h, ih, ih]
theorem zmis_lk {L L' : List zBk} (h : ∀ x, zlk L' x = zlk L x) (S : List Int) : zmis L' S = zmis L S := by
  unfold zmis
  congr 1
  funext x
  exact decide_eq_decide.mpr (zix_lk h x)
theorem zsee_lk {L L' : List zBk} (h : ∀ x, zlk L' x = zlk L x) (fr : Int) : zsee L' fr = zsee L fr := zdfs_lk h _ _ _
theorem zwfs_lk {L L' : List zBk} (h : ∀ x, zlk L' x = zlk L x) (fs fr : Int) : zwfs L' fs fr = zwfs L fs fr := by
  unfold zwfs
  rw [zsee_lk h, zmis_lk h]
theorem zrdp_lk {L L' : List zBk} (h : ∀ x, zlk L' x = zlk L x) : ∀ (f : Nat) (o : Option (List Int)) (p : Int), zrdp L' f o p = zrdp L f o p := by
  intro f
  induction f with
  | zero => intro o p; rfl
  | succ f ih => intro o p; simp only [zrdp]; rw [h, ih]
theorem zrdf_lk {L L' : List zBk} (h : ∀ x, zlk L' x = zlk L x) (nm p : Int) : zrdf L' nm p = zrdf L nm p := by
  unfold zrdf
  rw [h, zrdp_lk h]
theorem zfdp_lk {L L' : List zBk} (h : ∀ x, zlk L' x = zlk L x) (t : Int) : ∀ (f s : Nat) (o : Option (List Int)), zfdp L' t f s o = zfdp L t f s o := by
  intro f
  induction f with
  | zero => intro s o; rfl
  | succ f ih => intro s o; simp only [zfdp]; rw [h, ih]
theorem zfnd_lk {L L' : List zBk} (h : ∀ x, zlk L' x = zlk L x) (nm t : Int) : zfnd L' nm t = zfnd L nm t := by
  unfold zfnd
  rw [h, zfdp_lk h]
theorem zdeep_lk {L L' : List zBk} (h : ∀ x, zlk L' x = zlk L x) : ∀ (P : List zPp) (S : List Int), zdeep L' P S = zdeep L P S := by
  intro P
  induction P with
  | nil => intro S; rfl
  | cons p r ih => intro S; simp only [zdeep]; rw [zdfs_lk h, ih]
theorem zkpt_lk {L L' : List zBk} (h : ∀ x, zlk L' x = zlk L x) (P : List zPp) (fs fr : Int) : zkpt L' P fs fr = zkpt L P fs fr := by
  unfold zkpt
  rw [zdfs_lk h, zdeep_lk h]
