/-! FOLDERS: the reference's rows are the class's -/
theorem z4dvd {s t : Nat} (h : s ≤ t) (ht : t ≤ 3) : (4 : Int) ^ s ∣ 4 ^ t := by
  have h1 : s = 0 ∨ s = 1 ∨ s = 2 ∨ s = 3 := by omega
  have h2 : t = 0 ∨ t = 1 ∨ t = 2 ∨ t = 3 := by omega
  rcases h1 with rfl | rfl | rfl | rfl <;> rcases h2 with rfl | rfl | rfl | rfl <;> first | decide | omega
theorem zsl_mono {Ts : List zPp} {s t : Nat} {p q : Int} (h : s ≤ t) (ht : t ≤ 3) (e : q % 4 ^ s = p) : (∀ a ∈ zsl Ts t q, a ∈ zsl Ts s p) ∧ (zsl Ts t q).length ≤ (zsl Ts s p).length := by
  have key : ∀ a : zPp, 37 * a.1 % 256 % 4 ^ t = q → 37 * a.1 % 256 % 4 ^ s = p := fun a ha => by
    rw [← e, ← ha, Int.emod_emod_of_dvd _ (z4dvd h ht)]
  constructor
  · intro a ha
    obtain ⟨h1, h2⟩ := List.mem_filter.mp ha
    exact List.mem_filter.mpr ⟨h1, by simpa using key a (by simpa using h2)⟩
  · unfold zsl
    rw [← List.countP_eq_length_filter, ← List.countP_eq_length_filter]
    exact List.countP_mono_left (fun a _ ha => by simpa using key a (by simpa using ha))
theorem zlvl_mem {Ts : List zPp} (hSo : zSo Ts) (hr : ∀ q ∈ Ts, 1 ≤ q.1 ∧ q.1 ≤ 255) (D : List Int) : ∀ (f s p : Nat), s + f = 4 → 1 ≤ f → p < 4 ^ s → (D ∈ (zlvl f s (zsl Ts s (p : Int))).1 ↔ ∃ t q : Nat, s ≤ t ∧ t ≤ 3 ∧ q < 4 ^ t ∧ q % 4 ^ s = p ∧ (t = s ∨ zndb Ts t q = true) ∧ D = zrow Ts t q) := by
  intro f
  induction f with
  | zero => intro s p _ h1; omega
  | succ f ih =>
    intro s p hsf _ hp
    have hpi : (0 : Int) ≤ (p : Int) ∧ (p : Int) < 4 ^ s := ⟨by omega, by exact_mod_cast hp⟩
    have hself : ∀ q : Nat, q < 4 ^ s → q % 4 ^ s = p → q = p := fun q h1 h2 => by rw [Nat.mod_eq_of_lt h1] at h2; exact h2
    simp only [zlvl]
    by_cases h4 : (zsl Ts s (p : Int)).length ≤ 4
    · rw [if_pos h4]
      have erow : zrow Ts s p = zforow (zsl Ts s (p : Int)) := by unfold zrow; rw [if_pos h4]
      constructor
      · intro hD
        exact ⟨s, p, Nat.le_refl _, by omega, hp, Nat.mod_eq_of_lt hp, Or.inl rfl, by rw [erow]; simpa using hD⟩
      · rintro ⟨t, q, t1, t2, t3, t4, t5, t6⟩
        by_cases e : t = s
        · subst e
          rw [hself q t3 t4, erow] at t6
          simp [t6]
        · exfalso
          have hb := t5.resolve_left e
          unfold zndb at hb
          simp only [Bool.or_eq_true, Bool.and_eq_true, decide_eq_true_eq] at hb
          have hb := hb.resolve_left (by omega)
          have hm := (zsl_mono (Ts := Ts) (s := s) (t := t - 1) (p := (p : Int)) (q := (q : Int) % 4 ^ (t - 1)) (by omega) (by omega) (by
            rw [Int.emod_emod_of_dvd _ (z4dvd (by omega) (by omega)), ← t4]
            simp)).2
          omega
    · rw [if_neg h4]
      have hs2 : s ≤ 2 := by
        by_cases e3 : s = 3
        · exfalso
          subst e3
          exact h4 (zpig (zsl_so hSo 3 (p : Int)) (fun q hq => hr q (List.mem_filter.mp hq).1) ⟨(p : Int), fun q hq => by simpa using (List.mem_filter.mp hq).2⟩)
        · omega
      have erow : zrow Ts s p = zsrow (zmask (zsl Ts s (p : Int)) s) (fun w => (zlvl f (s + 1) (zpt (zsl Ts s (p : Int)) s w)).2) := by
        unfold zrow
        rw [if_neg h4, show 3 - s = f by omega]
      simp only [List.mem_append, List.mem_singleton]
      rw [← erow]
      have hlt : ∀ w : Nat, w < 4 → p + w * 4 ^ s < 4 ^ (s + 1) := fun w hw => by
        have : w * 4 ^ s ≤ 3 * 4 ^ s := Nat.mul_le_mul_right _ (by omega)
        rw [Nat.pow_succ]
        omega
      have hz : ∀ w : Nat, w < 4 → zpt (zsl Ts s (p : Int)) s w = zsl Ts (s + 1) ((p + w * 4 ^ s : Nat) : Int) := fun w hw => by
        rw [zsl_next (by omega) hw hpi]
        congr 1
      have hmod : ∀ q w : Nat, w < 4 → q % 4 ^ (s + 1) = p + w * 4 ^ s → q % 4 ^ s = p := fun q w hw e => by
        have := Nat.mod_mod_of_dvd q (Nat.pow_dvd_pow 4 (show s ≤ s + 1 by omega))
        rw [← this, e, Nat.add_mul_mod_self_right, Nat.mod_eq_of_lt hp]
      constructor
      · rintro (hD | hD)
        · obtain ⟨w, hw, hD⟩ := List.mem_flatMap.mp hD
          have hw : w < 4 := by simpa using hw
          by_cases hne : zpt (zsl Ts s (p : Int)) s w = []
          · rw [if_pos hne] at hD
            cases hD
          · rw [if_neg hne, hz w hw] at hD
            obtain ⟨t, q, t1, t2, t3, t4, t5, t6⟩ := (ih (s + 1) (p + w * 4 ^ s) (by omega) (by omega) (hlt w hw)).mp hD
            have m1 := hmod q w hw t4
            refine ⟨t, q, by omega, t2, t3, m1, Or.inr ?_, t6⟩
            rcases t5 with e | t5
            · subst e
              rw [Nat.mod_eq_of_lt t3] at t4
              unfold zndb
              rw [hz w hw] at hne
              have b1 : zsl Ts (s + 1) (q : Int) ≠ [] := by rw [t4]; exact hne
              have b2 : 4 < (zsl Ts s ((q : Int) % 4 ^ s)).length := by
                have : (q : Int) % 4 ^ s = (p : Int) := by rw [← m1]; simp
                rw [this]
                omega
              rw [Nat.add_sub_cancel]
              simp [b1, b2]
            · exact t5
        · exact ⟨s, p, Nat.le_refl _, by omega, hp, Nat.mod_eq_of_lt hp, Or.inl rfl, hD⟩
      · rintro ⟨t, q, t1, t2, t3, t4, t5, t6⟩
        by_cases e : t = s
        · subst e
          right
          rw [hself q t3 t4] at t6
          exact t6
        · left
          have hb := t5.resolve_left e
          have hb0 := hb
          unfold zndb at hb
          simp only [Bool.or_eq_true, Bool.and_eq_true, decide_eq_true_eq] at hb
          have hb := hb.resolve_left (by omega)
          obtain ⟨w, hwd⟩ : ∃ w, w = q / 4 ^ s % 4 := ⟨_, rfl⟩
          have hw : w < 4 := by rw [hwd]; exact Nat.mod_lt _ (by omega)
          have hq : q % 4 ^ (s + 1) = p + w * 4 ^ s := by
            rw [Nat.mod_pow_succ, t4, hwd, Nat.mul_comm]
          have hin := (zsl_mono (Ts := Ts) (s := s + 1) (t := t) (p := ((p + w * 4 ^ s : Nat) : Int)) (q := (q : Int)) (by omega) t2 (by rw [← hq]; simp)).1
          have hne : zpt (zsl Ts s (p : Int)) s w ≠ [] := fun q2 => by
            rw [hz w hw] at q2
            rw [q2] at hin
            match h9 : zsl Ts t (q : Int), hb.1 with
            | [], hb1 => exact hb1 rfl
            | a :: r, _ => rw [h9] at hin; simpa using hin a (by simp)
          refine List.mem_flatMap.mpr ⟨w, by simpa using hw, ?_⟩
          rw [if_neg hne, hz w hw]
          exact (ih (s + 1) (p + w * 4 ^ s) (by omega) (by omega) (hlt w hw)).mpr ⟨t, q, by omega, t2, t3, hq, Or.inr hb0, t6⟩
theorem zlr_mem {Ts : List zPp} {D : List Int} : D ∈ zlr Ts 4 ↔ ∃ t q : Nat, t ≤ 3 ∧ q < 4 ^ t ∧ zndb Ts t q = true ∧ D = zrow Ts t q := by
  simp only [zlr, List.mem_append, List.not_mem_nil, false_or, zrws_mem, Nat.sub_zero, Nat.reduceSub]
  constructor
  · rintro (((⟨q, a, b, c⟩ | ⟨q, a, b, c⟩) | ⟨q, a, b, c⟩) | ⟨q, a, b, c⟩)
    · exact ⟨3, q, by omega, a, b, c⟩
    · exact ⟨2, q, by omega, a, b, c⟩
    · exact ⟨1, q, by omega, a, b, c⟩
    · exact ⟨0, q, by omega, a, b, c⟩
  · rintro ⟨t, q, ht, a, b, c⟩
    have : t = 0 ∨ t = 1 ∨ t = 2 ∨ t = 3 := by omega
    rcases this with rfl | rfl | rfl | rfl
    · exact Or.inr ⟨q, a, b, c⟩
    · exact Or.inl (Or.inr ⟨q, a, b, c⟩)
    · exact Or.inl (Or.inl (Or.inr ⟨q, a, b, c⟩))
    · exact Or.inl (Or.inl (Or.inl ⟨q, a, b, c⟩))
theorem zsl_0 (Ts : List zPp) : zsl Ts 0 ((0 : Nat) : Int) = Ts := by
  unfold zsl
  exact List.filter_eq_self.mpr (fun q _ => by simp)
theorem zlr_same {Ts : List zPp} (hSo : zSo Ts) (hr : ∀ q ∈ Ts, 1 ≤ q.1 ∧ q.1 ≤ 255) (D : List Int) : D ∈ zlr Ts 4 ↔ D ∈ (zlvl 4 0 Ts).1 := by
  have := zlvl_mem hSo hr D 4 0 0 (by omega) (by omega) (by omega)
  rw [zsl_0] at this
  rw [this, zlr_mem]
  constructor
  · rintro ⟨t, q, a, b, c, e⟩
    exact ⟨t, q, by omega, a, b, by simp [Nat.mod_one], Or.inr c, e⟩
  · rintro ⟨t, q, _, a, b, _, c, e⟩
    refine ⟨t, q, a, b, ?_, e⟩
    rcases c with rfl | c
    · simp [zndb]
    · exact c
theorem zlvl_blk : ∀ (f s : Nat) (sel : List zPp), s + f = 4 → zSo sel → (∀ q ∈ sel, (1 ≤ q.1 ∧ q.1 ≤ 255) ∧ (0 ≤ q.2 ∧ q.2 ≤ 65520)) → zRs s sel → ∀ D ∈ (zlvl f s sel).1, zisB (some D) := by
  intro f
  induction f with
  | zero =>
    intro s sel hs hS hr hR D hD
    have e : s = 4 := by omega
    subst e
    have := zpig hS (fun q hq => (hr q hq).1) hR.low
    simp only [zlvl, List.mem_singleton] at hD
    rw [hD]
    exact zisB_fold this hS hr
  | succ f ih =>
    intro s sel hs hS hr hR D hD
    simp only [zlvl] at hD
    by_cases h4 : sel.length ≤ 4
    · rw [if_pos h4] at hD
      simp only [List.mem_singleton] at hD
      rw [hD]
      exact zisB_fold h4 hS hr
    · rw [if_neg h4] at hD
      simp only [List.mem_append, List.mem_singleton] at hD
      rcases hD with hD | hD
      · obtain ⟨w, hw, hD⟩ := List.mem_flatMap.mp hD
        split at hD
        · cases hD
        · exact ih (s + 1) _ (by omega) (List.Pairwise.sublist List.filter_sublist hS) (fun q hq => hr q (List.mem_filter.mp hq).1) (hR.next (by omega)) D hD
      · rw [hD]
        obtain ⟨m1, m2⟩ := zmask_bit sel s
        refine zisB_shard ?_ m1 (fun w => zlvl_rg _ _ _)
        match sel, h4, m2 with
        | [], h4, _ => simp at h4
        | a :: r, _, m2 =>
          have hw := zway_rg a.1 s
          obtain ⟨w, hwe⟩ := Int.eq_ofNat_of_zero_le hw.1
          have hb := (m2 w (by omega)).mpr (fun q => by
            have : a ∈ zpt (a :: r) s w := List.mem_filter.mpr ⟨by simp, by simpa using hwe⟩
            rw [q] at this
            cases this)
          by_cases z : zmask (a :: r) s = 0
          · rw [z] at hb
            simp at hb
          · omega
theorem zlvl_gR {Ts : List zPp} (hSo : zSo Ts) (hl : Ts.length ≤ 16) (hr : ∀ q ∈ Ts, (1 ≤ q.1 ∧ q.1 ≤ 255) ∧ (0 ≤ q.2 ∧ q.2 ≤ 65520)) : (∀ D ∈ (zlvl 4 0 Ts).1, zisB (some D)) ∧ (∀ D ∈ zlr Ts 4, zisB (some D)) ∧ zgR (zlr Ts 4) := by
  have h1 : ∀ D ∈ (zlvl 4 0 Ts).1, zisB (some D) := zlvl_blk 4 0 Ts (by omega) hSo hr ⟨0, fun p hp => by simp⟩
  have h2 : ∀ D ∈ zlr Ts 4, zisB (some D) := fun D hD => h1 D ((zlr_same hSo (fun q hq => (hr q hq).1) D).mp hD)
  exact ⟨h1, h2, zgR_of (by have := (zlr_len hl).2.1; omega) h2⟩
theorem zpt_sum (s : Nat) : ∀ sel : List zPp, (zpt sel s 0).length + (zpt sel s 1).length + (zpt sel s 2).length + (zpt sel s 3).length ≤ sel.length := by
  intro sel
  induction sel with
  | nil => simp [zpt]
  | cons a r ih =>
    unfold zpt at ih ⊢
    simp only [List.filter_cons, decide_eq_true_eq, List.length_cons]
    have hw := zway_rg a.1 s
    have : zway a.1 s = 0 ∨ zway a.1 s = 1 ∨ zway a.1 s = 2 ∨ zway a.1 s = 3 := by omega
    rcases this with e | e | e | e <;> simp only [e] <;> simp <;> simp at ih <;> omega
theorem zlvl_len : ∀ (f s : Nat) (sel : List zPp), s + (f + 1) = 4 → zSo sel → (∀ q ∈ sel, 1 ≤ q.1 ∧ q.1 ≤ 255) → zRs s sel → (zlvl (f + 1) s sel).1.length ≤ 1 + f * sel.length := by
  intro f
  induction f with
  | zero =>
    intro s sel hs hS hr hR
    have e : s = 3 := by omega
    subst e
    have := zpig hS hr hR
    simp only [zlvl]
    rw [if_pos this]
    simp
  | succ f ih =>
    intro s sel hs hS hr hR
    rw [zlvl]
    by_cases h4 : sel.length ≤ 4
    · rw [if_pos h4]
      simp
    · rw [if_neg h4]
      have each : ∀ w : Nat, (if zpt sel s w = [] then [] else (zlvl (f + 1) (s + 1) (zpt sel s w)).1).length ≤ (f + 1) * (zpt sel s w).length := fun w => by
        by_cases q : zpt sel s w = []
        · rw [if_pos q]; simp
        · rw [if_neg q]
          have h1 := ih (s + 1) (zpt sel s w) (by omega) (List.Pairwise.sublist List.filter_sublist hS) (fun q hq => hr q (List.mem_filter.mp hq).1) (hR.next (by omega))
          have h2 := List.length_pos_iff.mpr q
          rw [Nat.add_mul]
          omega
      have e0 := each 0
      have e1 := each 1
      have e2 := each 2
      have e3 := each 3
      have hsum := zpt_sum s sel
      have hm : (f + 1) * ((zpt sel s 0).length + (zpt sel s 1).length + (zpt sel s 2).length + (zpt sel s 3).length) ≤ (f + 1) * sel.length := Nat.mul_le_mul_left _ hsum
      simp only [show List.range 4 = [0, 1, 2, 3] from rfl, List.flatMap_cons, List.flatMap_nil, List.length_append, List.length_nil, List.length_cons]
      rw [Nat.mul_add, Nat.mul_add, Nat.mul_add] at hm
      omega
theorem zlvl_64 {Ts : List zPp} (hSo : zSo Ts) (hl : Ts.length ≤ 16) (hr : ∀ q ∈ Ts, 1 ≤ q.1 ∧ q.1 ≤ 255) : (zlvl 4 0 Ts).1.length ≤ 64 := by
  have : (zlvl 4 0 Ts).1.length ≤ 1 + 3 * Ts.length := zlvl_len 3 0 Ts (by omega) hSo hr ⟨0, fun p hp => by simp⟩
  omega
