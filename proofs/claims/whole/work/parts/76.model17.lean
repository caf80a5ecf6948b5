/-! THE REFERENCE: add -/
theorem zebf_spec (B : List Int) : ∀ (f e m : Nat), m ≤ e + f → (zebf B f e m = m ∨ (e ≤ zebf B f e m ∧ zebf B f e m < m ∧ (B.getD (zebf B f e m - 1) 0 + 3 * B.getD (zebf B f e m - 2) 0) % 5 = 0)) ∧ ∀ x, e ≤ x → x < zebf B f e m → x < m → ¬ (B.getD (x - 1) 0 + 3 * B.getD (x - 2) 0) % 5 = 0 := by
  intro f
  induction f with
  | zero =>
    intro e m h
    simp only [zebf]
    exact ⟨Or.inl trivial, fun x h1 h2 h3 => by omega⟩
  | succ f ih =>
    intro e m h
    simp only [zebf]
    by_cases c : e < m
    · rw [if_pos c]
      by_cases g : (B.getD (e - 1) 0 + 3 * B.getD (e - 2) 0) % 5 = 0
      · rw [if_pos g]
        exact ⟨Or.inr ⟨Nat.le_refl _, c, g⟩, fun x h1 h2 h3 => by omega⟩
      · rw [if_neg g]
        obtain ⟨i1, i2⟩ := ih (e + 1) m (by omega)
        refine ⟨?_, fun x h1 h2 h3 => ?_⟩
        · rcases i1 with i1 | i1
          · exact Or.inl i1
          · exact Or.inr ⟨by omega, i1.2⟩
        · by_cases q : x = e
          · rw [q]; exact g
          · exact i2 x (by omega) h2 h3
    · rw [if_neg c]
      exact ⟨Or.inl rfl, fun x h1 h2 h3 => by omega⟩
theorem zend_first {B : List Int} {chunk : Int} {st : Nat} (hc : 0 ≤ chunk ∧ chunk ≤ 8) (hst : st < B.length) : (∀ i, st ≤ i → i + 1 < zend B chunk st → ¬ zcut B i st chunk) ∧ (B.length ≤ zend B chunk st ∨ zcut B (zend B chunk st - 1) st chunk) := by
  obtain ⟨r1, r2, r3, r4⟩ := zend_rg B hc (Nat.le_of_lt hst)
  have r4 := r4 hst
  by_cases h0 : chunk = 0
  · have ez : zend B chunk st = zebf B 8 (st + 2) (min B.length (st + 8)) := by unfold zend zebc; rw [if_pos h0]
    obtain ⟨s1, s2⟩ := zebf_spec B 8 (st + 2) (min B.length (st + 8)) (by omega)
    rw [← ez] at s1 s2
    refine ⟨fun i h1 h2 hcut => ?_, ?_⟩
    · rcases hcut with q | ⟨_, q | ⟨q1, q2⟩⟩
      · omega
      · omega
      · have := s2 (i + 1) (by omega) h2 (by omega)
        simp only [Nat.add_sub_cancel] at this
        rw [show i + 1 - 2 = i - 1 by omega] at this
        exact this q2
    · rcases s1 with q | ⟨q1, q2, q3⟩
      · by_cases hm : B.length ≤ st + 8
        · left; omega
        · right
          exact Or.inr ⟨by omega, Or.inl (by omega)⟩
      · right
        refine Or.inr ⟨by omega, Or.inr ⟨by omega, ?_⟩⟩
        rw [show zend B chunk st - 1 - 1 = zend B chunk st - 2 by omega]
        exact q3
  · have ez : zend B chunk st = min B.length (st + chunk.toNat) := by unfold zend; rw [if_neg h0]
    refine ⟨fun i h1 h2 hcut => ?_, ?_⟩
    · rcases hcut with q | q <;> omega
    · by_cases hm : B.length ≤ st + chunk.toNat
      · left; omega
      · right; left; omega
theorem zgrp_cnt {fan : Nat} (hf : 2 ≤ fan ∧ fan ≤ 4) : ∀ (f : Nat) (ns : List zNo), ns.length ≤ f → (zgrp fan f ns).length = (ns.length + fan - 1) / fan := by
  intro f
  induction f with
  | zero =>
    intro ns h
    have : fan = 2 ∨ fan = 3 ∨ fan = 4 := by omega
    simp only [zgrp, List.length_nil]
    rcases this with rfl | rfl | rfl <;> omega
  | succ f ih =>
    intro ns h
    have h3 : fan = 2 ∨ fan = 3 ∨ fan = 4 := by omega
    cases ns with
    | nil => simp only [zgrp, List.length_nil]; rcases h3 with rfl | rfl | rfl <;> omega
    | cons p r =>
      simp only [zgrp, List.length_cons] at h ⊢
      rw [ih _ (by simp; omega)]
      simp only [List.length_drop, List.length_cons]
      rcases h3 with rfl | rfl | rfl <;> omega
def zlc (fan : Nat) : Nat → Nat → Nat
  | 0, _ => 0
  | f + 1, n => if n ≤ 1 then 0 else (n + fan - 1) / fan + zlc fan f ((n + fan - 1) / fan)
theorem zlevs_cnt {fan : Nat} (hf : 2 ≤ fan ∧ fan ≤ 4) : ∀ (f : Nat) (ns : List zNo), ns.length ≤ 32 → (zlevs fan f ns).1.length = zlc fan f ns.length := by
  intro f
  induction f with
  | zero => intro ns h; simp [zlevs, zlc]
  | succ f ih =>
    intro ns h
    simp only [zlevs, zlc]
    by_cases c : ns.length ≤ 1
    · rw [if_pos c, if_pos c]; rfl
    · rw [if_neg c, if_neg c]
      have e := zgrp_cnt hf 32 ns h
      have hle : (zgrp fan 32 ns).length ≤ 32 := by
        have := (zgrp_len (fan := fan) hf.1 32 ns).1
        omega
      have := ih ((zgrp fan 32 ns).map ztnode) (by simpa using hle)
      simp only [List.length_append, List.length_map] at this ⊢
      rw [this, e]
theorem zlc_2 : ∀ n : Fin 33, zlc 2 32 n ≤ 40 := by decide +kernel
theorem zlc_3 : ∀ n : Fin 33, zlc 3 32 n ≤ 40 := by decide +kernel
theorem zlc_4 : ∀ n : Fin 33, zlc 4 32 n ≤ 40 := by decide +kernel
theorem zlevs_40 {fan : Nat} (hf : 2 ≤ fan ∧ fan ≤ 4) {ns : List zNo} (h : ns.length ≤ 32) : (zlevs fan 32 ns).1.length ≤ 40 := by
  rw [zlevs_cnt hf 32 ns h]
  have h3 : fan = 2 ∨ fan = 3 ∨ fan = 4 := by omega
  rcases h3 with rfl | rfl | rfl
  · exact zlc_2 ⟨ns.length, by omega⟩
  · exact zlc_3 ⟨ns.length, by omega⟩
  · exact zlc_4 ⟨ns.length, by omega⟩
/-- staging and batching come to the same -/
theorem zixf_find (x : Int) : ∀ (l pre : List zBk), (if zixf x l (pre.length : Int) < 0 then none else ((pre ++ l)[(zixf x l (pre.length : Int)).toNat]?).map (·.2)) = (l.find? (fun b => decide (b.1 = x))).map (·.2) := by
  intro l
  induction l with
  | nil => intro pre; rfl
  | cons b r ih =>
    intro pre
    by_cases q : b.1 = x
    · have e : zixf x (b :: r) (pre.length : Int) = (pre.length : Int) := by simp only [zixf]; rw [if_pos q]
      rw [e, if_neg (by omega), Int.toNat_natCast, List.getElem?_append_right (Nat.le_refl _), List.find?_cons_of_pos (by simpa using q)]
      simp
    · have e : zixf x (b :: r) (pre.length : Int) = zixf x r ((pre ++ [b]).length : Int) := by simp only [zixf]; rw [if_neg q]; simp
      have := ih (pre ++ [b])
      rw [e, List.find?_cons_of_neg (by simpa using q), ← this]
      simp
theorem zlk_find (L : List zBk) (x : Int) : zlk L x = (L.find? (fun b => decide (b.1 = x))).map (·.2) := by
  have := zixf_find x L []
  rw [← this]
  unfold zlk zoat zix
  by_cases q : 0 ≤ zixf x L 0
  · rw [if_pos q]
    have : ¬ zixf x L (([] : List zBk).length : Int) < 0 := by
      simp only [List.length_nil]
      change ¬ zixf x L 0 < 0
      omega
    rw [if_neg this]
    rfl
  · rw [if_neg q]
    have : zixf x L (([] : List zBk).length : Int) < 0 := by
      simp only [List.length_nil]
      change zixf x L 0 < 0
      omega
    rw [if_pos this]
theorem zlk_none {L : List zBk} {x : Int} : zlk L x = none ↔ zix L x < 0 := by
  rw [zlk_find, zix_neg]
  simp
theorem zlk_app {L M : List zBk} {x : Int} (h : zix L x < 0) : zlk (L ++ M) x = zlk M x := by
  have := zlk_none.mpr h
  rw [zlk_find] at this ⊢
  rw [zlk_find, List.find?_append]
  simp only [Option.map_eq_none_iff] at this
  rw [this]
  rfl
theorem zlk_one {b : zBk} {x : Int} : zlk [b] x = if b.1 = x then some b.2 else none := by
  rw [zlk_find]
  by_cases q : b.1 = x
  · rw [if_pos q, List.find?_cons_of_pos (by simpa using q)]; rfl
  · rw [if_neg q, List.find?_cons_of_neg (by simpa using q)]; rfl
theorem zlk_mem {L : List zBk} {x : Int} {bs : List Int} (h : zlk L x = some bs) : (x, bs) ∈ L := by
  rcases zix_cases L x with ⟨e, _⟩ | ⟨i, b, e, e2, e3⟩
  · unfold zlk at h; rw [e] at h; simp [zoat] at h
  · unfold zlk at h; rw [e] at h
    simp [zoat, e2] at h
    rw [← h, ← e3]
    exact List.mem_of_getElem? e2
theorem zlk_some_app {L M : List zBk} {x : Int} {bs : List Int} (h : zlk L x = some bs) : zlk (L ++ M) x = some bs := by
  rw [zlk_find] at h ⊢
  rw [List.find?_append]
  simp only [Option.map_eq_some_iff] at h ⊢
  obtain ⟨b, h1, h2⟩ := h
  exact ⟨b, by rw [h1]; rfl, h2⟩
theorem zfre_app (L a b : List zBk) : zfre L (a ++ b) = zfre L a ++ zfre L b := by unfold zfre; exact List.filter_append ..
theorem zfre_in {L : List zBk} {b : zBk} (h : zix L b.1 < 0) : zfre L [b] = [b] := by unfold zfre; rw [List.filter_cons_of_pos (by simpa using h)]; rfl
theorem zfre_out {L : List zBk} {b : zBk} (h : ¬ zix L b.1 < 0) : zfre L [b] = [] := by unfold zfre; rw [List.filter_cons_of_neg (by simpa using h)]; rfl
theorem zlk_fre {L M : List zBk} {x : Int} (h : zix L x < 0) : zlk (zfre L M) x = zlk M x := by
  induction M with
  | nil => rfl
  | cons b r ih =>
    have e2 : (b :: r) = [b] ++ r := rfl
    rw [e2, zfre_app]
    by_cases q : b.1 = x
    · have : zfre L [b] = [b] := zfre_in (by rw [q]; exact h)
      rw [this]
      have hx : zlk [b] x = some b.2 := by rw [zlk_one, if_pos q]
      rw [zlk_some_app hx, zlk_some_app hx]
    · have hb : zix [b] x < 0 := zix_neg.mpr (fun c hc => by rw [List.mem_singleton.mp hc]; exact q)
      have hb2 : zix (zfre L [b]) x < 0 := zix_neg.mpr (fun c hc => by
        have := (List.mem_filter.mp hc).1
        rw [List.mem_singleton.mp this]; exact q)
      rw [zlk_app hb, zlk_app hb2, ih]
theorem zfb_eq (L : List zBk) (c : Int) (D : List Int) : zfb L c D = if zix L (zhash D) < 0 then (zapp 64 L (zhash D, D), c) else if zlk L (zhash D) = some D then (L, c) else (L, 1) := rfl
theorem zsg_mk (L : List zBk) : ∀ (rows : List (List Int)) (p q : List zBk × Int) (n : Nat), rows.length + n ≤ 64 → q.1.length ≤ n → p.1 = zfre L q.1 → (p.2 = 0 ∨ p.2 = 1) → (p.2 = 1 ↔ zcls L q.1 q.2) → (zsgs L p rows).1 = zfre L (zmk q rows).1 ∧ ((zsgs L p rows).2 = 0 ∨ (zsgs L p rows).2 = 1) ∧ ((zsgs L p rows).2 = 1 ↔ zcls L (zmk q rows).1 (zmk q rows).2) := by
  intro rows
  induction rows with
  | nil => intro p q n h0 h1 h2 h3 h4; exact ⟨h2, h3, h4⟩
  | cons D r ih =>
    intro p q n h0 h1 h2 h3 h4
    simp only [List.length_cons] at h0
    have hcons1 : zsgs L p (D :: r) = zsgs L (zsg L p D) r := rfl
    have hcons2 : zmk q (D :: r) = zmk (zfb q.1 q.2 D) r := rfl
    rw [hcons1, hcons2]
    have hap : zapp 64 q.1 (zhash D, D) = q.1 ++ [(zhash D, D)] := by unfold zapp; rw [if_pos (by omega)]
    by_cases a : zix L (zhash D) < 0
    · have hlk : zlk p.1 (zhash D) = zlk q.1 (zhash D) := by rw [h2]; exact zlk_fre a
      have hixx : zix p.1 (zhash D) < 0 ↔ zix q.1 (zhash D) < 0 := by rw [← zlk_none, ← zlk_none, hlk]
      by_cases b : zix q.1 (zhash D) < 0
      · have e1 : zsg L p D = (p.1 ++ [(zhash D, D)], p.2) := by unfold zsg; rw [if_pos a, if_pos (hixx.mpr b)]
        have e2 : zfb q.1 q.2 D = (q.1 ++ [(zhash D, D)], q.2) := by unfold zfb; rw [if_pos b, hap]
        rw [e1, e2]
        refine ih _ _ (n + 1) (by omega) (by simp; omega) ?_ h3 ?_
        · rw [zfre_app, zfre_in (b := (zhash D, D)) a, ← h2]
        · simp only
          rw [h4]
          constructor
          · rintro (w | ⟨c, hc, w⟩)
            · exact Or.inl w
            · exact Or.inr ⟨c, List.mem_append_left _ hc, w⟩
          · rintro (w | ⟨c, hc, w, w2⟩)
            · exact Or.inl w
            · rcases List.mem_append.mp hc with hc | hc
              · exact Or.inr ⟨c, hc, w, w2⟩
              · rw [List.mem_singleton.mp hc] at w; exact absurd a w
      · by_cases t : zlk q.1 (zhash D) = some D
        · have e1 : zsg L p D = p := by unfold zsg; rw [if_pos a, if_neg (fun w => b (hixx.mp w)), if_pos (by rw [hlk]; exact t)]
          have e2 : zfb q.1 q.2 D = q := by rw [zfb_eq, if_neg b, if_pos t]
          rw [e1, e2]
          exact ih _ _ n (by omega) h1 h2 h3 h4
        · have e1 : zsg L p D = (p.1, 1) := by unfold zsg; rw [if_pos a, if_neg (fun w => b (hixx.mp w)), if_neg (by rw [hlk]; exact t)]
          have e2 : zfb q.1 q.2 D = (q.1, 1) := by rw [zfb_eq, if_neg b, if_neg t]
          rw [e1, e2]
          exact ih _ _ n (by omega) h1 h2 (Or.inr rfl) ⟨fun _ => Or.inl rfl, fun _ => rfl⟩
    · by_cases u : zlk L (zhash D) = some D
      · have e1 : zsg L p D = p := by unfold zsg; rw [if_neg a, if_pos u]
        rw [e1]
        by_cases b : zix q.1 (zhash D) < 0
        · have e2 : zfb q.1 q.2 D = (q.1 ++ [(zhash D, D)], q.2) := by unfold zfb; rw [if_pos b, hap]
          rw [e2]
          refine ih _ _ (n + 1) (by omega) (by simp; omega) ?_ h3 ?_
          · rw [zfre_app, zfre_out (b := (zhash D, D)) a, ← h2, List.append_nil]
          · simp only
            rw [h4]
            constructor
            · rintro (w | ⟨c, hc, w⟩)
              · exact Or.inl w
              · exact Or.inr ⟨c, List.mem_append_left _ hc, w⟩
            · rintro (w | ⟨c, hc, w, w2⟩)
              · exact Or.inl w
              · rcases List.mem_append.mp hc with hc | hc
                · exact Or.inr ⟨c, hc, w, w2⟩
                · rw [List.mem_singleton.mp hc] at w2
                  exact absurd u w2
        · by_cases t : zlk q.1 (zhash D) = some D
          · have e2 : zfb q.1 q.2 D = q := by rw [zfb_eq, if_neg b, if_pos t]
            rw [e2]
            exact ih _ _ n (by omega) h1 h2 h3 h4
          · have e2 : zfb q.1 q.2 D = (q.1, 1) := by rw [zfb_eq, if_neg b, if_neg t]
            rw [e2]
            obtain ⟨D', hD'⟩ : ∃ D', zlk q.1 (zhash D) = some D' := by
              cases hq : zlk q.1 (zhash D) with
              | none => exact absurd (zlk_none.mp hq) b
              | some D' => exact ⟨D', rfl⟩
            have hp1 : p.2 = 1 := h4.mpr (Or.inr ⟨(zhash D, D'), zlk_mem hD', a, fun w => by
              have w : zlk L (zhash D) = some D' := w
              rw [u] at w
              rw [hD'] at t
              exact t w.symm⟩)
            exact ih _ _ n (by omega) h1 h2 h3 ⟨fun _ => Or.inl rfl, fun _ => hp1⟩
      · have e1 : zsg L p D = (p.1, 1) := by unfold zsg; rw [if_neg a, if_neg u]
        rw [e1]
        by_cases b : zix q.1 (zhash D) < 0
        · have e2 : zfb q.1 q.2 D = (q.1 ++ [(zhash D, D)], q.2) := by unfold zfb; rw [if_pos b, hap]
          rw [e2]
          refine ih _ _ (n + 1) (by omega) (by simp; omega) ?_ (Or.inr rfl) ⟨fun _ => Or.inr ⟨(zhash D, D), List.mem_append_right _ (List.mem_singleton.mpr rfl), a, u⟩, fun _ => rfl⟩
          rw [zfre_app, zfre_out (b := (zhash D, D)) a, ← h2, List.append_nil]
        · by_cases t : zlk q.1 (zhash D) = some D
          · have e2 : zfb q.1 q.2 D = q := by rw [zfb_eq, if_neg b, if_pos t]
            rw [e2]
            exact ih _ _ n (by omega) h1 h2 (Or.inr rfl) ⟨fun _ => Or.inr ⟨(zhash D, D), zlk_mem t, a, u⟩, fun _ => rfl⟩
          · have e2 : zfb q.1 q.2 D = (q.1, 1) := by rw [zfb_eq, if_neg b, if_neg t]
            rw [e2]
            exact ih _ _ n (by omega) h1 h2 (Or.inr rfl) ⟨fun _ => Or.inl rfl, fun _ => rfl⟩
theorem zsg_ad {x : zStt} {rows : List (List Int)} (h : rows.length ≤ 64) : (zsgs x.1 ([], 0) rows).1 = zfre x.1 (zmk ([], 0) rows).1 ∧ zadC x (zsgs x.1 ([], 0) rows).1 (zsgs x.1 ([], 0) rows).2 = ztkc x.1 (zmk ([], 0) rows).1 (zmk ([], 0) rows).2 ∧ zadX x (zsgs x.1 ([], 0) rows).1 (zsgs x.1 ([], 0) rows).2 = zinS x rows := by
  obtain ⟨e1, e2, e3⟩ := zsg_mk x.1 rows ([], 0) ([], 0) 0 (by omega) (by simp) rfl (Or.inl rfl) ⟨fun w => absurd w (by decide), fun w => by
    rcases w with w | ⟨c, hc, _⟩
    · exact absurd w (by decide)
    · exact absurd hc List.not_mem_nil⟩
  have e4 : zadC x (zsgs x.1 ([], 0) rows).1 (zsgs x.1 ([], 0) rows).2 = ztkc x.1 (zmk ([], 0) rows).1 (zmk ([], 0) rows).2 := by
    unfold zadC ztkc
    rw [← e1]
    rcases zb_or (zcls x.1 (zmk ([], 0) rows).1 (zmk ([], 0) rows).2) with ⟨q1, q2⟩ | ⟨q1, q2⟩
    · rw [q1, if_pos (e3.mpr q2), if_pos rfl]
    · rw [q1, if_neg (fun w => q2 (e3.mp w)), if_neg (show ¬ (0 : Int) = 1 by decide)]
  refine ⟨e1, e4, ?_⟩
  unfold zadX zinS zbiS
  rw [e4, e1]
  rfl
