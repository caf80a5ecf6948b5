/-! ROWS of files and folders are blocks; the reference's rows are the class's -/
theorem zisB_leaf {p : List Int} (h : p.length ≤ 8) : zisB (some (0 :: p)) := by
  left
  refine ⟨by simp [zknd, zp_byte], ?_⟩
  simp [zp_size]
  omega
theorem zisB_tree {g : List zNo} (h1 : 1 ≤ g.length) (h4 : g.length ≤ 4) (hg : ∀ p ∈ g, (0 ≤ p.1 ∧ p.1 ≤ 65520) ∧ (1 ≤ p.2 ∧ p.2 ≤ 65535)) : zisB (some (ztrow g)) := by
  right
  match g, h1, h4, hg with
  | [], h1, _, _ => simp at h1
  | [a], _, _, hg =>
    have ha := hg a (by simp)
    refine ⟨by simp [ztrow, zknd, zp_byte], by simp [ztrow, zknd, zp_byte, zgs], by simp [ztrow, ztpt, zknd, zp_byte, zp_size, zcnt, zpw], fun i hi => ?_⟩
    have hi : i = 0 := by simp [ztrow, zknd, zp_byte, zcnt] at hi; omega
    subst hi
    simp [ztrow, ztpt, zgp1, zlnk, zpsz, zp_pair, zp_size, zp_byte, zknd, zpw]
    omega
  | [a, b], _, _, hg =>
    have ha := hg a (by simp)
    have hb := hg b (by simp)
    refine ⟨by simp [ztrow, zknd, zp_byte], by simp [ztrow, zknd, zp_byte, zgs], by simp [ztrow, ztpt, zknd, zp_byte, zp_size, zcnt, zpw], fun i hi => ?_⟩
    have hi : i = 0 ∨ i = 1 := by simp [ztrow, zknd, zp_byte, zcnt] at hi; omega
    rcases hi with rfl | rfl <;> simp [ztrow, ztpt, zgp1, zlnk, zpsz, zp_pair, zp_size, zp_byte, zknd, zpw] <;> omega
  | [a, b, c], _, _, hg =>
    have ha := hg a (by simp)
    have hb := hg b (by simp)
    have hc := hg c (by simp)
    refine ⟨by simp [ztrow, zknd, zp_byte], by simp [ztrow, zknd, zp_byte, zgs], by simp [ztrow, ztpt, zknd, zp_byte, zp_size, zcnt, zpw], fun i hi => ?_⟩
    have hi : i = 0 ∨ i = 1 ∨ i = 2 := by simp [ztrow, zknd, zp_byte, zcnt] at hi; omega
    rcases hi with rfl | rfl | rfl <;> simp [ztrow, ztpt, zgp1, zlnk, zpsz, zp_pair, zp_size, zp_byte, zknd, zpw] <;> omega
  | [a, b, c, d], _, _, hg =>
    have ha := hg a (by simp)
    have hb := hg b (by simp)
    have hc := hg c (by simp)
    have hd := hg d (by simp)
    refine ⟨by simp [ztrow, zknd, zp_byte], by simp [ztrow, zknd, zp_byte, zgs], by simp [ztrow, ztpt, zknd, zp_byte, zp_size, zcnt, zpw], fun i hi => ?_⟩
    have hi : i = 0 ∨ i = 1 ∨ i = 2 ∨ i = 3 := by simp [ztrow, zknd, zp_byte, zcnt] at hi; omega
    rcases hi with rfl | rfl | rfl | rfl <;> simp [ztrow, ztpt, zgp1, zlnk, zpsz, zp_pair, zp_size, zp_byte, zknd, zpw] <;> omega
  | _ :: _ :: _ :: _ :: _ :: _, _, h4, _ => simp at h4
theorem zisB_fold {g : List zPp} (h4 : g.length ≤ 4) (hs : zSo g) (hg : ∀ p ∈ g, (1 ≤ p.1 ∧ p.1 ≤ 255) ∧ (0 ≤ p.2 ∧ p.2 ≤ 65520)) : zisB (some (zforow g)) := by
  right
  match g, h4, hs, hg with
  | [], _, _, _ =>
    refine ⟨by simp [zforow, zknd, zp_byte], by simp [zforow, zknd, zp_byte, zgs], by simp [zforow, zknd, zp_byte, zp_size, zcnt, zpw], fun i hi => ?_⟩
    simp [zforow, zknd, zp_byte, zcnt] at hi
    omega
  | [a], _, _, hg =>
    have ha := hg a (by simp)
    refine ⟨by simp [zforow, zknd, zp_byte], by simp [zforow, zknd, zp_byte, zgs], by simp [zforow, zfpt, zknd, zp_byte, zp_size, zcnt, zpw], fun i hi => ?_⟩
    have hi : i = 0 := by simp [zforow, zknd, zp_byte, zcnt] at hi; omega
    subst hi
    simp [zforow, zfpt, zgp1, zlnk, zptt, zp_pair, zp_size, zp_byte, zknd, zpw]
    omega
  | [a, b], _, hs, hg =>
    have ha := hg a (by simp)
    have hb := hg b (by simp)
    have o1 := (List.pairwise_cons.mp hs).1 b (by simp)
    refine ⟨by simp [zforow, zknd, zp_byte], by simp [zforow, zknd, zp_byte, zgs], by simp [zforow, zfpt, zknd, zp_byte, zp_size, zcnt, zpw], fun i hi => ?_⟩
    have hi : i = 0 ∨ i = 1 := by simp [zforow, zknd, zp_byte, zcnt] at hi; omega
    rcases hi with rfl | rfl <;> simp [zforow, zfpt, zgp1, zlnk, zptt, zp_pair, zp_size, zp_byte, zknd, zpw] <;> omega
  | [a, b, c], _, hs, hg =>
    have ha := hg a (by simp)
    have hb := hg b (by simp)
    have hc := hg c (by simp)
    have o1 := (List.pairwise_cons.mp hs).1 b (by simp)
    have o2 := (List.pairwise_cons.mp (List.pairwise_cons.mp hs).2).1 c (by simp)
    refine ⟨by simp [zforow, zknd, zp_byte], by simp [zforow, zknd, zp_byte, zgs], by simp [zforow, zfpt, zknd, zp_byte, zp_size, zcnt, zpw], fun i hi => ?_⟩
    have hi : i = 0 ∨ i = 1 ∨ i = 2 := by simp [zforow, zknd, zp_byte, zcnt] at hi; omega
    rcases hi with rfl | rfl | rfl <;> simp [zforow, zfpt, zgp1, zlnk, zptt, zp_pair, zp_size, zp_byte, zknd, zpw] <;> omega
  | [a, b, c, d], _, hs, hg =>
    have ha := hg a (by simp)
    have hb := hg b (by simp)
    have hc := hg c (by simp)
    have hd := hg d (by simp)
    have o1 := (List.pairwise_cons.mp hs).1 b (by simp)
    have o2 := (List.pairwise_cons.mp (List.pairwise_cons.mp hs).2).1 c (by simp)
    have o3 := (List.pairwise_cons.mp (List.pairwise_cons.mp (List.pairwise_cons.mp hs).2).2).1 d (by simp)
    refine ⟨by simp [zforow, zknd, zp_byte], by simp [zforow, zknd, zp_byte, zgs], by simp [zforow, zfpt, zknd, zp_byte, zp_size, zcnt, zpw], fun i hi => ?_⟩
    have hi : i = 0 ∨ i = 1 ∨ i = 2 ∨ i = 3 := by simp [zforow, zknd, zp_byte, zcnt] at hi; omega
    rcases hi with rfl | rfl | rfl | rfl <;> simp [zforow, zfpt, zgp1, zlnk, zptt, zp_pair, zp_size, zp_byte, zknd, zpw] <;> omega
  | _ :: _ :: _ :: _ :: _ :: _, h4, _, _ => simp at h4
theorem zisB_sh {m : Int} {ls : List Int} (hm : 1 ≤ m ∧ m ≤ 15) (hc : zpc m = ls.length) (h4 : ls.length ≤ 4) (hl : ∀ l ∈ ls, 0 ≤ l ∧ l ≤ 65520) : zisB (some (3 :: m :: ls.flatMap (fun l => [l % 256, l / 256]))) := by
  right
  have ek : zknd (some (3 :: m :: ls.flatMap (fun l => [l % 256, l / 256]))) = 3 := by simp [zknd, zp_byte]
  have e1 : zp_byte (some (3 :: m :: ls.flatMap (fun l => [l % 256, l / 256]))) 1 = m := by simp [zp_byte]
  have ec : zcnt (some (3 :: m :: ls.flatMap (fun l => [l % 256, l / 256]))) = ls.length := by
    unfold zcnt
    rw [ek, e1, if_neg (by decide), if_pos rfl, hc]
  refine ⟨by rw [ek]; decide, by rw [ek, e1]; unfold zgs; omega, ?_, fun i hi => ?_⟩
  · rw [ec, ek]
    have : (ls.flatMap (fun l => [l % 256, l / 256])).length = 2 * ls.length := by
      clear ek e1 ec hc h4 hl
      induction ls with
      | nil => rfl
      | cons a r ih => simp only [List.flatMap_cons, List.length_append, List.length_cons, List.length_nil] at ih ⊢; omega
    simp only [zp_size, List.length_cons, this, zpw]
    simp
    omega
  · rw [ec] at hi
    match ls, h4, hl, hi with
    | [], _, _, hi => simp at hi; omega
    | [a], _, hl, hi =>
      have ha := hl a (by simp)
      have hi : i = 0 := by simp at hi; omega
      subst hi
      simp [zgp1, zlnk, zp_pair, zp_size, zp_byte, zknd, zpw]
      omega
    | [a, b], _, hl, hi =>
      have ha := hl a (by simp)
      have hb := hl b (by simp)
      have hi : i = 0 ∨ i = 1 := by simp at hi; omega
      rcases hi with rfl | rfl <;> simp [zgp1, zlnk, zp_pair, zp_size, zp_byte, zknd, zpw] <;> omega
    | [a, b, c], _, hl, hi =>
      have ha := hl a (by simp)
      have hb := hl b (by simp)
      have hc := hl c (by simp)
      have hi : i = 0 ∨ i = 1 ∨ i = 2 := by simp at hi; omega
      rcases hi with rfl | rfl | rfl <;> simp [zgp1, zlnk, zp_pair, zp_size, zp_byte, zknd, zpw] <;> omega
    | [a, b, c, d], _, hl, hi =>
      have ha := hl a (by simp)
      have hb := hl b (by simp)
      have hc := hl c (by simp)
      have hd := hl d (by simp)
      have hi : i = 0 ∨ i = 1 ∨ i = 2 ∨ i = 3 := by simp at hi; omega
      rcases hi with rfl | rfl | rfl | rfl <;> simp [zgp1, zlnk, zp_pair, zp_size, zp_byte, zknd, zpw] <;> omega
    | _ :: _ :: _ :: _ :: _ :: _, h4, _, _ => simp at h4
theorem zpc_bits : ∀ m : Fin 16, zpc ((m : Nat) : Int) = (((List.range 4).filter (fun w => (m : Nat).testBit w)).length : Nat) := by decide +kernel
theorem zsrow_map (mask : Nat) (lk : Nat → Int) : zsrow mask lk = 3 :: (mask : Int) :: (((List.range 4).filter (fun w => mask.testBit w)).map lk).flatMap (fun l => [l % 256, l / 256]) := by
  unfold zsrow
  congr 2
  generalize List.range 4 = R
  induction R with
  | nil => rfl
  | cons a r ih =>
    rw [List.flatMap_cons, ih]
    by_cases h : mask.testBit a
    · rw [List.filter_cons_of_pos (by simpa using h), if_pos h]
      rfl
    · rw [List.filter_cons_of_neg (by simpa using h), if_neg h]
      rfl
theorem zisB_shard {mask : Nat} {lk : Nat → Int} (h1 : 1 ≤ mask) (h16 : mask < 16) (hl : ∀ w, 0 ≤ lk w ∧ lk w ≤ 65520) : zisB (some (zsrow mask lk)) := by
  rw [zsrow_map]
  have hc := zpc_bits ⟨mask, h16⟩
  simp only at hc
  refine zisB_sh (by omega) (by rw [hc]; simp) ?_ (fun l hl' => ?_)
  · rw [List.length_map]
    exact Nat.le_trans (List.length_filter_le _ _) (by simp)
  · obtain ⟨w, -, rfl⟩ := List.mem_map.mp hl'
    exact hl w
theorem zpcs_8 (B : List Int) {chunk : Int} (hc : 0 ≤ chunk ∧ chunk ≤ 8) : ∀ (f st : Nat), st ≤ B.length → ∀ p ∈ zpcs B chunk f st, p.length ≤ 8 ∧ (st < B.length → 1 ≤ p.length) := by
  intro f
  induction f with
  | zero => intro st _ p hp; simp [zpcs] at hp
  | succ f ih =>
    intro st hst p hp
    rw [zpcs_succ] at hp
    obtain ⟨r1, r2, r3, r4⟩ := zend_rg B hc hst
    simp only [List.mem_cons] at hp
    rcases hp with rfl | hp
    · have : (zpce B chunk st).length = zend B chunk st - st := by unfold zpce; simp; omega
      rw [this]
      exact ⟨by omega, fun q => by have := r4 q; omega⟩
    · by_cases q : zend B chunk st < B.length
      · rw [if_pos q] at hp
        have := ih _ r2 p hp
        exact ⟨this.1, fun _ => this.2 q⟩
      · rw [if_neg q] at hp
        cases hp
theorem zgrp_ne {fan : Nat} (hf : 1 ≤ fan) : ∀ (f : Nat) (ns : List zNo), ∀ g ∈ zgrp fan f ns, 1 ≤ g.length := by
  intro f
  induction f with
  | zero => intro ns g hg; simp [zgrp] at hg
  | succ f ih =>
    intro ns g hg
    cases ns with
    | nil => simp [zgrp] at hg
    | cons p r =>
      simp only [zgrp, List.mem_cons] at hg
      rcases hg with rfl | hg
      · simp; omega
      · exact ih _ g hg
theorem zlevs_blk {fan : Nat} (hf : 2 ≤ fan ∧ fan ≤ 4) : ∀ (f : Nat) (ns : List zNo), ns.length ≤ 32 → zNO ns → (∀ p ∈ ns, 1 ≤ p.2) → ∀ D ∈ (zlevs fan f ns).1, zisB (some D) := by
  intro f
  induction f with
  | zero => intro ns _ _ _ D hD; simp [zlevs] at hD
  | succ f ih =>
    intro ns hl hO h1 D hD
    simp only [zlevs] at hD
    by_cases hn : ns.length ≤ 1
    · rw [if_pos hn] at hD
      simp at hD
    · rw [if_neg hn] at hD
      simp only [List.mem_append] at hD
      rcases hD with hD | hD
      · obtain ⟨g, hg, rfl⟩ := List.mem_map.mp hD
        have hm := zgrp_mem (fan := fan) 32 ns g hg
        refine zisB_tree (zgrp_ne (by omega) 32 ns g hg) (Nat.le_trans (zgrp_le (by omega) 32 ns g hg) hf.2) (fun p hp => ?_)
        have a := hO.le (hm p hp)
        have b := h1 p (hm p hp)
        exact ⟨a.1, b, by omega⟩
      · refine ih ((zgrp fan 32 ns).map ztnode) ?_ (hO.grp hf.1 hl) (fun p hp => ?_) D hD
        · rw [List.length_map]
          exact Nat.le_trans (zgrp_len hf.1 32 ns).1 hl
        · obtain ⟨g, hg, rfl⟩ := List.mem_map.mp hp
          have hm := zgrp_mem (fan := fan) 32 ns g hg
          have hne := zgrp_ne (fan := fan) (by omega) 32 ns g hg
          match g, hne, hm with
          | [], hne, _ => simp at hne
          | a :: r, _, hm =>
            have hs := zsum_mem (l := (a :: r).map (·.2)) (fun x hx => by
              obtain ⟨p, hp, rfl⟩ := List.mem_map.mp hx
              have := h1 p (hm p hp)
              omega)
            have := hs.2 a.2 (by simp)
            have := h1 a (hm a (by simp))
            show 1 ≤ ((a :: r).map (·.2)).sum
            omega
theorem zfrow_gR {B : List Int} {chunk : Int} {fan : Nat} (hB : B.length ≤ 32) (hc : 0 ≤ chunk ∧ chunk ≤ 8) (hf : 2 ≤ fan ∧ fan ≤ 4) : (∀ D ∈ zfrow B chunk fan, zisB (some D)) ∧ zgR (zfrow B chunk fan) := by
  have hall : ∀ D ∈ zfrow B chunk fan, zisB (some D) := by
    intro D hD
    unfold zfrow at hD
    rcases List.mem_append.mp hD with hD | hD
    · obtain ⟨p, hp, rfl⟩ := List.mem_map.mp hD
      exact zisB_leaf (zpcs_8 B hc 32 0 (by omega) p hp).1
    · obtain ⟨n1, n2, n3⟩ := zfnod_ok (B := B) hc hB
      by_cases h0 : B.length = 0
      · have : (zfnod B chunk).length ≤ 1 := by
          unfold zfnod
          rw [List.length_map, zpcs_succ]
          rw [if_neg (by omega)]
          simp
        rw [zlevs_done this] at hD
        simp at hD
      · refine zlevs_blk hf 32 _ n2 n1 (fun p hp => ?_) D hD
        unfold zfnod at hp
        obtain ⟨q, hq, rfl⟩ := List.mem_map.mp hp
        have := (zpcs_8 B hc 32 0 (by omega) q hq).2 (by omega)
        show 1 ≤ (q.length : Int)
        omega
  exact ⟨hall, zgR_of (zfrow_len hf) hall⟩
