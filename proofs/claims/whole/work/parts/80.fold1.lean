/-! FOLDERS: the reference's rows are the class's -/
theorem zsl_perm {T Ts : List zPp} (h : T.Perm Ts) (s : Nat) (p : Int) : (zsl T s p).Perm (zsl Ts s p) := h.filter _
theorem zsl_so {Ts : List zPp} (h : zSo Ts) (s : Nat) (p : Int) : zSo (zsl Ts s p) := List.Pairwise.sublist List.filter_sublist h
theorem zso_one {S : List zPp} (h : zSo S) (x : Int) : (S.filter (fun q => decide (q.1 = x))).length ≤ 1 := by
  have h1 : zSo (S.filter (fun q => decide (q.1 = x))) := List.Pairwise.sublist List.filter_sublist h
  have h2 : ∀ q ∈ S.filter (fun q => decide (q.1 = x)), q.1 = x := fun q hq => by simpa using (List.mem_filter.mp hq).2
  generalize S.filter (fun q => decide (q.1 = x)) = F at h1 h2
  match F, h1, h2 with
  | [], _, _ => simp
  | [a], _, _ => simp
  | a :: b :: r, h1, h2 =>
    have := (List.pairwise_cons.mp h1).1 b (by simp)
    have e1 := h2 a (by simp)
    have e2 := h2 b (by simp)
    omega
theorem zperm_one {A B : List zPp} (h : A.Perm B) (hl : B.length ≤ 1) : A = B := by
  match B, hl, h with
  | [], _, h => exact h.eq_nil
  | [b], _, h => exact List.perm_singleton.mp h
  | _ :: _ :: _, hl, _ => simp at hl
theorem zbt_perm {S S' : List zPp} (h : S.Perm S') (hS : zSo S') (n : Nat) : zbt n S = zbt n S' := by
  unfold zbt
  congr 1
  funext i
  exact zperm_one (h.filter _) (zso_one hS _)
theorem zso_split (n : Int) : ∀ (S : List zPp), zSo S → S.filter (fun q => decide (q.1 ≤ n)) ++ S.filter (fun q => decide (q.1 = n + 1)) = S.filter (fun q => decide (q.1 ≤ n + 1)) := by
  intro S
  induction S with
  | nil => intro _; rfl
  | cons a r ih =>
    intro h
    obtain ⟨h1, h2⟩ := List.pairwise_cons.mp h
    have ih := ih h2
    by_cases c1 : a.1 ≤ n
    · have c2 : ¬ a.1 = n + 1 := by omega
      have c3 : a.1 ≤ n + 1 := by omega
      simp only [List.filter_cons, c1, c2, c3, decide_true, decide_false, if_true]
      simp only [List.cons_append]
      rw [← ih]
      simp
    · by_cases c2 : a.1 = n + 1
      · have e1 : r.filter (fun q => decide (q.1 ≤ n)) = [] := List.filter_eq_nil_iff.mpr (fun q hq => by have := h1 q hq; simp; omega)
        have e2 : r.filter (fun q => decide (q.1 = n + 1)) = [] := List.filter_eq_nil_iff.mpr (fun q hq => by have := h1 q hq; simp; omega)
        have e3 : r.filter (fun q => decide (q.1 ≤ n + 1)) = [] := List.filter_eq_nil_iff.mpr (fun q hq => by have := h1 q hq; simp; omega)
        have c3 : a.1 ≤ n + 1 := by omega
        rw [List.filter_cons_of_neg (by simpa using c1), List.filter_cons_of_pos (by simpa using c2), List.filter_cons_of_pos (by simpa using c3), e1, e2, e3]
        rfl
      · have c3 : ¬ a.1 ≤ n + 1 := by omega
        rw [List.filter_cons_of_neg (by simpa using c1), List.filter_cons_of_neg (by simpa using c2), List.filter_cons_of_neg (by simpa using c3)]
        exact ih
theorem zbt_so {S : List zPp} (hS : zSo S) (h1 : ∀ q ∈ S, 1 ≤ q.1) : ∀ n : Nat, zbt n S = S.filter (fun q => decide (q.1 ≤ (n : Int))) := by
  intro n
  induction n with
  | zero =>
    rw [List.filter_eq_nil_iff.mpr (fun q hq => by have := h1 q hq; simp; omega)]
    simp [zbt]
  | succ n ih =>
    rw [zbt_snoc, ih, zso_split (n : Int) S hS]
    rfl
theorem zbt_sort {S S' : List zPp} (h : S.Perm S') (hS : zSo S') (h1 : ∀ q ∈ S', 1 ≤ q.1 ∧ q.1 ≤ 255) : zbt 255 S = S' := by
  rw [zbt_perm h hS, zbt_so hS (fun q hq => (h1 q hq).1)]
  exact List.filter_eq_self.mpr (fun q hq => by have := h1 q hq; simp; omega)
theorem zsl_next {Ts : List zPp} {s w : Nat} {p : Int} (hs : s ≤ 3) (hw : w < 4) (hp : 0 ≤ p ∧ p < 4 ^ s) : zpt (zsl Ts s p) s w = zsl Ts (s + 1) (p + w * 4 ^ s) := by
  unfold zpt zsl
  rw [List.filter_filter]
  congr 1
  funext q
  unfold zway
  rw [Int.toNat_natCast]
  have key : ((37 * q.1 % 256 / 4 ^ s % 4 = (w : Int)) ∧ (37 * q.1 % 256 % 4 ^ s = p)) ↔ 37 * q.1 % 256 % 4 ^ (s + 1) = p + w * 4 ^ s := by
    have hs3 : s = 0 ∨ s = 1 ∨ s = 2 ∨ s = 3 := by omega
    generalize 37 * q.1 % 256 = x
    have y1 : x / 4 / 4 = x / 16 := by omega
    have y2 : x / 16 / 4 = x / 64 := by omega
    have y3 : x / 64 / 4 = x / 256 := by omega
    rcases hs3 with rfl | rfl | rfl | rfl <;> simp only [Nat.reduceAdd, Int.reducePow] at hp ⊢ <;> omega
  by_cases h : 37 * q.1 % 256 % 4 ^ (s + 1) = p + w * 4 ^ s
  · obtain ⟨h1, h2⟩ := key.mpr h
    rw [decide_eq_true h1, decide_eq_true h2, decide_eq_true h]
    rfl
  · rw [decide_eq_false h]
    by_cases h1 : 37 * q.1 % 256 / 4 ^ s % 4 = (w : Int)
    · by_cases h2 : 37 * q.1 % 256 % 4 ^ s = p
      · exact absurd (key.mp ⟨h1, h2⟩) h
      · rw [decide_eq_false h2]; simp
    · rw [decide_eq_false h1]; simp
/-- the row of the titles with p in their lowest 2 s bits -/
def zrow (Ts : List zPp) (s : Nat) (p : Int) : List Int := if (zsl Ts s p).length ≤ 4 then zforow (zsl Ts s p) else zsrow (zmask (zsl Ts s p) s) (fun w => (zlvl (3 - s) (s + 1) (zpt (zsl Ts s p) s w)).2)
def znod (Ts : List zPp) (s : Nat) (p : Int) : Int := (zlvl (4 - s) s (zsl Ts s p)).2
theorem znod_eq {Ts : List zPp} {s : Nat} {p : Int} (hs : s ≤ 3) : znod Ts s p = zhash (zrow Ts s p) := by
  unfold znod zrow
  rw [show 4 - s = (3 - s) + 1 by omega]
  simp only [zlvl]
  split <;> rfl
/-- a row is needed -/
def zndb (T : List zPp) (s : Nat) (p : Int) : Bool := decide (s = 0) || (decide (zsl T s p ≠ []) && decide (4 < (zsl T (s - 1) (p % 4 ^ (s - 1))).length))
theorem zperm_nil {A B : List zPp} (h : A.Perm B) : A = [] ↔ B = [] := ⟨fun e => by rw [e] at h; exact h.symm.eq_nil, fun e => by rw [e] at h; exact h.eq_nil⟩
theorem zndb_perm {T Ts : List zPp} (h : T.Perm Ts) (s : Nat) (p : Int) : zndb T s p = zndb Ts s p := by
  unfold zndb
  have h1 := zperm_nil (zsl_perm h s p)
  have h2 := (zsl_perm h (s - 1) (p % 4 ^ (s - 1))).length_eq
  rw [h2]
  by_cases e : zsl Ts s p = []
  · simp [e, h1.mpr e]
  · have e2 : ¬ zsl T s p = [] := fun q => e (h1.mp q)
    simp [e, e2]
theorem zfo_row {T Ts : List zPp} (h : T.Perm Ts) (hS : zSo Ts) (hr : ∀ q ∈ Ts, 1 ≤ q.1 ∧ q.1 ≤ 255) (s : Nat) (p : Int) : (2 :: ((zsl T s p).length : Int) :: (zbt 255 (zsl T s p)).flatMap zfpt) = zforow (zsl Ts s p) := by
  rw [zbt_sort (zsl_perm h s p) (zsl_so hS s p) (fun q hq => hr q (List.mem_filter.mp hq).1), (zsl_perm h s p).length_eq]
  rfl
theorem zsh_row {T Ts : List zPp} (h : T.Perm Ts) {s : Nat} {p : Int} (hs : s ≤ 2) (hp : 0 ≤ p ∧ p < 4 ^ s) {lk : Nat → Int} (hlk : ∀ w : Nat, w < 4 → zsl T (s + 1) (p + w * 4 ^ s) ≠ [] → lk w = znod Ts (s + 1) (p + w * 4 ^ s)) : (3 :: (zmb T s p 4 : Int) :: (List.range 4).flatMap (zsf T s p lk)) = zsrow (zmask (zsl Ts s p) s) (fun w => (zlvl (3 - s) (s + 1) (zpt (zsl Ts s p) s w)).2) := by
  have e : ∀ w : Nat, w < 4 → (zsl T (s + 1) (p + w * 4 ^ s) = [] ↔ zpt (zsl Ts s p) s w = []) := fun w hw => by
    rw [zsl_next (by omega) hw hp]
    exact zperm_nil (zsl_perm h _ _)
  have em : zmb T s p 4 = zmask (zsl Ts s p) s := by
    have eb : ∀ w : Nat, w < 4 → (if zsl T (s + 1) (p + w * 4 ^ s) = [] then 0 else 2 ^ w) = zbm (zsl Ts s p) s w := fun w hw => by
      unfold zbm
      by_cases q : zsl T (s + 1) (p + w * 4 ^ s) = []
      · rw [if_pos q, if_pos ((e w hw).mp q)]
      · rw [if_neg q, if_neg (fun x => q ((e w hw).mpr x))]
    unfold zmask
    simp only [zmb]
    rw [eb 0 (by omega), eb 1 (by omega), eb 2 (by omega), eb 3 (by omega)]
    simp
  have ef : (List.range 4).flatMap (zsf T s p lk) = (List.range 4).flatMap (fun w => if (zmask (zsl Ts s p) s).testBit w then [(zlvl (3 - s) (s + 1) (zpt (zsl Ts s p) s w)).2 % 256, (zlvl (3 - s) (s + 1) (zpt (zsl Ts s p) s w)).2 / 256] else []) := by
    have each : ∀ w : Nat, w < 4 → zsf T s p lk w = if (zmask (zsl Ts s p) s).testBit w then [(zlvl (3 - s) (s + 1) (zpt (zsl Ts s p) s w)).2 % 256, (zlvl (3 - s) (s + 1) (zpt (zsl Ts s p) s w)).2 / 256] else [] := fun w hw => by
      have hb := (zmask_bit (zsl Ts s p) s).2 w hw
      unfold zsf
      by_cases q : zsl T (s + 1) (p + w * 4 ^ s) = []
      · rw [if_pos q, if_neg (fun x => (hb.mp x) ((e w hw).mp q))]
      · rw [if_neg q, if_pos (hb.mpr (fun x => q ((e w hw).mpr x))), hlk w hw q]
        unfold znod
        rw [zsl_next (by omega) hw hp, show 4 - (s + 1) = 3 - s by omega]
    simp only [show List.range 4 = [0, 1, 2, 3] from rfl, List.flatMap_cons, List.flatMap_nil]
    rw [each 0 (by omega), each 1 (by omega), each 2 (by omega), each 3 (by omega)]
  rw [em, ef]
  rfl
/-- the reference's rows of level s, the first n numbers -/
def zrws (T : List zPp) (s : Nat) : Nat → List (List Int)
  | 0 => []
  | n + 1 => zrws T s n ++ (if zndb T s n then [zrow T s n] else [])
theorem zrws_len (T : List zPp) (s : Nat) (hs : 1 ≤ s) : ∀ n : Nat, (zrws T s n).length ≤ T.countP (fun q => decide (37 * q.1 % 256 % 4 ^ s < (n : Int) ∧ 0 ≤ 37 * q.1 % 256 % 4 ^ s)) := by
  intro n
  induction n with
  | zero => simp [zrws]
  | succ n ih =>
    have e : T.countP (fun q => decide (37 * q.1 % 256 % 4 ^ s < ((n + 1 : Nat) : Int) ∧ 0 ≤ 37 * q.1 % 256 % 4 ^ s)) = T.countP (fun q => decide (37 * q.1 % 256 % 4 ^ s < (n : Int) ∧ 0 ≤ 37 * q.1 % 256 % 4 ^ s)) + T.countP (fun q => decide (37 * q.1 % 256 % 4 ^ s = (n : Int))) := by
      refine zcp_add (fun q => ?_) T
      simp only [decide_eq_true_eq]
      split <;> split <;> split <;> omega
    simp only [zrws]
    rw [List.length_append, e, List.countP_eq_length_filter (p := fun q : zPp => decide (37 * q.1 % 256 % 4 ^ s = (n : Int)))]
    have h1 : (if zndb T s n then [zrow T s n] else []).length ≤ (zsl T s n).length := by
      by_cases hn : zndb T s n = true
      · rw [if_pos hn]
        have : zsl T s n ≠ [] := by
          unfold zndb at hn
          simp only [Bool.or_eq_true, Bool.and_eq_true, decide_eq_true_eq] at hn
          rcases hn with q | q
          · omega
          · exact q.1
        have := List.length_pos_iff.mpr this
        simp only [List.length_cons, List.length_nil]
        omega
      · rw [if_neg hn]; simp
    have h2 : (zsl T s n).length = (T.filter (fun q => decide (37 * q.1 % 256 % 4 ^ s = (n : Int)))).length := rfl
    omega
theorem zrws_16 {T : List zPp} {s n : Nat} (hs : 1 ≤ s) : (zrws T s n).length ≤ T.length := Nat.le_trans (zrws_len T s hs n) List.countP_le_length
theorem zrws_mem {T : List zPp} {s : Nat} {D : List Int} : ∀ n : Nat, D ∈ zrws T s n ↔ ∃ p : Nat, p < n ∧ zndb T s p = true ∧ D = zrow T s p := by
  intro n
  induction n with
  | zero => simp [zrws]
  | succ n ih =>
    simp only [zrws, List.mem_append, ih]
    constructor
    · rintro (⟨p, h1, h2⟩ | h)
      · exact ⟨p, by omega, h2⟩
      · by_cases hn : zndb T s n = true
        · rw [if_pos hn] at h
          exact ⟨n, by omega, hn, by simpa using h⟩
        · rw [if_neg hn] at h
          cases h
    · rintro ⟨p, h1, h2, h3⟩
      by_cases e : p = n
      · subst e
        right
        rw [if_pos h2, h3]
        simp
      · exact Or.inl ⟨p, by omega, h2, h3⟩
/-- all levels, the lowest first: k of them -/
def zlr (T : List zPp) : Nat → List (List Int)
  | 0 => []
  | k + 1 => zlr T k ++ zrws T (3 - k) (4 ^ (3 - k))
theorem zlr_len {T : List zPp} (h : T.length ≤ 16) : (zlr T 3).length ≤ 48 ∧ (zlr T 4).length ≤ 49 ∧ (zlr T 2).length ≤ 32 ∧ (zlr T 1).length ≤ 16 := by
  have h3 := zrws_16 (T := T) (s := 3) (n := 4 ^ 3) (by omega)
  have h2 := zrws_16 (T := T) (s := 2) (n := 4 ^ 2) (by omega)
  have h1 := zrws_16 (T := T) (s := 1) (n := 4 ^ 1) (by omega)
  have h0 : (zrws T 0 (4 ^ 0)).length ≤ 1 := by
    simp only [Nat.pow_zero, zrws, List.nil_append]
    split <;> simp
  simp only [zlr, List.length_append, List.length_nil, Nat.sub_self, Nat.reduceSub] at h0 h1 h2 h3 ⊢
  omega
