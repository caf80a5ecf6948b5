/-! BOTH SIDES: a store and its twin -/
def zEQ (x y : zStt) : Prop := y.1.Perm x.1 ∧ y.2 = x.2
def zIv (x : zStt) : Prop := zVS x ∧ zHB x.1 ∧ zrnI x
theorem zEQ.lk {x y : zStt} (e : zEQ x y) (h : zVS x) : ∀ a, zlk y.1 a = zlk x.1 a := zlk_perm e.1 h.2
theorem zEQ.vs {x y : zStt} (e : zEQ x y) (h : zVS x) : zVS y := ⟨fun b hb => h.1 b (e.1.mem_iff.mp hb), zNd_perm e.1 h.2⟩
theorem zEQ.hb {x y : zStt} (e : zEQ x y) (h : zHB x.1) : zHB y.1 := fun b hb => h b (e.1.mem_iff.mp hb)
theorem zEQ.ms {x y : zStt} (e : zEQ x y) (h : zVS x) : zms y = zms x := by
  unfold zms
  rw [zsee_lk (e.lk h), zmis_lk (e.lk h), e.2]
theorem zEQ.wst {x y : zStt} (e : zEQ x y) (h : zVS x) : zEQ (zwst x) (zwst y) := by
  refine ⟨e.1, ?_⟩
  unfold zwst
  simp only
  rw [zwfs_lk (e.lk h), e.2]
theorem zrnI_w (x : zStt) : zrnI (zwst x) := by
  intro h
  have h : zwfs x.1 x.2.2.1 x.2.2.2.2 = 1 := h
  unfold zwfs at h
  split at h
  · omega
  · rename_i q
    intro e
    exact q ⟨h, e⟩
theorem zin_same {x y : zStt} {rows rows' : List (List Int)} (e : zEQ x y) (hV : zVS x) (hg : zgR rows) (h : ∀ D, D ∈ rows' ↔ D ∈ rows) (hl : rows.length ≤ 64) (hl' : rows'.length ≤ 64) (top : Int) : zinO y rows' top = zinO x rows top ∧ zEQ (zinS x rows) (zinS y rows') := by
  obtain ⟨m1, m2⟩ := zmk_same h hl hl'
  have hc := (zmk_ok hl).2.2.2.1
  obtain ⟨t1, t2⟩ := ztk_same e.1 hV.2 hc m2
  unfold zinO zinS zbiC zbiS
  rw [m1, t1]
  refine ⟨rfl, ?_⟩
  by_cases q : ztkc x.1 (zmk ([], 0) rows).1 (zmk ([], 0) rows).2 = 0
  · rw [if_pos q, if_pos q]
    have hp := e.1.append (t2 q)
    refine ⟨hp, ?_⟩
    simp only
    rw [zwfs_lk (zlk_perm hp (hV.take hg.1 hg.2).2), e.2]
  · rw [if_neg q, if_neg q]
    exact e
theorem zin_iv {x : zStt} {rows : List (List Int)} (hI : zIv x) (hg : zgR rows) (hl : rows.length ≤ 64) : zIv (zinS x rows) := by
  obtain ⟨h1, h2, h3⟩ := hI
  unfold zinS zbiS
  by_cases q : ztkc x.1 (zmk ([], 0) rows).1 (zmk ([], 0) rows).2 = 0
  · rw [if_pos q]
    have ht := h1.take hg.1 hg.2
    refine ⟨⟨ht.1, ht.2⟩, fun b hb => ?_, zrnI_w (x.1 ++ zfre x.1 (zmk ([], 0) rows).1, x.2)⟩
    rcases List.mem_append.mp hb with q | q
    · exact h2 b q
    · exact ((zmk_ok hl).2.1 b (List.mem_filter.mp q).1).1
  · rw [if_neg q]
    exact ⟨h1, h2, h3⟩
theorem zpn_same {x y : zStt} (e : zEQ x y) (hV : zVS x) (nm dp on : Int) : zpnR y.1 y.2.1 nm dp on = zpnR x.1 x.2.1 nm dp on ∧ zpnP y.1 y.2.1 nm dp on = zpnP x.1 x.2.1 nm dp on := by
  have hix : (0 ≤ zix y.1 nm) ↔ (0 ≤ zix x.1 nm) := by
    have := zix_lk (e.lk hV) nm
    omega
  have hp : y.2.1 = x.2.1 := by rw [e.2]
  unfold zpnR zpnP
  rw [hp]
  constructor
  · split
    · rfl
    · rcases zb_or (0 ≤ zix x.1 nm ∧ zpin x.2.1 (nm, dp)) with ⟨q1, q2⟩ | ⟨q1, q2⟩
      · rw [q1, zb_t ⟨hix.mpr q2.1, q2.2⟩]
      · rw [q1, zb_f (fun w => q2 ⟨hix.mp w.1, w.2⟩)]
  · split
    · rfl
    · by_cases q : 0 ≤ zix x.1 nm
      · rw [if_pos q, if_pos (hix.mpr q)]
      · rw [if_neg q, if_neg (fun w => q (hix.mp w))]
theorem zkp_same {x y : zStt} (e : zEQ x y) (hV : zVS x) : (zkpL y.1 y.2.1 y.2.2.1 y.2.2.2.2).Perm (zkpL x.1 x.2.1 x.2.2.1 x.2.2.2.2) := by
  unfold zkpL
  rw [zkpt_lk (e.lk hV), e.2]
  exact e.1.filter _
theorem zcl_iv {x : zStt} (hI : zIv x) (hl : x.1.length ≤ 64) : zIv (zkpL x.1 x.2.1 x.2.2.1 x.2.2.2.2, x.2) := by
  obtain ⟨h1, h2, h3⟩ := hI
  have hm : ∀ b ∈ zkpL x.1 x.2.1 x.2.2.1 x.2.2.2.2, b ∈ x.1 := fun b hb => (List.mem_filter.mp hb).1
  refine ⟨⟨fun b hb => h1.1 b (hm b hb), ?_⟩, fun b hb => h2 b (hm b hb), fun hf => ?_⟩
  · exact zNd_iff.mpr ((zNd_iff.mp h1.2).sublist List.filter_sublist)
  · have hf : x.2.2.1 = 1 := hf
    rw [zcl_ms h1.1 hl hf]
    exact h3 hf
theorem zpn_iv {x : zStt} {P : List zPp} (hI : zIv x) : zIv (x.1, P, x.2.2) := hI
theorem zft_iv {x : zStt} (hI : zIv x) (p nm : Int) : zIv (zwst (zftX x p nm)) := ⟨hI.1, hI.2.1, zrnI_w _⟩
theorem zft_eq {x y : zStt} (e : zEQ x y) (p nm : Int) : zEQ (zftX x p nm) (zftX y p nm) := by
  refine ⟨e.1, ?_⟩
  unfold zftX
  simp only
  rw [e.2]
theorem zfai_iv {x : zStt} (hI : zIv x) : zIv (zfai x) := ⟨hI.1, hI.2.1, fun h => by
  have h : (3 : Int) = 1 := h
  omega⟩
theorem zfai_eq {x y : zStt} (e : zEQ x y) : zEQ (zfai x) (zfai y) := by
  refine ⟨e.1, ?_⟩
  unfold zfai
  simp only
  rw [e.2]
theorem zrn_same {x y : zStt} (e : zEQ x y) (hI : zIv x) (g nm : Int) : zEQ (zrnS x g nm) (zrnS y g nm) ∧ zIv (zrnS x g nm) := by
  have hk : zrnK y g nm ↔ zrnK x g nm := by
    unfold zrnK
    rw [e.ms hI.1, e.2]
  unfold zrnS
  rcases zb_or (zrnK x g nm) with ⟨q1, q2⟩ | ⟨q1, q2⟩
  · rw [q1, zb_t (hk.mpr q2), if_pos rfl, if_pos rfl]
    exact ⟨zfai_eq e, zfai_iv hI⟩
  · rw [q1, zb_f (fun w => q2 (hk.mp w)), if_neg (by decide), if_neg (by decide)]
    exact ⟨e, hI⟩
theorem zgv_same {x y : zStt} (e : zEQ x y) (hI : zIv x) (Ms : List zMg) (w g : Int) (b : zBk) (hb : b.1 = zhash b.2) : zEQ (zgvS x g b) (zgvS y g b) ∧ zIv (zgvS x g b) ∧ zgvM Ms w y g b = zgvM Ms w x g b := by
  have hk : zgvC y g b ↔ zgvC x g b := by
    unfold zgvC
    rw [e.ms hI.1, e.2]
  obtain ⟨t1, t2⟩ := ztk_same (Lb := [b]) (Lb' := [b]) e.1 hI.1.2 (c := 0) (Or.inl rfl) (fun _ => List.Perm.refl _)
  have hx : zgvC x g b → zEQ (zgvX x b) (zgvX y b) ∧ zIv (zgvX x b) ∧ (ztkc x.1 [b] 0 = 0 → zVS (zgvX x b)) := fun hc => by
    unfold zgvX
    rw [t1]
    by_cases q : ztkc x.1 [b] 0 = 0
    · rw [if_pos q, if_pos q]
      have ht := hI.1.take (Lb := [b]) (fun c hc' => by simp at hc'; rw [hc']; exact hc.2.1) (zNd_one b)
      have e2 : zEQ (x.1 ++ zfre x.1 [b], x.2) (y.1 ++ zfre y.1 [b], y.2) := ⟨e.1.append (t2 q), e.2⟩
      refine ⟨e2.wst ht, ⟨ht, fun c hc' => ?_, zrnI_w _⟩, fun _ => ht⟩
      rcases List.mem_append.mp hc' with q | q
      · exact hI.2.1 c q
      · have := (List.mem_filter.mp q).1
        simp at this
        rw [this]
        exact hb
    · rw [if_neg q, if_neg q]
      exact ⟨zfai_eq e, zfai_iv hI, fun w => absurd w q⟩
  unfold zgvS zgvM
  rw [t1]
  rcases zb_or (zgvC x g b) with ⟨q1, q2⟩ | ⟨q1, q2⟩
  · obtain ⟨x1, x2, x3⟩ := hx q2
    rw [q1, zb_t (hk.mpr q2), if_pos rfl, if_pos rfl]
    refine ⟨x1, x2, ?_⟩
    by_cases q : ztkc x.1 [b] 0 = 0
    · rw [zb_t ⟨hk.mpr q2, q⟩, zb_t ⟨q2, q⟩, if_pos rfl, if_pos rfl, x1.ms (x3 q), e.ms hI.1]
    · rw [zb_f (fun w => q w.2), zb_f (fun w => q w.2), if_neg (by decide), if_neg (by decide)]
  · have q3 : ¬ zgvC y g b := fun w => q2 (hk.mp w)
    rw [q1, zb_f q3, if_neg (by decide), if_neg (by decide), zb_f (fun w => q3 w.1), zb_f (fun w => q2 w.1), if_neg (by decide), if_neg (by decide)]
    exact ⟨e, hI, rfl⟩
theorem zanw_same {x y : zStt} (e : zEQ x y) (hV : zVS x) (Ms : List zMg) (a b nm : Int) : zanw Ms y.1 a b nm = zanw Ms x.1 a b nm := by
  unfold zanw
  rw [e.lk hV]
/-! three stores and their twins -/
def zRL (St Sm : Nat → zStt) : Prop := ∀ s, s < 3 → zEQ (St s) (Sm s)
def zIN (St : Nat → zStt) : Prop := ∀ s, s < 3 → zIv (St s)
theorem zRL.su {St Sm : Nat → zStt} (h : zRL St Sm) {s : Nat} {x y : zStt} (e : zEQ x y) : zRL (zSu St s x) (zSu Sm s y) := by
  intro t ht
  unfold zSu
  split
  · exact e
  · exact h t ht
theorem zIN.su {St : Nat → zStt} (h : zIN St) {s : Nat} {x : zStt} (e : zIv x) : zIN (zSu St s x) := by
  intro t ht
  unfold zSu
  split
  · exact e
  · exact h t ht
theorem zt3 {x : Int} (h : 0 ≤ x ∧ x ≤ 2) : x.toNat < 3 := by omega
/-! entries -/
theorem zent_mem {t n : Int} : ∀ {T : List zPp} {p : zPp}, p ∈ zent t n T → p = (t, n) ∨ p ∈ T := by
  intro T
  induction T with
  | nil => intro p hp; simp [zent] at hp; exact Or.inl hp
  | cons a r ih =>
    intro p hp
    simp only [zent] at hp
    split at hp
    · simp only [List.mem_cons] at hp ⊢
      rcases hp with q | q
      · exact Or.inr (Or.inl q)
      · rcases ih q with w | w
        · exact Or.inl w
        · exact Or.inr (Or.inr w)
    · split at hp
      · simp only [List.mem_cons] at hp ⊢
        rcases hp with q | q
        · exact Or.inl q
        · exact Or.inr (Or.inr q)
      · simp only [List.mem_cons] at hp ⊢
        exact hp
theorem zent_so {t n : Int} : ∀ {T : List zPp}, zSo T → zSo (zent t n T) := by
  intro T
  induction T with
  | nil => intro _; simp [zent, zSo]
  | cons a r ih =>
    intro h
    obtain ⟨h1, h2⟩ := List.pairwise_cons.mp h
    simp only [zent]
    split
    · rename_i c
      refine List.pairwise_cons.mpr ⟨fun p hp => ?_, ih h2⟩
      rcases zent_mem hp with rfl | q
      · exact c
      · exact h1 p q
    · split
      · rename_i c1 c2
        refine List.pairwise_cons.mpr ⟨fun p hp => ?_, h2⟩
        have := h1 p hp
        show t < p.1
        omega
      · rename_i c1 c2
        refine List.pairwise_cons.mpr ⟨fun p hp => ?_, h⟩
        show t < p.1
        simp only [List.mem_cons] at hp
        rcases hp with rfl | q
        · omega
        · have := h1 p q
          omega
theorem zent_pm {t n : Int} : ∀ {T : List zPp}, zSo T → (zent t n T).Perm ((t, n) :: T.filter (fun p => decide (p.1 ≠ t))) := by
  intro T
  induction T with
  | nil => intro _; simp [zent]
  | cons a r ih =>
    intro h
    obtain ⟨h1, h2⟩ := List.pairwise_cons.mp h
    simp only [zent]
    split
    · rename_i c
      rw [List.filter_cons_of_pos (by simp; omega)]
      exact ((ih h2).cons a).trans (List.Perm.swap _ _ _)
    · split
      · rename_i c1 c2
        rw [List.filter_cons_of_neg (by simp [c2]), List.filter_eq_self.mpr (fun p hp => by have := h1 p hp; simp; omega)]
      · rename_i c1 c2
        rw [List.filter_eq_self.mpr (fun p hp => by
          simp only [List.mem_cons] at hp
          rcases hp with rfl | q
          · simp [c2]
          · have := h1 p q; simp; omega)]
theorem zrent_pm {t n : Int} : ∀ {T : List zPp}, T.Pairwise (fun a b => a.1 ≠ b.1) → (zrent t n T).Perm ((t, n) :: T.filter (fun p => decide (p.1 ≠ t))) := by
  intro T
  induction T with
  | nil => intro _; simp [zrent]
  | cons a r ih =>
    intro h
    obtain ⟨h1, h2⟩ := List.pairwise_cons.mp h
    simp only [zrent]
    split
    · rename_i c
      rw [List.filter_cons_of_neg (by simp [c]), List.filter_eq_self.mpr (fun p hp => by have := h1 p hp; simp; omega)]
    · rename_i c
      rw [List.filter_cons_of_pos (by simpa using c)]
      exact ((ih h2).cons a).trans (List.Perm.swap _ _ _)
theorem zen_same {T Tm : List zPp} {t n : Int} (h : Tm.Perm T) (hS : zSo T) : zb (zenO Tm t n) = zb (zenO T t n) ∧ (zentR Tm t n).Perm (if (1 ≤ t ∧ t ≤ 255) ∧ (0 ≤ n ∧ n ≤ 65520) then zentL T t n else T) ∧ zSo (if (1 ≤ t ∧ t ≤ 255) ∧ (0 ≤ n ∧ n ≤ 65520) then zentL T t n else T) := by
  have hh : zhasT Tm t ↔ zhasT T t := by
    unfold zhasT
    constructor
    · rintro ⟨p, hp, e⟩; exact ⟨p, h.mem_iff.mp hp, e⟩
    · rintro ⟨p, hp, e⟩; exact ⟨p, h.mem_iff.mpr hp, e⟩
  have hk : zenO Tm t n ↔ zenO T t n := by
    unfold zenO
    rw [hh, h.length_eq]
  have e1 : zb (zenO Tm t n) = zb (zenO T t n) := by
    rcases zb_or (zenO T t n) with ⟨q1, q2⟩ | ⟨q1, q2⟩
    · rw [q1, zb_t (hk.mpr q2)]
    · rw [q1, zb_f (fun w => q2 (hk.mp w))]
  refine ⟨e1, ?_⟩
  have hne : Tm.Pairwise (fun a b => a.1 ≠ b.1) := (h.pairwise_iff (fun {a b} (e : a.1 ≠ b.1) => Ne.symm e)).mpr (List.Pairwise.imp (R := fun a b : zPp => a.1 < b.1) (fun {a b} q => by omega) hS)
  unfold zentR
  rw [e1]
  by_cases hr : (1 ≤ t ∧ t ≤ 255) ∧ (0 ≤ n ∧ n ≤ 65520)
  · rw [if_pos hr]
    unfold zentL
    rcases zb_or (zhasT T t ∨ T.length < 16) with ⟨q1, q2⟩ | ⟨q1, q2⟩
    · rw [q1, zb_t (show zenO T t n from ⟨hr.1, hr.2, q2⟩), if_pos rfl, if_pos rfl]
      exact ⟨((zrent_pm hne).trans ((h.filter _).cons _)).trans (zent_pm hS).symm, zent_so hS⟩
    · rw [q1, zb_f (fun w : zenO T t n => q2 w.2.2), if_neg (by decide), if_neg (by decide)]
      exact ⟨h, hS⟩
  · rw [if_neg hr, zb_f (fun w : zenO T t n => hr ⟨w.1, w.2.1⟩), if_neg (by decide)]
    exact ⟨h, hS⟩
