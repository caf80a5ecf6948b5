/-! BOTH SIDES: every call -/
theorem zWK.lo {μ μ' : zM} {w : Nat} {R : Nat → Bool} {M V : List Int} (h : zWK μ w R M V) (f : zlo μ μ') (hw : w + 3 < 56) : zWK μ' w R M V := by
  obtain ⟨w0, w1, ⟨w2, w3, w4, w5⟩, ⟨w6, w7, w8, w9⟩⟩ := h
  exact ⟨w0, fun i hi => by rw [f (w + 1) (by omega)]; exact w1 i hi, ⟨by rw [f w (by omega)]; exact w2, w3, w4.of (f (w + 2) (by omega)), w5⟩, ⟨by rw [f w (by omega)]; exact w6, w7, w8.of (f (w + 3) (by omega)), w9⟩⟩
theorem zRC.lo {μ μ' : zM} {B : List Int} {T : List zPp} {Ms : List zMg} {St : Nat → zStt} (h : zRC μ B T Ms St) (f : zlo μ μ') : zRC μ' B T Ms St := by
  obtain ⟨hB, hT, hLi, hS, hM⟩ := h
  refine ⟨hB.of (f 0 (by decide)) (f 26 (by decide)), ?_, ?_, fun s hs => ?_, ?_⟩
  · obtain ⟨a, b, c, d, e⟩ := hT
    exact ⟨by rw [f 30 (by decide)]; exact a, b, c.of (f 31 (by decide)), d.of (f 32 (by decide)), e⟩
  · obtain ⟨a, b, c, d, e⟩ := hLi
    exact ⟨a.of (f 41 (by decide)) (f 42 (by decide)) (f 43 (by decide)) (f 44 (by decide)), b.of (f 45 (by decide)), c.of (f 46 (by decide)), d.of (f 47 (by decide)), e⟩
  · obtain ⟨a, ⟨b0, b1, b2, b3, b4, b5⟩, c⟩ := hS s hs
    exact ⟨a.of (f _ (by omega)) (f _ (by omega)) (f _ (by omega)) (f _ (by omega)), ⟨b0, by rw [f _ (by omega)]; exact b1, b2, b3.of (f _ (by omega)), b4.of (f _ (by omega)), b5⟩, c.of (f _ (by omega))⟩
  · obtain ⟨⟨Lb, D, c, b1, b2, b3, b4, b5, b6, b7⟩, ⟨R, M, V, w⟩, ⟨R2, M2, V2, w2⟩⟩ := hM
    exact ⟨⟨Lb, D, c, b1.of (f 35 (by decide)) (f 36 (by decide)) (f 37 (by decide)) (f 38 (by decide)), by rw [f 34 (by decide)]; exact b2, b3, b4, fun j x hj => by rw [f 39 (by decide)]; exact b5 j x hj, by rw [f 34 (by decide)]; exact b6, b7⟩, ⟨R, M, V, w.lo f (by decide)⟩, ⟨R2, M2, V2, w2.lo f (by decide)⟩⟩
theorem zRN.cs {μ μ' : zM} {B : List Int} {T : List zPp} {Ms : List zMg} {Sm : Nat → zStt} (h : zRN μ B T Ms Sm) (f : zfr zCS μ μ') : zRN μ' B T Ms Sm := by
  have e : ∀ c, 56 ≤ c → μ' c = μ c := fun c hc => f c (by simp [zCS]; omega)
  exact ⟨h.1.e (e 74 (by omega)) (congrFun (e 56 (by omega)) 18), h.2.1.e (fun c h1 h2 => e c (by omega)) (congrFun (e 56 (by omega)) 20), h.2.2.1.e (fun c h1 h2 => e c (by omega)) (congrFun (e 56 (by omega)) 11), fun s hs => (h.2.2.2 s hs).e (fun c h1 h2 h3 => e c (by omega))⟩
theorem zRC.bt {μ μ' : zM} {B B' : List Int} {T T' : List zPp} {Ms : List zMg} {St : Nat → zStt} {S : List Nat} (h : zRC μ B T Ms St) (hB : zBU μ' B') (hT : zTL μ' T') (f : zfr S μ μ') (hS : ∀ c ∈ S, c = 0 ∨ c = 26 ∨ (30 ≤ c ∧ c ≤ 32)) : zRC μ' B' T' Ms St :=
  ⟨hB, hT, h.2.2.1.fr f (fun c hc => by have := hS c hc; omega), fun s hs => (h.2.2.2.1 s hs).fr f (fun c hc => by have := hS c hc; omega), h.2.2.2.2.fr f (fun c hc => by have := hS c hc; omega)⟩
/-- both sides stand alike -/
def zST (μ : zM) : Prop := ∃ (B : List Int) (T Tm : List zPp) (Ms : List zMg) (St Sm : Nat → zStt), zRC μ B T Ms St ∧ zRN μ B Tm Ms Sm ∧ Tm.Perm T ∧ zSo T ∧ zRL St Sm ∧ zIN St
/-- a call of both: the same answer, and they stand alike -/
def zPr (d : Nat) (mc mm : zMd) (as : List zV) (μ : zM) : Prop := ∃ v : Int, zCt d mc (.inr (some 0) :: as) μ (fun r μ1 => r = some (.inl v) ∧ zCt d mm (.inr (some 56) :: as) μ1 (fun r2 μ2 => r2 = some (.inl v) ∧ zST μ2))
theorem zPr_mk {d : Nat} {mc mm : zMd} {as : List zV} {μ : zM} {B B' : List Int} {T' Tm Tm' : List zPp} {Ms Ms' : List zMg} {St' Sm Sm' : Nat → zStt} {v : Int} (hN : zRN μ B Tm Ms Sm) (hc : zCt d mc (.inr (some 0) :: as) μ (fun r μ1 => r = some (.inl v) ∧ zRC μ1 B' T' Ms' St' ∧ zfr zCS μ μ1)) (hm : ∀ μ1, zRN μ1 B Tm Ms Sm → zCt d mm (.inr (some 56) :: as) μ1 (fun r μ2 => r = some (.inl v) ∧ zRN μ2 B' Tm' Ms' Sm' ∧ zlo μ1 μ2)) (h1 : Tm'.Perm T') (h2 : zSo T') (h3 : zRL St' Sm') (h4 : zIN St') : zPr d mc mm as μ := by
  refine ⟨v, zCt.mono hc (fun r μ1 hq => ?_)⟩
  obtain ⟨q1, q2, q3⟩ := hq
  refine ⟨q1, zCt.mono (hm μ1 (hN.cs q3)) (fun r2 μ2 hw => ?_)⟩
  obtain ⟨w1, w2, w3⟩ := hw
  exact ⟨w1, B', T', Tm', Ms', St', Sm', q2.lo w3, w2, h1, h2, h3, h4⟩
theorem zPr_rd {d : Nat} {mc mm : zMd} {as : List zV} {μ : zM} {B : List Int} {T Tm : List zPp} {Ms : List zMg} {St Sm : Nat → zStt} {v : Int} (hC : zRC μ B T Ms St) (hN : zRN μ B Tm Ms Sm) (hc : zCt d mc (.inr (some 0) :: as) μ (zR (.inl v) μ)) (hm : zCt d mm (.inr (some 56) :: as) μ (zR (.inl v) μ)) (h1 : Tm.Perm T) (h2 : zSo T) (h3 : zRL St Sm) (h4 : zIN St) : zPr d mc mm as μ := by
  refine ⟨v, zCt.mono hc (fun r μ1 hq => ?_)⟩
  obtain ⟨q1, rfl⟩ := hq
  refine ⟨q1, zCt.mono hm (fun r2 μ2 hw => ?_)⟩
  obtain ⟨w1, rfl⟩ := hw
  exact ⟨w1, B, T, Tm, Ms, St, Sm, hC, hN, h1, h2, h3, h4⟩
theorem p_type {μ : zM} {b : Int} (h : zST μ) (hb : zrg b) : zPr 10 mX10_type mX11_type [.inl b] μ := by
  obtain ⟨B, T, Tm, Ms, St, Sm, hC, hN, hP, hS, hL, hI⟩ := h
  exact zPr_mk hN (zCt.mono (c_X10_type hC.1 hb) (fun r μ1 hq => ⟨hq.1, hC.bt hq.2.1 (hC.2.1.fr hq.2.2 (by simp)) hq.2.2 (by simp), hq.2.2.cs (by simp)⟩)) (fun μ1 h1 => c_X11_typeN h1 hb) hP hS hL hI
theorem p_name {μ : zM} (h : zST μ) : zPr 10 mX10_name mX11_name [] μ := by
  obtain ⟨B, T, Tm, Ms, St, Sm, hC, hN, hP, hS, hL, hI⟩ := h
  exact zPr_rd hC hN (c_X10_name (by omega) hC.1) (c_X11_name (by omega) hN.1) hP hS hL hI
theorem p_clear {μ : zM} (h : zST μ) : zCt 10 mX10_clear [.inr (some 0)] μ (fun r μ1 => r = none ∧ zCt 10 mX11_clear [.inr (some 56)] μ1 (fun r2 μ2 => r2 = none ∧ zST μ2)) := by
  obtain ⟨B, T, Tm, Ms, St, Sm, hC, hN, hP, hS, hL, hI⟩ := h
  refine zCt.mono (c_X10_clear (by omega) hC.1 hC.2.1) (fun r μ1 hq => ?_)
  obtain ⟨q1, q2, q3, q4⟩ := hq
  refine ⟨q1, zCt.mono (c_X11_clear (hN.cs (q4.cs (by simp)))) (fun r2 μ2 hw => ?_)⟩
  obtain ⟨w1, w2, w3⟩ := hw
  exact ⟨w1, [], [], [], Ms, St, Sm, (hC.bt q2 q3 q4 (by simp)).lo w3, w2, List.Perm.refl _, List.Pairwise.nil, hL, hI⟩
theorem p_entry {μ : zM} {t n : Int} (h : zST μ) (ht : zrg t) (hn : zrg n) : zPr 10 mX10_entry mX11_entry [.inl t, .inl n] μ := by
  obtain ⟨B, T, Tm, Ms, St, Sm, hC, hN, hP, hS, hL, hI⟩ := h
  obtain ⟨e1, e2, e3⟩ := zen_same (t := t) (n := n) hP hS
  refine zPr_mk hN (zCt.mono (c_X10_entry (by omega) hC.2.1 hS ht hn) (fun r μ1 hq => ⟨hq.1, hC.bt (hC.1.of (hq.2.2 0 (by simp)) (hq.2.2 26 (by simp))) hq.2.1 hq.2.2 (by simp), hq.2.2.cs (by simp)⟩)) (fun μ1 h1 => ?_) e2 e3 hL hI
  have := c_X11_entry (d := 10) h1 ht hn
  rw [e1] at this
  exact this
theorem zptR {B : List Int} {St Sm : Nat → zStt} {store : Int} (hL : zRL St Sm) (hI : zIN St) : zptO B Sm store = zptO B St store ∧ zRL (zptS B St store) (zptS B Sm store) ∧ zIN (zptS B St store) := by
  unfold zptO zptS
  rcases zb_or ((0 ≤ store ∧ store ≤ 2) ∧ zisB (some B)) with ⟨q1, q2⟩ | ⟨q1, q2⟩
  · rw [q1, if_pos rfl, if_pos rfl, if_pos rfl, if_pos rfl]
    have hg : zgR [B] := zgR_of (by simp) (fun D hD => by simp at hD; rw [hD]; exact q2.2)
    have h3 := zt3 q2.1
    obtain ⟨a, b⟩ := zin_same (hL _ h3) (hI _ h3).1 hg (fun D => Iff.rfl) (by simp) (by simp) (zhash B)
    exact ⟨a, hL.su b, hI.su (zin_iv (hI _ h3) hg (by simp))⟩
  · rw [q1, if_neg (by decide), if_neg (by decide), if_neg (by decide), if_neg (by decide)]
    exact ⟨rfl, hL, hI⟩
theorem zIN.vs {St : Nat → zStt} (h : zIN St) : ∀ s, s < 3 → zVS (St s) := fun s hs => (h s hs).1
theorem zRL.vs {St Sm : Nat → zStt} (hL : zRL St Sm) (h : zIN St) : ∀ s, s < 3 → zVS (Sm s) := fun s hs => (hL s hs).vs (h s hs).1
theorem p_put {μ : zM} {store : Int} (h : zST μ) (hs : zrg store) : zPr 10 mX10_put mX11_put [.inl store] μ := by
  obtain ⟨B, T, Tm, Ms, St, Sm, hC, hN, hP, hS, hL, hI⟩ := h
  obtain ⟨e1, e2, e3⟩ := zptR (B := B) (store := store) hL hI
  refine zPr_mk hN (c_X10_put (by omega) hC hI.vs hs) (fun μ1 h1 => ?_) hP hS e2 e3
  have := c_X11_put (d := 10) (by omega) h1 (hL.vs hI) hs
  rw [e1] at this
  exact this
theorem zadR {B : List Int} {St Sm : Nat → zStt} {store chunk fan : Int} (hB : B.length ≤ 32) (hL : zRL St Sm) (hI : zIN St) : (zadK store chunk fan → zgR (zfrow B chunk fan.toNat)) ∧ zadO B Sm store chunk fan = zadO B St store chunk fan ∧ zRL (zadS B St store chunk fan) (zadS B Sm store chunk fan) ∧ zIN (zadS B St store chunk fan) := by
  have hg : zadK store chunk fan → zgR (zfrow B chunk fan.toNat) := fun hk => (zfrow_gR hB hk.2.1 (by have := hk.2.2; omega)).2
  refine ⟨hg, ?_⟩
  unfold zadO zadS
  rcases zb_or (zadK store chunk fan) with ⟨q1, q2⟩ | ⟨q1, q2⟩
  · rw [q1, if_pos rfl, if_pos rfl, if_pos rfl, if_pos rfl]
    have hl : (zfrow B chunk fan.toNat).length ≤ 64 := zfrow_len (by have := q2.2.2; omega)
    have h3 := zt3 q2.1
    obtain ⟨a, b⟩ := zin_same (hL _ h3) (hI _ h3).1 (hg q2) (fun D => Iff.rfl) hl hl (zftop B chunk fan.toNat)
    exact ⟨a, hL.su b, hI.su (zin_iv (hI _ h3) (hg q2) hl)⟩
  · rw [q1, if_neg (by decide), if_neg (by decide), if_neg (by decide), if_neg (by decide)]
    exact ⟨rfl, hL, hI⟩
theorem p_add {μ : zM} {store chunk fan : Int} (h : zST μ) (hs : zrg store) (hc : zrg chunk) (hf : zrg fan) : zPr 10 mX10_add mX11_add [.inl store, .inl chunk, .inl fan] μ := by
  obtain ⟨B, T, Tm, Ms, St, Sm, hC, hN, hP, hS, hL, hI⟩ := h
  obtain ⟨hg, e1, e2, e3⟩ := zadR (B := B) (store := store) (chunk := chunk) (fan := fan) hC.1.2.1 hL hI
  refine zPr_mk hN (c_X10_add (by omega) hC hI.vs hg hs hc hf) (fun μ1 h1 => ?_) hP hS e2 e3
  have := c_X11_add (d := 10) (by omega) h1 (hL.vs hI) hg hs hc hf
  rw [e1] at this
  exact this
theorem zfoR {T : List zPp} {St Sm : Nat → zStt} {store : Int} (hS : zSo T) (hl : T.length ≤ 16) (hr : ∀ q ∈ T, (1 ≤ q.1 ∧ q.1 ≤ 255) ∧ (0 ≤ q.2 ∧ q.2 ≤ 65520)) (hL : zRL St Sm) (hI : zIN St) : zgR (zlvl 4 0 T).1 ∧ zfqO T Sm store = zfoO T St store ∧ zRL (zfoS T St store) (zfqS T Sm store) ∧ zIN (zfoS T St store) := by
  obtain ⟨b1, b2, b3⟩ := zlvl_gR hS hl hr
  have hr1 : ∀ q ∈ T, 1 ≤ q.1 ∧ q.1 ≤ 255 := fun q hq => (hr q hq).1
  have l1 := zlvl_64 hS hl hr1
  have l2 : (zlr T 4).length ≤ 64 := by have := (zlr_len hl).2.1; omega
  have hg := zgR_of l1 b1
  refine ⟨hg, ?_⟩
  unfold zfqO zfoO zfqS zfoS
  by_cases q : 0 ≤ store ∧ store ≤ 2
  · rw [if_pos q, if_pos q, if_pos q, if_pos q]
    have h3 := zt3 q
    obtain ⟨a, b⟩ := zin_same (hL _ h3) (hI _ h3).1 hg (fun D => zlr_same hS hr1 D) l1 l2 (zlvl 4 0 T).2
    exact ⟨a, hL.su b, hI.su (zin_iv (hI _ h3) hg l1)⟩
  · rw [if_neg q, if_neg q, if_neg q, if_neg q]
    exact ⟨rfl, hL, hI⟩
theorem p_folder {μ : zM} {store : Int} (h : zST μ) (hs : zrg store) : zPr 10 mX10_folder mX11_folder [.inl store] μ := by
  obtain ⟨B, T, Tm, Ms, St, Sm, hC, hN, hP, hS, hL, hI⟩ := h
  obtain ⟨hg, e1, e2, e3⟩ := zfoR (store := store) hS hC.2.1.2.1 hC.2.1.2.2.2.2 hL hI
  have hg2 := (zlvl_gR hS hC.2.1.2.1 hC.2.1.2.2.2.2).2.2
  refine zPr_mk (Tm' := zcT Tm (zfoO T St store)) hN (c_X10_folder (by omega) hC hS hI.vs hg hs) (fun μ1 h1 => ?_) ?_ ?_ e2 e3
  · have := c_X11_folder (d := 10) (by omega) h1 hP hS (hL.vs hI) hg2 hs
    rw [e1] at this
    exact this
  · unfold zcT
    split
    · exact List.Perm.refl _
    · exact hP
  · unfold zcT
    split
    · exact List.Pairwise.nil
    · exact hS
theorem zlk3 {St Sm : Nat → zStt} (hL : zRL St Sm) (hI : zIN St) (store nm : Int) : zlks3 (fun s => (Sm s).1) store nm = if 0 ≤ store ∧ store ≤ 2 then zlk (St store.toNat).1 nm else none := by
  unfold zlks3
  by_cases q : 0 ≤ store ∧ store ≤ 2
  · rw [if_pos q, if_pos q]
    exact (hL _ (zt3 q)).lk (hI _ (zt3 q)).1 nm
  · rw [if_neg q, if_neg q]
theorem p_bytes {μ : zM} {store nm : Int} (h : zST μ) (hs : zrg store) (hn : zrg nm) : zPr 10 mX10_bytes mX11_bytes [.inl store, .inl nm] μ := by
  obtain ⟨B, T, Tm, Ms, St, Sm, hC, hN, hP, hS, hL, hI⟩ := h
  refine zPr_rd hC hN (c_X10_bytes (by omega) hC.2.2.2.1 hs hn) ?_ hP hS hL hI
  have := c_X11_bytes (d := 10) (Lf := fun s => (Sm s).1) (by omega) (fun s hs => (hN.2.2.2 s hs).1) hs hn
  rw [zlk3 hL hI] at this
  by_cases q : 0 ≤ store ∧ store ≤ 2
  · rw [if_pos q] at this ⊢; exact this
  · rw [if_neg q] at this ⊢; exact this
theorem p_raw {μ : zM} {store nm i : Int} (h : zST μ) (hs : zrg store) (hn : zrg nm) (hi : zrg i) : zPr 10 mX10_raw mX11_raw [.inl store, .inl nm, .inl i] μ := by
  obtain ⟨B, T, Tm, Ms, St, Sm, hC, hN, hP, hS, hL, hI⟩ := h
  refine zPr_rd hC hN (c_X10_raw (by omega) hC.2.2.2.1 hs hn hi) ?_ hP hS hL hI
  have := c_X11_raw (d := 10) (Lf := fun s => (Sm s).1) (by omega) (fun s hs => (hN.2.2.2 s hs).1) hs hn hi
  rw [zlk3 hL hI] at this
  by_cases q : 0 ≤ store ∧ store ≤ 2
  · rw [if_pos q] at this ⊢; exact this
  · rw [if_neg q] at this ⊢; exact this
theorem p_length {μ : zM} {store nm : Int} (h : zST μ) (hs : zrg store) (hn : zrg nm) : zPr 10 mX10_length mX11_length [.inl store, .inl nm] μ := by
  obtain ⟨B, T, Tm, Ms, St, Sm, hC, hN, hP, hS, hL, hI⟩ := h
  refine zPr_rd hC hN (c_X10_length (by omega) hC.2.2.2.1 hs hn) ?_ hP hS hL hI
  have := c_X11_length (d := 10) (Lf := fun s => (Sm s).1) (by omega) (fun s hs => (hN.2.2.2 s hs).1) (fun s hs => (hL.vs hI s hs).1) hs hn
  rw [zlk3 hL hI] at this
  by_cases q : 0 ≤ store ∧ store ≤ 2
  · rw [if_pos q] at this ⊢; exact this
  · rw [if_neg q] at this ⊢
    exact this
theorem p_read {μ : zM} {store nm p : Int} (h : zST μ) (hs : zrg store) (hn : zrg nm) (hp : zrg p) : zPr 10 mX10_read mX11_read [.inl store, .inl nm, .inl p] μ := by
  obtain ⟨B, T, Tm, Ms, St, Sm, hC, hN, hP, hS, hL, hI⟩ := h
  refine zPr_rd hC hN (c_X10_read (by omega) hC.2.2.2.1 hs hn hp (fun s hs => (hI s hs).1.1.v3)) ?_ hP hS hL hI
  have := c_X11_read (d := 10) (Lf := fun s => (Sm s).1) (by omega) (fun s hs => (hN.2.2.2 s hs).1) (fun s hs => (hL.vs hI s hs).1) hs hn hp
  by_cases q : 0 ≤ store ∧ store ≤ 2
  · rw [if_pos q] at this ⊢
    rw [zrdf_lk ((hL _ (zt3 q)).lk (hI _ (zt3 q)).1)] at this
    exact this
  · rw [if_neg q] at this ⊢; exact this
theorem p_find {μ : zM} {store nm t : Int} (h : zST μ) (hs : zrg store) (hn : zrg nm) (ht : zrg t) : zPr 10 mX10_find mX11_find [.inl store, .inl nm, .inl t] μ := by
  obtain ⟨B, T, Tm, Ms, St, Sm, hC, hN, hP, hS, hL, hI⟩ := h
  refine zPr_rd hC hN (c_X10_find (by omega) hC.2.2.2.1 hs hn ht (fun s hs => (hI s hs).1.1.v3)) ?_ hP hS hL hI
  have := c_X11_find (d := 10) (Lf := fun s => (Sm s).1) (by omega) (fun s hs => (hN.2.2.2 s hs).1) (fun s hs => (hL.vs hI s hs).1) hs hn ht
  by_cases q : 0 ≤ store ∧ store ≤ 2
  · rw [if_pos q] at this ⊢
    rw [zfnd_lk ((hL _ (zt3 q)).lk (hI _ (zt3 q)).1)] at this
    exact this
  · rw [if_neg q] at this ⊢; exact this
theorem p_blocks {μ : zM} {store : Int} (h : zST μ) (hs : zrg store) : zPr 10 mX10_blocks mX11_blocks [.inl store] μ := by
  obtain ⟨B, T, Tm, Ms, St, Sm, hC, hN, hP, hS, hL, hI⟩ := h
  refine zPr_rd hC hN (c_X10_blocks (by omega) hC.2.2.2.1 hs) ?_ hP hS hL hI
  have := c_X11_blocks (d := 10) (by omega) hN hs
  by_cases q : 0 ≤ store ∧ store ≤ 2
  · rw [if_pos q] at this ⊢
    rw [(hL _ (zt3 q)).1.length_eq] at this
    exact this
  · rw [if_neg q] at this ⊢; exact this
theorem p_state {μ : zM} {store : Int} (h : zST μ) (hs : zrg store) : zPr 10 mX10_state mX11_state [.inl store] μ := by
  obtain ⟨B, T, Tm, Ms, St, Sm, hC, hN, hP, hS, hL, hI⟩ := h
  refine zPr_rd hC hN (c_X10_state (by omega) hC.2.2.2.1 hs) ?_ hP hS hL hI
  have := c_X11_state (d := 10) (by omega) hN hs
  by_cases q : 0 ≤ store ∧ store ≤ 2
  · rw [if_pos q] at this ⊢
    rw [(hL _ (zt3 q)).2] at this
    exact this
  · rw [if_neg q] at this ⊢; exact this
theorem p_waiting {μ : zM} (h : zST μ) : zPr 10 mX10_waiting mX11_waiting [] μ := by
  obtain ⟨B, T, Tm, Ms, St, Sm, hC, hN, hP, hS, hL, hI⟩ := h
  exact zPr_rd hC hN (c_X10_waiting (by omega) hC.2.2.1) (c_X11_waiting hN) hP hS hL hI
theorem p_message {μ : zM} {k w : Int} (h : zST μ) (hk : zrg k) (hw : zrg w) : zPr 10 mX10_message mX11_message [.inl k, .inl w] μ := by
  obtain ⟨B, T, Tm, Ms, St, Sm, hC, hN, hP, hS, hL, hI⟩ := h
  exact zPr_rd hC hN (c_X10_message (by omega) hC.2.2.1 hk hw) (c_X11_message (by omega) hN hk hw) hP hS hL hI
theorem p_pin {μ : zM} {store nm dp on : Int} (h : zST μ) (hs : zrg store) (hn : zrg nm) (hd : dp = 0 ∨ dp = 1) (ho : on = 0 ∨ on = 1) : zPr 10 mX10_pin mX11_pin [.inl store, .inl nm, .inl dp, .inl on] μ := by
  obtain ⟨B, T, Tm, Ms, St, Sm, hC, hN, hP, hS, hL, hI⟩ := h
  have e : zpnO Sm store nm dp on = zpnO St store nm dp on ∧ zRL (zpnS St store nm dp on) (zpnS Sm store nm dp on) ∧ zIN (zpnS St store nm dp on) := by
    unfold zpnO zpnS
    by_cases q : 0 ≤ store ∧ store ≤ 2
    · rw [if_pos q, if_pos q, if_pos q, if_pos q]
      have h3 := zt3 q
      obtain ⟨a, b⟩ := zpn_same (hL _ h3) (hI _ h3).1 nm dp on
      refine ⟨a, hL.su ⟨(hL _ h3).1, ?_⟩, hI.su (zpn_iv (hI _ h3))⟩
      simp only
      rw [b, (hL _ h3).2]
    · rw [if_neg q, if_neg q, if_neg q, if_neg q]
      exact ⟨rfl, hL, hI⟩
  obtain ⟨e1, e2, e3⟩ := e
  refine zPr_mk hN (c_X10_pin (by omega) hC hs hn hd ho) (fun μ1 h1 => ?_) hP hS e2 e3
  have := c_X11_pin (d := 10) (by omega) h1 hs hn hd ho
  rw [e1] at this
  exact this
theorem p_collect {μ : zM} {store : Int} (h : zST μ) (hs : zrg store) : zPr 10 mX10_collect mX11_collect [.inl store] μ := by
  obtain ⟨B, T, Tm, Ms, St, Sm, hC, hN, hP, hS, hL, hI⟩ := h
  have e : zclO Sm store = zclO St store ∧ zRL (zclS St store) (zclS Sm store) ∧ zIN (zclS St store) := by
    unfold zclO zclS
    by_cases q : 0 ≤ store ∧ store ≤ 2
    · rw [if_pos q, if_pos q, if_pos q, if_pos q]
      have h3 := zt3 q
      have hk := zkp_same (hL _ h3) (hI _ h3).1
      have hl : (St store.toNat).1.length ≤ 64 := by
        have := (hC.2.2.2.1 _ h3).1.cnt.2.1
        omega
      refine ⟨?_, hL.su ⟨hk, (hL _ h3).2⟩, hI.su (zcl_iv (hI _ h3) hl)⟩
      rw [hk.length_eq, (hL _ h3).1.length_eq]
    · rw [if_neg q, if_neg q, if_neg q, if_neg q]
      exact ⟨rfl, hL, hI⟩
  obtain ⟨e1, e2, e3⟩ := e
  refine zPr_mk hN (c_X10_collect (by omega) hC hI.vs hs) (fun μ1 h1 => ?_) hP hS e2 e3
  have := c_X11_collect (d := 10) (by omega) h1 (hL.vs hI) hs
  rw [e1] at this
  exact this
theorem p_fetch {μ : zM} {store peer nm : Int} (h : zST μ) (hs : zrg store) (hp : zrg peer) (hn : zrg nm) : zPr 10 mX10_fetch mX11_fetch [.inl store, .inl peer, .inl nm] μ := by
  obtain ⟨B, T, Tm, Ms, St, Sm, hC, hN, hP, hS, hL, hI⟩ := h
  have e : zftO Sm store peer nm = zftO St store peer nm ∧ zftM Ms Sm store peer nm = zftM Ms St store peer nm ∧ zRL (zftS St store peer nm) (zftS Sm store peer nm) ∧ zIN (zftS St store peer nm) := by
    unfold zftO zftM zftS
    rcases zb_or (zftK store peer nm) with ⟨q1, q2⟩ | ⟨q1, q2⟩
    · rw [q1, if_pos rfl, if_pos rfl, if_pos rfl, if_pos rfl, if_pos rfl, if_pos rfl]
      have h3 := zt3 q2.1
      have ex := zft_eq (hL _ h3) peer nm
      have hv : zVS (zftX (St store.toNat) peer nm) := (hI _ h3).1
      rw [ex.ms hv]
      exact ⟨rfl, rfl, hL.su (ex.wst hv), hI.su (zft_iv (hI _ h3) peer nm)⟩
    · rw [q1, if_neg (by decide), if_neg (by decide), if_neg (by decide), if_neg (by decide), if_neg (by decide), if_neg (by decide)]
      exact ⟨rfl, rfl, hL, hI⟩
  obtain ⟨e1, e2, e3, e4⟩ := e
  refine zPr_mk hN (c_X10_fetch (by omega) hC hI.vs hs hp hn) (fun μ1 h1 => ?_) hP hS e3 e4
  have := c_X11_fetch (d := 10) (by omega) h1 (hL.vs hI) hs hp hn
  rw [e1, e2] at this
  exact this
theorem p_retry {μ : zM} {store : Int} (h : zST μ) (hs : zrg store) : zPr 10 mX10_retry mX11_retry [.inl store] μ := by
  obtain ⟨B, T, Tm, Ms, St, Sm, hC, hN, hP, hS, hL, hI⟩ := h
  have e : zrtO Sm store = zrtO St store ∧ zrtM Ms Sm store = zrtM Ms St store := by
    have hk : zrtK Sm store ↔ zrtK St store := by
      unfold zrtK
      constructor
      · rintro ⟨a, b⟩
        rw [(hL _ (zt3 a)).2] at b
        exact ⟨a, b⟩
      · rintro ⟨a, b⟩
        refine ⟨a, ?_⟩
        rw [(hL _ (zt3 a)).2]
        exact b
    unfold zrtO zrtM
    rcases zb_or (zrtK St store) with ⟨q1, q2⟩ | ⟨q1, q2⟩
    · rw [q1, zb_t (hk.mpr q2), if_pos rfl, if_pos rfl, if_pos rfl, if_pos rfl]
      have h3 := zt3 q2.1
      rw [(hL _ h3).ms (hI _ h3).1, (hL _ h3).2]
      exact ⟨rfl, rfl⟩
    · rw [q1, zb_f (fun w => q2 (hk.mp w)), if_neg (by decide), if_neg (by decide), if_neg (by decide), if_neg (by decide)]
      exact ⟨rfl, rfl⟩
  obtain ⟨e1, e2⟩ := e
  refine zPr_mk hN (c_X10_retry (by omega) hC hI.vs (fun s hs => (hI s hs).2.2) hs) (fun μ1 h1 => ?_) hP hS hL hI
  have := c_X11_retry (d := 10) (by omega) h1 (hL.vs hI) hs
  rw [e1, e2] at this
  exact this
theorem p_deliver {μ : zM} {k : Int} (h : zST μ) (hk : zrg k) : zPr 10 mX10_deliver mX11_deliver [.inl k] μ := by
  obtain ⟨B, T, Tm, Ms, St, Sm, hC, hN, hP, hS, hL, hI⟩ := h
  have e : zdlM Ms Sm k = zdlM Ms St k ∧ zRL (zdlS Ms St k) (zdlS Ms Sm k) ∧ zIN (zdlS Ms St k) := by
    unfold zdlM zdlS
    rcases zat_cases Ms k with ⟨c1, c2⟩ | ⟨i, m, rfl, hi, hm, c2⟩
    · rw [c2]
      exact ⟨rfl, hL, hI⟩
    · rw [c2]
      simp only
      obtain ⟨o1, o2, o3, o4, o5, o6⟩ := hN.2.2.1.2.2.1 m (List.mem_of_getElem? hm)
      have h3 := zt3 o3
      by_cases q0 : m.1.1 = 0
      · rw [if_pos q0, if_pos q0, if_pos q0, if_pos q0]
        exact ⟨zanw_same (hL _ h3) (hI _ h3).1 _ _ _ _, hL, hI⟩
      · rw [if_neg q0, if_neg q0, if_neg q0, if_neg q0]
        by_cases q1 : m.1.1 = 1
        · rw [if_pos q1, if_pos q1, if_pos q1, if_pos q1]
          obtain ⟨a, b, c⟩ := zgv_same (hL _ h3) (hI _ h3) (Ms.eraseIdx ((i : Int)).toNat) m.1.2.2 m.1.2.1 m.2 (o6 q1)
          exact ⟨c, hL.su a, hI.su b⟩
        · rw [if_neg q1, if_neg q1, if_neg q1, if_neg q1]
          obtain ⟨a, b⟩ := zrn_same (hL _ h3) (hI _ h3) m.1.2.1 m.2.1
          exact ⟨rfl, hL.su a, hI.su b⟩
  obtain ⟨e1, e2, e3⟩ := e
  refine zPr_mk hN (c_X10_deliver (by omega) hC hI.vs (fun s hs => (hI s hs).2.2) hk) (fun μ1 h1 => ?_) hP hS e2 e3
  have := c_X11_deliver (d := 10) (by omega) h1 (hL.vs hI) (fun s hs => (hL s hs).hb (hI s hs).2.1) hk
  rw [e1] at this
  exact this
theorem p_harm {μ : zM} {k i x : Int} (h : zST μ) (hk : zrg k) (hi : zrg i) (hx : zrg x) : zPr 10 mX10_harm mX11_harm [.inl k, .inl i, .inl x] μ := by
  obtain ⟨B, T, Tm, Ms, St, Sm, hC, hN, hP, hS, hL, hI⟩ := h
  exact zPr_mk hN (c_X10_harm (by omega) hC hk hi hx) (fun μ1 h1 => c_X11_harm (by omega) h1 hk hi hx) hP hS hL hI
