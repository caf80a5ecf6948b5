/-! PURE WORDS: blocks (name, bytes), rows of blocks -/
abbrev zBk : Type := Int × List Int
abbrev zR (v : zV) (μ0 : zM) : zQ := fun r μ' => r = some v ∧ μ' = μ0
def zBOK (b : zBk) : Prop := (0 ≤ b.1 ∧ b.1 ≤ 65520) ∧ b.2.length ≤ 18 ∧ ∀ x ∈ b.2, 0 ≤ x ∧ x ≤ 255
/-- the place of the first block of a name, or -1 -/
def zixf (nm : Int) : List zBk → Int → Int
  | [], _ => -1
  | b :: r, i => if b.1 = nm then i else zixf nm r (i + 1)
def zix (L : List zBk) (nm : Int) : Int := zixf nm L 0
def zoat (L : List zBk) (i : Int) : Option (List Int) := if 0 ≤ i then (L[i.toNat]?).map (·.2) else none
def zp_size (o : Option (List Int)) : Int := match o with
  | none => -1
  | some bs => bs.length
def zp_byte (o : Option (List Int)) (i : Int) : Int := match o with
  | none => -1
  | some bs => if 0 ≤ i then bs.getD i.toNat (-1) else -1
def zp_pair (o : Option (List Int)) (i : Int) : Int := if 0 ≤ i ∧ i < zp_size o - 1 then zp_byte o i + 256 * zp_byte o (i + 1) else -1
theorem zoat_cases (L : List zBk) (s : Int) : ((s < 0 ∨ (L.length : Int) ≤ s) ∧ zoat L s = none) ∨ (∃ (i : Nat) (b : zBk), s = i ∧ i < L.length ∧ L[i]? = some b ∧ zoat L s = some b.2) := by
  by_cases h : 0 ≤ s
  · obtain ⟨i, rfl⟩ := Int.eq_ofNat_of_zero_le h
    by_cases hi : i < L.length
    · right
      refine ⟨i, L[i], rfl, hi, List.getElem?_eq_getElem hi, ?_⟩
      simp [zoat, hi]
    · left
      refine ⟨Or.inr (by omega), ?_⟩
      simp [zoat, List.getElem?_eq_none (Nat.le_of_not_lt hi)]
  · left
    exact ⟨Or.inl (by omega), by simp [zoat, h]⟩
/-- memories that agree but on some cells -/
def zfr (S : List Nat) (μ μ' : zM) : Prop := ∀ c, c ∉ S → μ' c = μ c
theorem zfr.refl (S : List Nat) (μ : zM) : zfr S μ μ := fun _ _ => rfl
theorem zfr.trans {S : List Nat} {a b c : zM} (h1 : zfr S a b) (h2 : zfr S b c) : zfr S a c := fun k hk => (h2 k hk).trans (h1 k hk)
theorem zfr.mono {S S' : List Nat} {a b : zM} (h : zfr S a b) (hs : ∀ x ∈ S, x ∈ S') : zfr S' a b := fun k hk => h k (fun w => hk (hs k w))
theorem zsm8_0 : zsm8 [] = True := eq_true (by unfold zsm8; simp)
theorem zsm8_1 {a0 : zV} : zsm8 [a0] = True := eq_true (by unfold zsm8; simp)
theorem zsm8_2 {a0 a1 : zV} : zsm8 [a0, a1] = True := eq_true (by unfold zsm8; simp)
theorem zsm8_3 {a0 a1 a2 : zV} : zsm8 [a0, a1, a2] = True := eq_true (by unfold zsm8; simp)
theorem zsm8_4 {a0 a1 a2 a3 : zV} : zsm8 [a0, a1, a2, a3] = True := eq_true (by unfold zsm8; simp)
theorem zsm8_5 {a0 a1 a2 a3 a4 : zV} : zsm8 [a0, a1, a2, a3, a4] = True := eq_true (by unfold zsm8; simp)
/-! SHELVES -/
def zshK (k : Nat) (n : Int) : Prop := ((k = 3 ∨ k = 11 ∨ k = 19 ∨ k = 35) ∧ n = 64) ∨ (k = 41 ∧ n = 24)
theorem zshK.ob {k : Nat} {n : Int} (h : zshK k n) : zsh k = zob 4 [none, some (k + 1), some (k + 2), some (k + 3), none] := by
  rcases h with ⟨rfl | rfl | rfl | rfl, rfl⟩ | ⟨rfl, rfl⟩ <;> rfl
theorem zshK.c1 {k : Nat} {n : Int} (h : zshK k n) : zsh (k + 1) = zia (n * 18) := by
  rcases h with ⟨rfl | rfl | rfl | rfl, rfl⟩ | ⟨rfl, rfl⟩ <;> rfl
theorem zshK.c2 {k : Nat} {n : Int} (h : zshK k n) : zsh (k + 2) = zia n := by
  rcases h with ⟨rfl | rfl | rfl | rfl, rfl⟩ | ⟨rfl, rfl⟩ <;> rfl
theorem zshK.c3 {k : Nat} {n : Int} (h : zshK k n) : zsh (k + 3) = zia n := by
  rcases h with ⟨rfl | rfl | rfl | rfl, rfl⟩ | ⟨rfl, rfl⟩ <;> rfl
theorem zshK.n {k : Nat} {n : Int} (h : zshK k n) : n = 64 ∨ n = 24 := by
  rcases h with ⟨_, rfl⟩ | ⟨_, rfl⟩ <;> simp
/-- the shelf at cell k, of n places, holds the blocks L -/
def zSH (μ : zM) (k : Nat) (n : Int) (L : List zBk) : Prop := zshK k n ∧ μ k 0 = n ∧ μ k 4 = L.length ∧ (L.length : Int) ≤ n ∧ (∀ b ∈ L, zBOK b) ∧
  ∀ (i : Nat) (b : zBk), L[i]? = some b → μ (k + 3) i = b.1 ∧ μ (k + 2) i = b.2.length ∧ ∀ (j : Nat) (x : Int), b.2[j]? = some x → μ (k + 1) (i * 18 + j) = x
