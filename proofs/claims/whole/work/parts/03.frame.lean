/-! THE ABSTRACT MACHINE: whole numbers for ints, places of a fixed list of cells for references; a memory is a function of a cell's place and a place in the cell. -/
abbrev zM : Type := Nat → Int → Int
abbrev zV : Type := Int ⊕ Option Nat
abbrev zK : Type := List zV → List zV → zM → Prop
/-- a cell's shape: ints, booleans, references (to these cells), an object (class, fields: none a number, some k the cell k) -/
abbrev zS : Type := (Int ⊕ (Int ⊕ Unit)) ⊕ (List Nat ⊕ (Nat × List (Option Nat)))
abbrev zE : Type := va_G × (ClassId × (ClassId × (ClassId × ((Nat → Nat) × (Nat → Prop)))))
abbrev zaD (E : zE) : va_G := E.1
abbrev zaI (E : zE) : ClassId := E.2.1
abbrev zaZ (E : zE) : ClassId := E.2.2.1
abbrev zaS (E : zE) : ClassId := E.2.2.2.1
abbrev zal (E : zE) : Nat → Nat := E.2.2.2.2.1
abbrev zaA (E : zE) : Nat → Prop := E.2.2.2.2.2
def zrg (x : Int) : Prop := -2147483648 ≤ x ∧ x ≤ 2147483647
def zcv (al : Nat → Nat) : zV → Value
  | .inl x => .int (Int32.ofInt x)
  | .inr (some k) => .ref (al k)
  | .inr none => .null
def zup (μ : zM) (k : Nat) (i x : Int) : zM := fun k' i' => if k' = k ∧ i' = i then x else μ k' i'
def zcp (μ : zM) (k1 k2 : Nat) (sp dp n : Int) : zM := fun k i => if k = k2 ∧ dp ≤ i ∧ i < dp + n then μ k1 (sp + (i - dp)) else μ k i
abbrev zia (n : Int) : zS := .inl (.inl n)
abbrev zza (n : Int) : zS := .inl (.inr (.inl n))
abbrev zpa : zS := .inl (.inr (.inr ()))
abbrev zra (l : List Nat) : zS := .inr (.inl l)
abbrev zob (c : Nat) (l : List (Option Nat)) : zS := .inr (.inr (c, l))
def zN : Nat := 88
def zlay : List zS := [zob 8 [some 1, some 26, none, some 27, some 30, some 34, some 40, some 48, some 52], zra [2, 10, 18], zob 5 [some 3, some 7, none, none, none], zob 4 [none, some 4, some 5, some 6, none], zia 1152, zia 64, zia 64, zob 3 [some 8, some 9, none], zia 8, zza 8, zob 5 [some 11, some 15, none, none, none], zob 4 [none, some 12, some 13, some 14, none], zia 1152, zia 64, zia 64, zob 3 [some 16, some 17, none], zia 8, zza 8, zob 5 [some 19, some 23, none, none, none], zob 4 [none, some 20, some 21, some 22, none], zia 1152, zia 64, zia 64, zob 3 [some 24, some 25, none], zia 8, zza 8, zia 32, zob 1 [some 28, some 29, none], zia 32, zia 32, zob 6 [some 31, some 32, none, some 33], zia 16, zia 16, zia 16, zob 0 [some 35, some 39, none, none], zob 4 [none, some 36, some 37, some 38, none], zia 1152, zia 64, zia 64, zia 18, zob 2 [some 41, some 45, some 46, some 47], zob 4 [none, some 42, some 43, some 44, none], zia 432, zia 24, zia 24, zia 24, zia 24, zia 24, zob 7 [some 49, some 50, none, some 51, none], zza 64, zia 257, zia 257, zob 7 [some 53, some 54, none, some 55, none], zza 64, zia 257, zia 257, zob 9 [some 57, some 58, some 59, some 60, some 61, some 62, some 63, some 64, some 65, some 66, some 67, none, some 68, some 69, some 70, some 71, some 72, some 73, none, some 74, none, some 75, some 76, some 77, none, none, none, some 78, some 79, some 80, none, some 81, none, some 82, none, some 83, none, some 84, some 85, some 86, some 87], zia 3, zia 192, zia 192, zia 3456, zza 192, zia 3, zia 24, zza 24, zia 3, zia 3, zia 3, zia 25, zia 25, zia 25, zia 25, zia 25, zia 450, zia 32, zia 16, zia 16, zia 32, zia 80, zia 80, zia 1440, zia 600, zia 900, zia 600, zia 600, zia 33, zia 33, zia 85]
def zsh (k : Nat) : zS := if k = 1000 then zpa else zlay.getD k (zob 99 [])
theorem zsh_0 : zsh 0 = zob 8 [some 1, some 26, none, some 27, some 30, some 34, some 40, some 48, some 52] := rfl
theorem zsh_1 : zsh 1 = zra [2, 10, 18] := rfl
theorem zsh_2 : zsh 2 = zob 5 [some 3, some 7, none, none, none] := rfl
theorem zsh_3 : zsh 3 = zob 4 [none, some 4, some 5, some 6, none] := rfl
theorem zsh_4 : zsh 4 = zia 1152 := rfl
theorem zsh_5 : zsh 5 = zia 64 := rfl
theorem zsh_6 : zsh 6 = zia 64 := rfl
theorem zsh_7 : zsh 7 = zob 3 [some 8, some 9, none] := rfl
theorem zsh_8 : zsh 8 = zia 8 := rfl
theorem zsh_9 : zsh 9 = zza 8 := rfl
theorem zsh_10 : zsh 10 = zob 5 [some 11, some 15, none, none, none] := rfl
theorem zsh_11 : zsh 11 = zob 4 [none, some 12, some 13, some 14, none] := rfl
theorem zsh_12 : zsh 12 = zia 1152 := rfl
theorem zsh_13 : zsh 13 = zia 64 := rfl
theorem zsh_14 : zsh 14 = zia 64 := rfl
theorem zsh_15 : zsh 15 = zob 3 [some 16, some 17, none] := rfl
theorem zsh_16 : zsh 16 = zia 8 := rfl
theorem zsh_17 : zsh 17 = zza 8 := rfl
theorem zsh_18 : zsh 18 = zob 5 [some 19, some 23, none, none, none] := rfl
theorem zsh_19 : zsh 19 = zob 4 [none, some 20, some 21, some 22, none] := rfl
theorem zsh_20 : zsh 20 = zia 1152 := rfl
theorem zsh_21 : zsh 21 = zia 64 := rfl
theorem zsh_22 : zsh 22 = zia 64 := rfl
theorem zsh_23 : zsh 23 = zob 3 [some 24, some 25, none] := rfl
theorem zsh_24 : zsh 24 = zia 8 := rfl
theorem zsh_25 : zsh 25 = zza 8 := rfl
theorem zsh_26 : zsh 26 = zia 32 := rfl
theorem zsh_27 : zsh 27 = zob 1 [some 28, some 29, none] := rfl
theorem zsh_28 : zsh 28 = zia 32 := rfl
theorem zsh_29 : zsh 29 = zia 32 := rfl
theorem zsh_30 : zsh 30 = zob 6 [some 31, some 32, none, some 33] := rfl
theorem zsh_31 : zsh 31 = zia 16 := rfl
theorem zsh_32 : zsh 32 = zia 16 := rfl
theorem zsh_33 : zsh 33 = zia 16 := rfl
theorem zsh_34 : zsh 34 = zob 0 [some 35, some 39, none, none] := rfl
theorem zsh_35 : zsh 35 = zob 4 [none, some 36, some 37, some 38, none] := rfl
theorem zsh_36 : zsh 36 = zia 1152 := rfl
theorem zsh_37 : zsh 37 = zia 64 := rfl
theorem zsh_38 : zsh 38 = zia 64 := rfl
theorem zsh_39 : zsh 39 = zia 18 := rfl
theorem zsh_40 : zsh 40 = zob 2 [some 41, some 45, some 46, some 47] := rfl
theorem zsh_41 : zsh 41 = zob 4 [none, some 42, some 43, some 44, none] := rfl
theorem zsh_42 : zsh 42 = zia 432 := rfl
theorem zsh_43 : zsh 43 = zia 24 := rfl
theorem zsh_44 : zsh 44 = zia 24 := rfl
theorem zsh_45 : zsh 45 = zia 24 := rfl
theorem zsh_46 : zsh 46 = zia 24 := rfl
theorem zsh_47 : zsh 47 = zia 24 := rfl
theorem zsh_48 : zsh 48 = zob 7 [some 49, some 50, none, some 51, none] := rfl
theorem zsh_49 : zsh 49 = zza 64 := rfl
theorem zsh_50 : zsh 50 = zia 257 := rfl
theorem zsh_51 : zsh 51 = zia 257 := rfl
theorem zsh_52 : zsh 52 = zob 7 [some 53, some 54, none, some 55, none] := rfl
theorem zsh_53 : zsh 53 = zza 64 := rfl
theorem zsh_54 : zsh 54 = zia 257 := rfl
theorem zsh_55 : zsh 55 = zia 257 := rfl
theorem zsh_56 : zsh 56 = zob 9 [some 57, some 58, some 59, some 60, some 61, some 62, some 63, some 64, some 65, some 66, some 67, none, some 68, some 69, some 70, some 71, some 72, some 73, none, some 74, none, some 75, some 76, some 77, none, none, none, some 78, some 79, some 80, none, some 81, none, some 82, none, some 83, none, some 84, some 85, some 86, some 87] := rfl
theorem zsh_57 : zsh 57 = zia 3 := rfl
theorem zsh_58 : zsh 58 = zia 192 := rfl
theorem zsh_59 : zsh 59 = zia 192 := rfl
theorem zsh_60 : zsh 60 = zia 3456 := rfl
theorem zsh_61 : zsh 61 = zza 192 := rfl
theorem zsh_62 : zsh 62 = zia 3 := rfl
theorem zsh_63 : zsh 63 = zia 24 := rfl
theorem zsh_64 : zsh 64 = zza 24 := rfl
theorem zsh_65 : zsh 65 = zia 3 := rfl
theorem zsh_66 : zsh 66 = zia 3 := rfl
theorem zsh_67 : zsh 67 = zia 3 := rfl
theorem zsh_68 : zsh 68 = zia 25 := rfl
theorem zsh_69 : zsh 69 = zia 25 := rfl
theorem zsh_70 : zsh 70 = zia 25 := rfl
theorem zsh_71 : zsh 71 = zia 25 := rfl
theorem zsh_72 : zsh 72 = zia 25 := rfl
theorem zsh_73 : zsh 73 = zia 450 := rfl
theorem zsh_74 : zsh 74 = zia 32 := rfl
theorem zsh_75 : zsh 75 = zia 16 := rfl
theorem zsh_76 : zsh 76 = zia 16 := rfl
theorem zsh_77 : zsh 77 = zia 32 := rfl
theorem zsh_78 : zsh 78 = zia 80 := rfl
theorem zsh_79 : zsh 79 = zia 80 := rfl
theorem zsh_80 : zsh 80 = zia 1440 := rfl
theorem zsh_81 : zsh 81 = zia 600 := rfl
theorem zsh_82 : zsh 82 = zia 900 := rfl
theorem zsh_83 : zsh 83 = zia 600 := rfl
theorem zsh_84 : zsh 84 = zia 600 := rfl
theorem zsh_85 : zsh 85 = zia 33 := rfl
theorem zsh_86 : zsh 86 = zia 33 := rfl
theorem zsh_87 : zsh 87 = zia 85 := rfl
theorem zsh_1000 : zsh 1000 = zpa := rfl
theorem zsh_lt {k : Nat} (h : zsh k ≠ zpa) (h2 : zsh k ≠ zob 99 []) : k < zN := by
  by_cases hk : k < zN
  · exact hk
  · exfalso
    unfold zsh at h h2
    by_cases h1 : k = 1000
    · rw [if_pos h1] at h; exact h rfl
    · rw [if_neg h1] at h2
      apply h2
      have : zlay.length ≤ k := Nat.le_of_not_lt hk
      simp [List.getD, List.getElem?_eq_none this]
def zsize (S : zS) : Int := match S with
  | .inl (.inl n) => n
  | .inl (.inr (.inl n)) => n
  | .inl (.inr (.inr _)) => 4
  | .inr (.inl l) => l.length
  | .inr (.inr (_, l)) => l.length
theorem zsm_all : ∀ S ∈ zlay, zsize S ≤ 2147483647 := by decide +kernel
theorem zsm (k : Nat) : zsize (zsh k) ≤ 2147483647 := by
  unfold zsh
  split
  · decide
  · by_cases h : k < zlay.length
    · have : zlay.getD k (zob 99 []) = zlay[k] := by simp [List.getD, h]
      rw [this]
      exact zsm_all _ (List.getElem_mem h)
    · have : zlay.getD k (zob 99 []) = zob 99 [] := by simp [List.getD, List.getElem?_eq_none (Nat.le_of_not_lt h)]
      rw [this]
      decide
theorem zpa_all : ∀ S ∈ zlay, S ≠ zpa := by decide +kernel
theorem zsh_pa {k : Nat} {u : Unit} (h : zsh k = .inl (.inr (.inr u))) : k = 1000 := by
  by_cases h1 : k = 1000
  · exact h1
  · exfalso
    unfold zsh at h
    rw [if_neg h1] at h
    by_cases hk : k < zlay.length
    · have e : zlay.getD k (zob 99 []) = zlay[k] := by simp [List.getD, hk]
      rw [e] at h
      exact zpa_all _ (List.getElem_mem hk) h
    · have e : zlay.getD k (zob 99 []) = zob 99 [] := by simp [List.getD, List.getElem?_eq_none (Nat.le_of_not_lt hk)]
      rw [e] at h
      cases h
/-- the row of PART_WIDTHS -/
def zpw : Int → Int := fun j => if j = 0 then 0 else if j = 1 then 4 else if j = 2 then 3 else 2
/-! bits -/
def zand (x y : Int) : Int := (Int32.ofInt x &&& Int32.ofInt y).toInt
def zor (x y : Int) : Int := (Int32.ofInt x ||| Int32.ofInt y).toInt
def zxor (x y : Int) : Int := (Int32.ofInt x ^^^ Int32.ofInt y).toInt
def zshl (x y : Int) : Int := (Int32.ofInt x <<< (Int32.ofInt y &&& 31)).toInt
def zshr (x y : Int) : Int := (Int32.ofInt x >>> (Int32.ofInt y &&& 31)).toInt
def zush (x y : Int) : Int := ((Int32.ofInt x).toUInt32 >>> ((Int32.ofInt y).toUInt32 &&& Int32.toUInt32 31)).toInt32.toInt
/-! instructions: what must hold before, said of what must hold behind -/
def o_c (v : Int) (K : zK) : zK := fun ls st μ => K ls (.inl v :: st) μ
def o_il (i : Nat) (K : zK) : zK := fun ls st μ => match ls[i]? with
  | some (.inl x) => K ls (.inl x :: st) μ
  | _ => False
def o_al (i : Nat) (K : zK) : zK := fun ls st μ => match ls[i]? with
  | some (.inr (some k)) => K ls (.inr (some k) :: st) μ
  | _ => False
def o_is (i : Nat) (K : zK) : zK := fun ls st μ => match st with
  | .inl x :: r => K (ls.set i (.inl x)) r μ
  | _ => False
def o_as (i : Nat) (K : zK) : zK := fun ls st μ => match st with
  | .inr (some k) :: r => K (ls.set i (.inr (some k))) r μ
  | _ => False
def o_inc (i : Nat) (n : Int) (K : zK) : zK := fun ls st μ => match ls[i]? with
  | some (.inl x) => K (ls.set i (.inl (x + n))) st μ
  | _ => False
def o_add (K : zK) : zK := fun ls st μ => match st with
  | .inl y :: .inl x :: r => K ls (.inl (x + y) :: r) μ
  | _ => False
def o_sub (K : zK) : zK := fun ls st μ => match st with
  | .inl y :: .inl x :: r => K ls (.inl (x - y) :: r) μ
  | _ => False
def o_mul (K : zK) : zK := fun ls st μ => match st with
  | .inl y :: .inl x :: r => K ls (.inl (x * y) :: r) μ
  | _ => False
def o_and (K : zK) : zK := fun ls st μ => match st with
  | .inl y :: .inl x :: r => K ls (.inl (zand x y) :: r) μ
  | _ => False
def o_or (K : zK) : zK := fun ls st μ => match st with
  | .inl y :: .inl x :: r => K ls (.inl (zor x y) :: r) μ
  | _ => False
def o_xor (K : zK) : zK := fun ls st μ => match st with
  | .inl y :: .inl x :: r => K ls (.inl (zxor x y) :: r) μ
  | _ => False
def o_shl (K : zK) : zK := fun ls st μ => match st with
  | .inl y :: .inl x :: r => K ls (.inl (zshl x y) :: r) μ
  | _ => False
def o_shr (K : zK) : zK := fun ls st μ => match st with
  | .inl y :: .inl x :: r => K ls (.inl (zshr x y) :: r) μ
  | _ => False
def o_ush (K : zK) : zK := fun ls st μ => match st with
  | .inl y :: .inl x :: r => K ls (.inl (zush x y) :: r) μ
  | _ => False
def o_rem (K : zK) : zK := fun ls st μ => match st with
  | .inl y :: .inl x :: r => (0 ≤ x ∧ x ≤ 2147483647) ∧ (0 < y ∧ y ≤ 2147483647) ∧ K ls (.inl (x % y) :: r) μ
  | _ => False
def o_dup (K : zK) : zK := fun ls st μ => match st with
  | v :: r => K ls (v :: v :: r) μ
  | _ => False
def o_dup2 (K : zK) : zK := fun ls st μ => match st with
  | v :: w :: r => K ls (v :: w :: v :: w :: r) μ
  | _ => False
/-- a field's value, by the shape -/
def zgf (S : zS) (c j k : Nat) (μ : zM) (C : zV → Prop) : Prop := match S with
  | .inr (.inr (c', fl)) => c' = c ∧ (match fl[j]? with
    | some none => C (.inl (μ k j))
    | some (some t) => C (.inr (some t))
    | none => False)
  | _ => False
def o_gf (c j : Nat) (K : zK) : zK := fun ls st μ => match st with
  | .inr (some k) :: r => zgf (zsh k) c j k μ (fun v => K ls (v :: r) μ)
  | _ => False
def zpf (S : zS) (c j : Nat) (C : Prop) : Prop := match S with
  | .inr (.inr (c', fl)) => c' = c ∧ fl[j]? = some none ∧ C
  | _ => False
def o_pf (c j : Nat) (K : zK) : zK := fun ls st μ => match st with
  | .inl x :: .inr (some k) :: r => zpf (zsh k) c j (K ls r (zup μ k j x))
  | _ => False
def o_pz (c j : Nat) (K : zK) : zK := fun ls st μ => match st with
  | .inl x :: .inr (some k) :: r => (x = 0 ∨ x = 1) ∧ zpf (zsh k) c j (K ls r (zup μ k j x))
  | _ => False
def zia_ (S : zS) (i : Int) (C : Prop) : Prop := match S with
  | .inl (.inl n) => (0 ≤ i ∧ i < n) ∧ C
  | _ => False
def zza_ (S : zS) (i : Int) (C : Prop) : Prop := match S with
  | .inl (.inr (.inl n)) => (0 ≤ i ∧ i < n) ∧ C
  | _ => False
def zra_ (S : zS) (i : Int) (C : Nat → Prop) : Prop := match S with
  | .inr (.inl l) => (0 ≤ i ∧ i < l.length) ∧ C (l.getD i.toNat 0)
  | _ => False
def zrd_ (S : zS) (i v : Int) (C : Int → Prop) : Prop := match S with
  | .inl (.inl n) => (0 ≤ i ∧ i < n) ∧ C v
  | .inl (.inr (.inr _)) => (0 ≤ i ∧ i < 4) ∧ C (zpw i)
  | _ => False
def o_iald (K : zK) : zK := fun ls st μ => match st with
  | .inl i :: .inr (some k) :: r => zrd_ (zsh k) i (μ k i) (fun v => K ls (.inl v :: r) μ)
  | _ => False
def o_iast (K : zK) : zK := fun ls st μ => match st with
  | .inl x :: .inl i :: .inr (some k) :: r => zia_ (zsh k) i (K ls r (zup μ k i x))
  | _ => False
def o_zald (K : zK) : zK := fun ls st μ => match st with
  | .inl i :: .inr (some k) :: r => zza_ (zsh k) i (K ls (.inl (μ k i) :: r) μ)
  | _ => False
def o_zast (K : zK) : zK := fun ls st μ => match st with
  | .inl x :: .inl i :: .inr (some k) :: r => (x = 0 ∨ x = 1) ∧ zza_ (zsh k) i (K ls r (zup μ k i x))
  | _ => False
def o_aald (K : zK) : zK := fun ls st μ => match st with
  | .inl i :: .inr (some k) :: r => zra_ (zsh k) i (fun t => K ls (.inr (some t) :: r) μ)
  | _ => False
def o_gs (K : zK) : zK := fun ls st μ => K ls (.inr (some 1000) :: st) μ
def zpop : Nat → List zV → List zV → (List zV → List zV → Prop) → Prop
  | 0, st, acc, C => C acc st
  | n + 1, v :: st, acc, C => zpop n st (v :: acc) C
  | _ + 1, [], _, _ => False
abbrev zQ : Type := Option zV → zM → Prop
def zsm8 (r : List zV) : Prop := r.length ≤ 8
def o_min (K : zK) : zK := fun ls st μ => match st with
  | .inl y :: .inl x :: r => zsm8 r ∧ zrg x ∧ zrg y ∧ K ls (.inl (if y < x then y else x) :: r) μ
  | _ => False
def zcp_ (S1 S2 : zS) (sp dp n : Int) (C : Prop) : Prop := match S1, S2 with
  | .inl (.inl n1), .inl (.inl n2) => (0 ≤ sp ∧ 0 ≤ dp ∧ 0 ≤ n ∧ sp + n ≤ n1 ∧ dp + n ≤ n2) ∧ C
  | _, _ => False
def o_acp (K : zK) : zK := fun ls st μ => match st with
  | .inl n :: .inl dp :: .inr (some k2) :: .inl sp :: .inr (some k1) :: r => zsm8 r ∧ zcp_ (zsh k1) (zsh k2) sp dp n (K ls r (zcp μ k1 k2 sp dp n))
  | _ => False
def zisob (S : zS) (c : Nat) : Prop := match S with
  | .inr (.inr (c', _)) => c' = c
  | _ => False
def zrc (as : List zV) (c : Nat) : Prop := match as with
  | .inr (some k) :: _ => zisob (zsh k) c
  | _ => False
/-- a static method is called -/
def o_call (C : List zV → zM → zQ → Prop) (n : Nat) (K : zK) : zK := fun ls st μ => zpop n st [] (fun as r => zsm8 r ∧ ∃ Q : zQ, C as μ Q ∧ ∀ v μ', Q v μ' → K ls (v.toList ++ r) μ')
/-- a method of an object of class c is called -/
def o_callv (C : List zV → zM → zQ → Prop) (c n : Nat) (K : zK) : zK := fun ls st μ => zpop n st [] (fun as r => zrc as c ∧ zsm8 r ∧ ∃ Q : zQ, C as μ Q ∧ ∀ v μ', Q v μ' → K ls (v.toList ++ r) μ')
/-! ends of blocks -/
def t_ieq (G1 G2 : zK) : zK := fun ls st μ => match st with
  | .inl y :: .inl x :: r => zrg x ∧ zrg y ∧ (x = y → G1 ls r μ) ∧ (¬ x = y → G2 ls r μ)
  | _ => False
def t_ilt (G1 G2 : zK) : zK := fun ls st μ => match st with
  | .inl y :: .inl x :: r => zrg x ∧ zrg y ∧ (x < y → G1 ls r μ) ∧ (y ≤ x → G2 ls r μ)
  | _ => False
def t_igt (G1 G2 : zK) : zK := fun ls st μ => match st with
  | .inl y :: .inl x :: r => zrg x ∧ zrg y ∧ (y < x → G1 ls r μ) ∧ (x ≤ y → G2 ls r μ)
  | _ => False
def t_zeq (G1 G2 : zK) : zK := fun ls st μ => match st with
  | .inl x :: r => zrg x ∧ (x = 0 → G1 ls r μ) ∧ (¬ x = 0 → G2 ls r μ)
  | _ => False
def t_zlt (G1 G2 : zK) : zK := fun ls st μ => match st with
  | .inl x :: r => zrg x ∧ (x < 0 → G1 ls r μ) ∧ (0 ≤ x → G2 ls r μ)
  | _ => False
def t_zgt (G1 G2 : zK) : zK := fun ls st μ => match st with
  | .inl x :: r => zrg x ∧ (0 < x → G1 ls r μ) ∧ (x ≤ 0 → G2 ls r μ)
  | _ => False
def zsw (x : Int) : List (Int × zK) → zK → zK
  | [], d => d
  | (v, k) :: r, d => fun ls st μ => (x = v → k ls st μ) ∧ (¬ x = v → zsw x r d ls st μ)
def t_sw (ps : List (Int × zK)) (d : zK) : zK := fun ls st μ => match st with
  | .inl x :: r => zrg x ∧ zsw x ps d ls r μ
  | _ => False
def t_iret (Q : zQ) : zK := fun _ st μ => match st with
  | [.inl x] => Q (some (.inl x)) μ
  | _ => False
def t_zret (Q : zQ) : zK := fun _ st μ => match st with
  | [.inl x] => (x = 0 ∨ x = 1) ∧ Q (some (.inl x)) μ
  | _ => False
def t_aret (Q : zQ) : zK := fun _ st μ => match st with
  | [.inr (some k)] => Q (some (.inr (some k))) μ
  | _ => False
def t_vret (Q : zQ) : zK := fun _ st μ => match st with
  | [] => Q none μ
  | _ => False
