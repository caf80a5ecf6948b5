/-! BITS -/
noncomputable def zb (P : Prop) : Int := @ite Int P (Classical.propDecidable P) 1 0
theorem zb_t {P : Prop} (h : P) : zb P = 1 := by unfold zb; rw [if_pos h]
theorem zb_f {P : Prop} (h : ¬ P) : zb P = 0 := by unfold zb; rw [if_neg h]
theorem zb_or (P : Prop) : (zb P = 1 ∧ P) ∨ (zb P = 0 ∧ ¬ P) := by
  by_cases h : P
  · exact Or.inl ⟨zb_t h, h⟩
  · exact Or.inr ⟨zb_f h, h⟩
theorem zb_rg (P : Prop) : zb P = 0 ∨ zb P = 1 := by rcases zb_or P with h | h <;> simp [h.1]
theorem nI_int {n : Nat} (h : n < 2 ^ 31) : (nI n).toInt = n := by
  have := z32 (x := n) ⟨by omega, by omega⟩
  rw [z32_nat (by omega)] at this
  simpa using this
theorem zbv_nat (x : Int) : (Int32.ofInt x).toBitVec.toNat = (x % 4294967296).toNat := by
  rw [Int32.toBitVec_ofInt, BitVec.toNat_ofInt]
  rfl
theorem zand_m {x m : Int} (k : Nat) (hk : k ≤ 30) (hm : m = 2 ^ k - 1) : zand x m = x % 2 ^ k := by
  unfold zand
  have hp : (2 : Nat) ^ k ≤ 2 ^ 30 := Nat.pow_le_pow_right (by omega) hk
  have hp0 : 0 < (2 : Nat) ^ k := Nat.pow_pos (by omega)
  have hpi : (2 : Int) ^ k = ((2 ^ k : Nat) : Int) := by simp
  have hm2 : (Int32.ofInt m).toBitVec.toNat = 2 ^ k - 1 := by
    rw [zbv_nat, hm, hpi]
    omega
  rw [pk_and (Int32.ofInt x) k hm2, zbv_nat, nI_int]
  · have hdvd : ((2 ^ k : Nat) : Int) ∣ ((2 ^ 32 : Nat) : Int) := Int.natCast_dvd_natCast.mpr (Nat.pow_dvd_pow 2 (by omega : k ≤ 32))
    have h1 : x % 4294967296 % ((2 ^ k : Nat) : Int) = x % ((2 ^ k : Nat) : Int) := Int.emod_emod_of_dvd x hdvd
    have h2 : 0 ≤ x % 4294967296 := Int.emod_nonneg _ (by decide)
    rw [hpi, Int.natCast_emod, Int.toNat_of_nonneg h2]
    exact h1
  · have := Nat.mod_lt (x % 4294967296).toNat hp0
    omega
theorem zand_nat {a b : Nat} (ha : a < 2 ^ 31) (hb : b < 2 ^ 31) : zand a b = ((a &&& b : Nat) : Int) := by
  unfold zand
  have e : Int32.ofInt (a : Int) &&& Int32.ofInt (b : Int) = nI (a &&& b) := by
    apply Int32.toBitVec.inj
    show BitVec.ofInt 32 a &&& BitVec.ofInt 32 b = BitVec.ofNat 32 (a &&& b)
    rw [BitVec.ofInt_natCast, BitVec.ofInt_natCast, BitVec.ofNat_and]
  rw [e, nI_int (Nat.lt_of_le_of_lt Nat.and_le_left ha)]
theorem zor_nat {a b : Nat} (ha : a < 2 ^ 31) (hb : b < 2 ^ 31) : zor a b = ((a ||| b : Nat) : Int) := by
  unfold zor
  have e : Int32.ofInt (a : Int) ||| Int32.ofInt (b : Int) = nI (a ||| b) := by
    apply Int32.toBitVec.inj
    show BitVec.ofInt 32 a ||| BitVec.ofInt 32 b = BitVec.ofNat 32 (a ||| b)
    rw [BitVec.ofInt_natCast, BitVec.ofInt_natCast, BitVec.ofNat_or]
  rw [e, nI_int (Nat.or_lt_two_pow ha hb)]
theorem zxor_nat {a b : Nat} (ha : a < 2 ^ 31) (hb : b < 2 ^ 31) : zxor a b = ((a ^^^ b : Nat) : Int) := by
  unfold zxor
  have e : Int32.ofInt (a : Int) ^^^ Int32.ofInt (b : Int) = nI (a ^^^ b) := by
    apply Int32.toBitVec.inj
    show BitVec.ofInt 32 a ^^^ BitVec.ofInt 32 b = BitVec.ofNat 32 (a ^^^ b)
    rw [BitVec.ofInt_natCast, BitVec.ofInt_natCast, BitVec.ofNat_xor]
  rw [e, nI_int (Nat.xor_lt_two_pow ha hb)]
theorem zs31 : ∀ s : Fin 32, ((Int32.ofInt ((s : Nat) : Int) &&& 31).toBitVec.smod 32).toNat = s := by decide +kernel
theorem zu31 : ∀ s : Fin 32, (((Int32.ofInt ((s : Nat) : Int)).toUInt32 &&& Int32.toUInt32 31).toBitVec % 32).toNat = s := by decide +kernel
theorem zshl_nat {a s : Nat} (hs : s < 32) (h : a * 2 ^ s < 2 ^ 31) : zshl a s = ((a * 2 ^ s : Nat) : Int) := by
  unfold zshl
  have e1 : Int32.ofInt (a : Int) = nI a := z32_nat (by omega)
  rw [e1, pk_shlN _ s (zs31 ⟨s, hs⟩) (by omega), nI_int h]
theorem zshr_nat {a s : Nat} (hs : s < 32) (h : a < 2 ^ 31) : zshr a s = ((a / 2 ^ s : Nat) : Int) := by
  unfold zshr
  have e1 : Int32.ofInt (a : Int) = nI a := z32_nat (by omega)
  rw [e1, pk_shrN h _ s (zs31 ⟨s, hs⟩), nI_int (Nat.lt_of_le_of_lt (Nat.div_le_self _ _) h)]
theorem zush_nat {a s : Nat} (hs : s < 32) (h : a < 2 ^ 31) : zush a s = ((a / 2 ^ s : Nat) : Int) := by
  unfold zush
  have e1 : Int32.ofInt (a : Int) = nI a := z32_nat (by omega)
  rw [e1]
  have e2 : ((nI a).toUInt32 >>> ((Int32.ofInt (s : Int)).toUInt32 &&& Int32.toUInt32 31)).toInt32.toBitVec.toNat = a / 2 ^ s := by
    have e3 : (Int32.ofInt (s : Int)).toUInt32 &&& Int32.toUInt32 31 = (Int32.ofInt (s : Int)).toUInt32 := by
      have : ∀ s : Fin 32, (Int32.ofInt ((s : Nat) : Int)).toUInt32 &&& Int32.toUInt32 31 = (Int32.ofInt ((s : Nat) : Int)).toUInt32 := by decide +kernel
      exact this ⟨s, hs⟩
    have e4 := pk_ushr (nI a) (Int32.ofInt (s : Int)) s (zu31 ⟨s, hs⟩)
    rw [e4, pk_tn (by omega)]
  have e5 : ((nI a).toUInt32 >>> ((Int32.ofInt (s : Int)).toUInt32 &&& Int32.toUInt32 31)).toInt32 = nI (a / 2 ^ s) := by
    apply Int32.toBitVec.inj
    apply BitVec.eq_of_toNat_eq
    have := Nat.div_le_self a (2 ^ s)
    rw [e2, pk_tn (by omega)]
  rw [e5, nI_int (Nat.lt_of_le_of_lt (Nat.div_le_self _ _) h)]
/-- how many bits are 1 -/
def zpcn : Nat → Nat → Nat
  | 0, _ => 0
  | f + 1, x => x % 2 + zpcn f (x / 2)
def zpc (x : Int) : Int := (zpcn 16 x.toNat : Int)
def zbc1 (n : Nat) : Nat := n - (n / 2 &&& 1431655765)
def zbc2 (n : Nat) : Nat := (n &&& 858993459) + (n / 4 &&& 858993459)
def zbc3 (n : Nat) : Nat := (n + n / 16) &&& 252645135
def zbc4 (n : Nat) : Nat := n + n / 256
def zbc5 (n : Nat) : Nat := (n + n / 65536) &&& 63
def zbcf (n : Nat) : Nat := zbc5 (zbc4 (zbc3 (zbc2 (zbc1 n))))
def zbck : Nat → Nat → Bool
  | 0, _ => true
  | f + 1, n => (zbcf n == zpcn 16 n) && zbck f (n + 1)
theorem zbck_of : ∀ {f n m : Nat}, zbck f n = true → n ≤ m → m < n + f → zbcf m = zpcn 16 m := by
  intro f
  induction f with
  | zero => intro n m _ h1 h2; omega
  | succ f ih =>
    intro n m h h1 h2
    simp only [zbck, Bool.and_eq_true, beq_iff_eq] at h
    by_cases e : m = n
    · rw [e]; exact h.1
    · exact ih h.2 (by omega) (by omega)
theorem zbc_0 : zbck 4096 0 = true := by decide +kernel
theorem zbc_1 : zbck 4096 4096 = true := by decide +kernel
theorem zbc_2 : zbck 4096 8192 = true := by decide +kernel
theorem zbc_3 : zbck 4096 12288 = true := by decide +kernel
theorem zbc_4 : zbck 4096 16384 = true := by decide +kernel
theorem zbc_5 : zbck 4096 20480 = true := by decide +kernel
theorem zbc_6 : zbck 4096 24576 = true := by decide +kernel
theorem zbc_7 : zbck 4096 28672 = true := by decide +kernel
theorem zbc_8 : zbck 4096 32768 = true := by decide +kernel
theorem zbc_9 : zbck 4096 36864 = true := by decide +kernel
theorem zbc_10 : zbck 4096 40960 = true := by decide +kernel
theorem zbc_11 : zbck 4096 45056 = true := by decide +kernel
theorem zbc_12 : zbck 4096 49152 = true := by decide +kernel
theorem zbc_13 : zbck 4096 53248 = true := by decide +kernel
theorem zbc_14 : zbck 4096 57344 = true := by decide +kernel
theorem zbc_15 : zbck 4096 61440 = true := by decide +kernel
theorem zbc_all {n : Nat} (h : n < 65536) : zbcf n = zpcn 16 n := by
  by_cases h0 : n < 4096
  · exact zbck_of zbc_0 (by omega) (by omega)
  by_cases h1 : n < 8192
  · exact zbck_of zbc_1 (by omega) (by omega)
  by_cases h2 : n < 12288
  · exact zbck_of zbc_2 (by omega) (by omega)
  by_cases h3 : n < 16384
  · exact zbck_of zbc_3 (by omega) (by omega)
  by_cases h4 : n < 20480
  · exact zbck_of zbc_4 (by omega) (by omega)
  by_cases h5 : n < 24576
  · exact zbck_of zbc_5 (by omega) (by omega)
  by_cases h6 : n < 28672
  · exact zbck_of zbc_6 (by omega) (by omega)
  by_cases h7 : n < 32768
  · exact zbck_of zbc_7 (by omega) (by omega)
  by_cases h8 : n < 36864
  · exact zbck_of zbc_8 (by omega) (by omega)
  by_cases h9 : n < 40960
  · exact zbck_of zbc_9 (by omega) (by omega)
  by_cases h10 : n < 45056
  · exact zbck_of zbc_10 (by omega) (by omega)
  by_cases h11 : n < 49152
  · exact zbck_of zbc_11 (by omega) (by omega)
  by_cases h12 : n < 53248
  · exact zbck_of zbc_12 (by omega) (by omega)
  by_cases h13 : n < 57344
  · exact zbck_of zbc_13 (by omega) (by omega)
  by_cases h14 : n < 61440
  · exact zbck_of zbc_14 (by omega) (by omega)
  exact zbck_of zbc_15 (by omega) (by omega)
