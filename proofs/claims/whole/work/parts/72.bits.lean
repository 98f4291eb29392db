/-! Bits of longs and ints. -/
theorem bz_toInt_small {w : Nat} (b : BitVec w) {n : Nat} (h : b.toNat = n) (hn : 2 * n < 2 ^ w) : b.toInt = (n : Int) := by
  rw [BitVec.toInt_eq_toNat_cond, h, if_pos hn]
theorem bz_andJ {x : Int} : qz_andJ x 127 = x % 128 := by
  unfold qz_andJ
  show (BitVec.ofInt 64 x &&& BitVec.ofInt 64 127).toInt = x % 128
  have e : (BitVec.ofInt 64 x &&& BitVec.ofInt 64 127).toNat = (x % 128).toNat := by
    rw [BitVec.toNat_and, BitVec.toNat_ofInt]
    have e1 : (BitVec.ofInt 64 127).toNat = 2 ^ 7 - 1 := by decide +kernel
    rw [e1, Nat.and_two_pow_sub_one_eq_mod]
    omega
  rw [bz_toInt_small _ e (by omega)]
  omega
theorem bz_and32 {x : Int} : qz_and x 127 = x % 128 := by
  unfold qz_and
  show (BitVec.ofInt 32 x &&& BitVec.ofInt 32 127).toInt = x % 128
  have e : (BitVec.ofInt 32 x &&& BitVec.ofInt 32 127).toNat = (x % 128).toNat := by
    rw [BitVec.toNat_and, BitVec.toNat_ofInt]
    have e1 : (BitVec.ofInt 32 127).toNat = 2 ^ 7 - 1 := by decide +kernel
    rw [e1, Nat.and_two_pow_sub_one_eq_mod]
    omega
  rw [bz_toInt_small _ e (by omega)]
  omega
theorem bz_and255e {x : Int} : qz_and x 255 = x % 256 := by
  unfold qz_and
  show (BitVec.ofInt 32 x &&& BitVec.ofInt 32 255).toInt = x % 256
  have e : (BitVec.ofInt 32 x &&& BitVec.ofInt 32 255).toNat = (x % 256).toNat := by
    rw [BitVec.toNat_and, BitVec.toNat_ofInt]
    have e1 : (BitVec.ofInt 32 255).toNat = 2 ^ 8 - 1 := by decide +kernel
    rw [e1, Nat.and_two_pow_sub_one_eq_mod]
    omega
  rw [bz_toInt_small _ e (by omega)]
  omega
theorem bz_ushJ {x : Int} (h1 : 0 ≤ x) (h2 : x ≤ 9223372036854775807) : qz_ushJ x 7 = x / 128 := by
  unfold qz_ushJ
  have ey : (Int32.ofInt 7).toInt64.toUInt64 &&& Int64.toUInt64 63 = 7 := by decide +kernel
  rw [ey]
  show ((Int64.ofInt x).toUInt64 >>> 7).toBitVec.toInt = x / 128
  have e : ((Int64.ofInt x).toUInt64 >>> 7).toBitVec.toNat = (x / 128).toNat := by
    show ((Int64.ofInt x).toUInt64 >>> 7).toNat = (x / 128).toNat
    rw [UInt64.toNat_shiftRight]
    have e1 : (Int64.ofInt x).toUInt64.toNat = x.toNat := by
      show (BitVec.ofInt 64 x).toNat = x.toNat
      rw [BitVec.toNat_ofInt]
      omega
    rw [e1]
    show x.toNat >>> 7 = (x / 128).toNat
    rw [Nat.shiftRight_eq_div_pow]
    omega
  rw [bz_toInt_small _ e (by omega)]
  omega
theorem bz_shrJ {x : Int} (h1 : -9223372036854775808 ≤ x) (h2 : x ≤ 9223372036854775807) {y : Int} {k : Nat} (hy : ((Int32.ofInt y).toInt64 &&& 63).toBitVec.smod 64 = BitVec.ofNat 64 k) (hk : k < 64) : qz_shrJ x y = x / 2 ^ k := by
  unfold qz_shrJ
  show (BitVec.sshiftRight' (BitVec.ofInt 64 x) (((Int32.ofInt y).toInt64 &&& 63).toBitVec.smod 64)).toInt = x / 2 ^ k
  rw [hy, BitVec.toInt_sshiftRight', BitVec.toNat_ofNat, Nat.mod_eq_of_lt (by omega), Int.shiftRight_eq_div_pow]
  have e : (BitVec.ofInt 64 x).toInt = x := by
    rw [BitVec.toInt_ofInt]
    exact Int.bmod_eq_of_le (by omega) (by omega)
  rw [e]
  norm_cast
theorem bz_shr6 {x : Int} (h1 : -9223372036854775808 ≤ x) (h2 : x ≤ 9223372036854775807) : qz_shrJ x 6 = x / 64 := bz_shrJ (k := 6) h1 h2 (by decide +kernel) (by omega)
theorem bz_shr7 {x : Int} (h1 : -9223372036854775808 ≤ x) (h2 : x ≤ 9223372036854775807) : qz_shrJ x 7 = x / 128 := bz_shrJ (k := 7) h1 h2 (by decide +kernel) (by omega)
theorem bz_or128 : ∀ n : Nat, n < 128 → qz_or (n : Int) 128 = (n : Int) + 128 := by decide +kernel
theorem bz_or8 {x : Int} (h1 : 0 ≤ x) (h2 : x < 128) : qz_or x 128 = x + 128 := by
  have := bz_or128 x.toNat (by omega)
  rw [Int.toNat_of_nonneg h1] at this
  exact this
/-- a byte, and the number that it shows -/
theorem bz_i2b8 {x : Int} : qz_and (qz_nb (qz_i2b x)) 255 = x % 256 ∧ qz_and (qz_nb x) 255 = qz_and x 255 := by
  have key : ∀ x : Int, qz_and (qz_nb x) 255 = x % 256 := by
    intro x
    rw [bz_and255e]
    unfold qz_nb
    show ((Int32.ofInt x).toInt8.toInt32).toInt % 256 = x % 256
    rw [Int8.toInt_toInt32, Int32.toInt_toInt8, Int32.toInt_ofInt]
    have e1 : ((x.bmod (2 ^ 32)).bmod (2 ^ 8)) % 256 = (x.bmod (2 ^ 32)) % 256 := Int.bmod_emod
    rw [e1]
    have e2 := Int.bmod_emod (x := x) (m := 2 ^ 32)
    omega
  refine ⟨?_, by rw [key, bz_and255e]⟩
  rw [key]
  unfold qz_i2b
  show ((Int32.ofInt x).toInt8.toInt32).toInt % 256 = x % 256
  rw [Int8.toInt_toInt32, Int32.toInt_toInt8, Int32.toInt_ofInt]
  have e1 : ((x.bmod (2 ^ 32)).bmod (2 ^ 8)) % 256 = (x.bmod (2 ^ 32)) % 256 := Int.bmod_emod
  rw [e1]
  have e2 := Int.bmod_emod (x := x) (m := 2 ^ 32)
  omega
/-- numbers of seven bits a byte -/
def bz_un : Nat → Int → List Int
  | 0, v => [v % 128]
  | n + 1, v => if v ≤ 127 then [v % 128] else (v % 128 + 128) :: bz_un n (v / 128)
def bz_sg : Nat → Int → List Int
  | 0, v => [v % 128]
  | n + 1, v => if -64 ≤ v ∧ v ≤ 63 then [v % 128] else (v % 128 + 128) :: bz_sg n (v / 128)
abbrev bz_U (v : Int) : List Int := bz_un 9 v
abbrev bz_S (v : Int) : List Int := bz_sg 9 v
def bz_B (l : List Int) : Prop := ∀ c ∈ l, 0 ≤ c ∧ c ≤ 255
theorem bz_un_len : ∀ (n : Nat) (v : Int), 1 ≤ (bz_un n v).length ∧ (bz_un n v).length ≤ n + 1
  | 0, v => ⟨Nat.le_refl _, Nat.le_refl _⟩
  | n + 1, v => by
    have := bz_un_len n (v / 128)
    rw [bz_un]
    split
    · simp
    · rw [List.length_cons]; omega
theorem bz_sg_len : ∀ (n : Nat) (v : Int), (bz_sg n v).length ≤ n + 1
  | 0, v => Nat.le_refl _
  | n + 1, v => by
    have := bz_sg_len n (v / 128)
    rw [bz_sg]
    split
    · simp
    · rw [List.length_cons]; omega
/-- a size below 16384 -/
theorem bz_U2 {v : Int} (h1 : v < 16384) : bz_U v = if v ≤ 127 then [v % 128] else [v % 128 + 128, v / 128] := by
  show bz_un 9 v = _
  rw [bz_un]
  split
  · rfl
  · rw [bz_un, if_pos (by omega)]
    have e : v / 128 % 128 = v / 128 := by omega
    rw [e]
theorem bz_U2_len {v : Int} (h1 : v < 16384) : (bz_U v).length ≤ 2 := by
  rw [bz_U2 h1]
  split <;> simp
