/-! Whole numbers for Int32 and Int64: an int of the machine is 'Int32.ofInt x' of a whole number x, whichever; only where the machine looks at its size is it brought within its bounds (w32, w64). -/
def w32 (x : Int) : Int := (x + 2147483648) % 4294967296 - 2147483648
def w64 (x : Int) : Int := (x + 9223372036854775808) % 18446744073709551616 - 9223372036854775808
def w16 (x : Int) : Int := (x + 32768) % 65536 - 32768
def w8 (x : Int) : Int := (x + 128) % 256 - 128
theorem w32_id {x : Int} (h1 : -2147483648 ≤ x) (h2 : x < 2147483648) : w32 x = x := by unfold w32; omega
theorem w64_id {x : Int} (h1 : -9223372036854775808 ≤ x) (h2 : x < 9223372036854775808) : w64 x = x := by unfold w64; omega
theorem w16_id {x : Int} (h1 : -32768 ≤ x) (h2 : x < 32768) : w16 x = x := by unfold w16; omega
theorem w8_id {x : Int} (h1 : -128 ≤ x) (h2 : x < 128) : w8 x = x := by unfold w8; omega
theorem w32_lo (x : Int) : -2147483648 ≤ w32 x := by unfold w32; omega
theorem w32_hi (x : Int) : w32 x < 2147483648 := by unfold w32; omega
theorem w64_lo (x : Int) : -9223372036854775808 ≤ w64 x := by unfold w64; omega
theorem w64_hi (x : Int) : w64 x < 9223372036854775808 := by unfold w64; omega
theorem w32_w (x : Int) : w32 (w32 x) = w32 x := w32_id (w32_lo x) (w32_hi x)
theorem w64_w (x : Int) : w64 (w64 x) = w64 x := w64_id (w64_lo x) (w64_hi x)
theorem w32_em (x : Int) : w32 x % 4294967296 = x % 4294967296 := by unfold w32; omega
theorem w64_em (x : Int) : w64 x % 18446744073709551616 = x % 18446744073709551616 := by unfold w64; omega
theorem mb_bmod32 (x : Int) : x.bmod 4294967296 = w32 x := by
  unfold w32 Int.bmod
  simp only []
  split <;> omega
theorem mb_bmod64 (x : Int) : x.bmod 18446744073709551616 = w64 x := by
  unfold w64 Int.bmod
  simp only []
  split <;> omega
theorem mb_bmod16 (x : Int) : x.bmod 65536 = w16 x := by
  unfold w16 Int.bmod
  simp only []
  split <;> omega
theorem mb_bmod8 (x : Int) : x.bmod 256 = w8 x := by
  unfold w8 Int.bmod
  simp only []
  split <;> omega
theorem mb_ti (x : Int) : (Int32.ofInt x).toInt = w32 x := by rw [Int32.toInt_ofInt]; exact mb_bmod32 x
theorem mb_tl (x : Int) : (Int64.ofInt x).toInt = w64 x := by rw [Int64.toInt_ofInt]; exact mb_bmod64 x
theorem mb_ilt (x y : Int) : Int32.ofInt x < Int32.ofInt y ↔ w32 x < w32 y := by rw [Int32.lt_iff_toInt_lt, mb_ti, mb_ti]
theorem mb_ile (x y : Int) : Int32.ofInt x ≤ Int32.ofInt y ↔ w32 x ≤ w32 y := by rw [Int32.le_iff_toInt_le, mb_ti, mb_ti]
theorem mb_ieq (x y : Int) : Int32.ofInt x = Int32.ofInt y ↔ w32 x = w32 y := by rw [← Int32.toInt_inj, mb_ti, mb_ti]
theorem mb_llt (x y : Int) : Int64.ofInt x < Int64.ofInt y ↔ w64 x < w64 y := by rw [Int64.lt_iff_toInt_lt, mb_tl, mb_tl]
theorem mb_leq (x y : Int) : Int64.ofInt x = Int64.ofInt y ↔ w64 x = w64 y := by rw [← Int64.toInt_inj, mb_tl, mb_tl]
theorem mb_iw (x : Int) : Int32.ofInt (w32 x) = Int32.ofInt x := (mb_ieq _ _).mpr (w32_w x)
theorem mb_lw (x : Int) : Int64.ofInt (w64 x) = Int64.ofInt x := (mb_leq _ _).mpr (w64_w x)
theorem mb_eqi {a : Int32} {z : Int} (h : a.toInt = w32 z) : a = Int32.ofInt z := Int32.toInt_inj.mp (by rw [h, mb_ti])
theorem mb_eql {a : Int64} {z : Int} (h : a.toInt = w64 z) : a = Int64.ofInt z := Int64.toInt_inj.mp (by rw [h, mb_tl])
theorem mb_div (x y : Int) : Int32.ofInt x / Int32.ofInt y = Int32.ofInt ((w32 x).tdiv (w32 y)) := by
  apply mb_eqi
  rw [Int32.toInt_div, mb_ti, mb_ti]
  exact mb_bmod32 _
theorem mb_rem (x y : Int) : Int32.ofInt x - Int32.ofInt x / Int32.ofInt y * Int32.ofInt y = Int32.ofInt ((w32 x).tmod (w32 y)) := by
  rw [mb_div, ← mb_iw x, ← mb_iw y]
  rw [← Int32.ofInt_mul, ← Int32.ofInt_sub, Int.tmod_def, Int.mul_comm]
theorem mb_ldiv (x y : Int) : Int64.ofInt x / Int64.ofInt y = Int64.ofInt ((w64 x).tdiv (w64 y)) := by
  apply mb_eql
  rw [Int64.toInt_div, mb_tl, mb_tl]
  exact mb_bmod64 _
theorem mb_lrem (x y : Int) : Int64.ofInt x - Int64.ofInt x / Int64.ofInt y * Int64.ofInt y = Int64.ofInt ((w64 x).tmod (w64 y)) := by
  rw [mb_ldiv, ← mb_lw x, ← mb_lw y]
  rw [← Int64.ofInt_mul, ← Int64.ofInt_sub, Int.tmod_def, Int.mul_comm]
theorem mb_i2l (x : Int) : (Int32.ofInt x).toInt64 = Int64.ofInt (w32 x) := by
  apply mb_eql
  rw [Int32.toInt_toInt64, mb_ti, w64_id]
  · have := w32_lo x; omega
  · have := w32_hi x; omega
theorem mb_l2i (x : Int) : (Int64.ofInt x).toInt32 = Int32.ofInt x := by
  apply mb_eqi
  rw [Int64.toInt_toInt32, mb_tl]
  show (w64 x).bmod 4294967296 = _
  rw [mb_bmod32]
  unfold w32 w64
  omega
theorem mb_i2b (x : Int) : (Int32.ofInt x).toInt8.toInt32 = Int32.ofInt (w8 x) := by
  apply mb_eqi
  rw [Int8.toInt_toInt32, Int32.toInt_toInt8, mb_ti]
  show (w32 x).bmod 256 = _
  rw [mb_bmod8]
  unfold w32 w8
  omega
theorem mb_i2s (x : Int) : (Int32.ofInt x).toInt16.toInt32 = Int32.ofInt (w16 x) := by
  apply mb_eqi
  rw [Int16.toInt_toInt32, Int32.toInt_toInt16, mb_ti]
  show (w32 x).bmod 65536 = _
  rw [mb_bmod16]
  unfold w32 w16
  omega
/-! bits: through the number below 2 ^ 32 (2 ^ 64) that has them -/
theorem mb_un (x : Int) : (Int32.ofInt x).toBitVec.toNat = (x % 4294967296).toNat := by
  rw [Int32.toBitVec_ofInt, BitVec.toNat_ofInt]
  rfl
theorem mb_unl (x : Int) : (Int64.ofInt x).toBitVec.toNat = (x % 18446744073709551616).toNat := by
  rw [Int64.toBitVec_ofInt, BitVec.toNat_ofInt]
  rfl
theorem mb_eu {a : Int32} {z : Int} (h : a.toBitVec.toNat = (z % 4294967296).toNat) : a = Int32.ofInt z := by
  apply Int32.toBitVec_inj.mp
  apply BitVec.eq_of_toNat_eq
  rw [h, mb_un]
theorem mb_eul {a : Int64} {z : Int} (h : a.toBitVec.toNat = (z % 18446744073709551616).toNat) : a = Int64.ofInt z := by
  apply Int64.toBitVec_inj.mp
  apply BitVec.eq_of_toNat_eq
  rw [h, mb_unl]
def andI (x y : Int) : Int := (((x % 4294967296).toNat &&& (y % 4294967296).toNat : Nat) : Int)
def orI (x y : Int) : Int := (((x % 4294967296).toNat ||| (y % 4294967296).toNat : Nat) : Int)
def xorI (x y : Int) : Int := (((x % 4294967296).toNat ^^^ (y % 4294967296).toNat : Nat) : Int)
def andL (x y : Int) : Int := (((x % 18446744073709551616).toNat &&& (y % 18446744073709551616).toNat : Nat) : Int)
def orL (x y : Int) : Int := (((x % 18446744073709551616).toNat ||| (y % 18446744073709551616).toNat : Nat) : Int)
def xorL (x y : Int) : Int := (((x % 18446744073709551616).toNat ^^^ (y % 18446744073709551616).toNat : Nat) : Int)
theorem mb_n32 {n : Nat} (h : n < 4294967296) : ((n : Int) % 4294967296).toNat = n := by omega
theorem mb_n64 {n : Nat} (h : n < 18446744073709551616) : ((n : Int) % 18446744073709551616).toNat = n := by omega
theorem mb_and (x y : Int) : Int32.ofInt x &&& Int32.ofInt y = Int32.ofInt (andI x y) := by
  apply mb_eu
  have h : (Int32.ofInt x &&& Int32.ofInt y).toBitVec.toNat < 4294967296 := (Int32.ofInt x &&& Int32.ofInt y).toBitVec.isLt
  rw [Int32.toBitVec_and, BitVec.toNat_and, mb_un, mb_un] at h ⊢
  exact (mb_n32 h).symm
theorem mb_or (x y : Int) : Int32.ofInt x ||| Int32.ofInt y = Int32.ofInt (orI x y) := by
  apply mb_eu
  have h : (Int32.ofInt x ||| Int32.ofInt y).toBitVec.toNat < 4294967296 := (Int32.ofInt x ||| Int32.ofInt y).toBitVec.isLt
  rw [Int32.toBitVec_or, BitVec.toNat_or, mb_un, mb_un] at h ⊢
  exact (mb_n32 h).symm
theorem mb_xor (x y : Int) : Int32.ofInt x ^^^ Int32.ofInt y = Int32.ofInt (xorI x y) := by
  apply mb_eu
  have h : (Int32.ofInt x ^^^ Int32.ofInt y).toBitVec.toNat < 4294967296 := (Int32.ofInt x ^^^ Int32.ofInt y).toBitVec.isLt
  rw [Int32.toBitVec_xor, BitVec.toNat_xor, mb_un, mb_un] at h ⊢
  exact (mb_n32 h).symm
theorem mb_land (x y : Int) : Int64.ofInt x &&& Int64.ofInt y = Int64.ofInt (andL x y) := by
  apply mb_eul
  have h : (Int64.ofInt x &&& Int64.ofInt y).toBitVec.toNat < 18446744073709551616 := (Int64.ofInt x &&& Int64.ofInt y).toBitVec.isLt
  rw [Int64.toBitVec_and, BitVec.toNat_and, mb_unl, mb_unl] at h ⊢
  exact (mb_n64 h).symm
theorem mb_lor (x y : Int) : Int64.ofInt x ||| Int64.ofInt y = Int64.ofInt (orL x y) := by
  apply mb_eul
  have h : (Int64.ofInt x ||| Int64.ofInt y).toBitVec.toNat < 18446744073709551616 := (Int64.ofInt x ||| Int64.ofInt y).toBitVec.isLt
  rw [Int64.toBitVec_or, BitVec.toNat_or, mb_unl, mb_unl] at h ⊢
  exact (mb_n64 h).symm
theorem mb_lxor (x y : Int) : Int64.ofInt x ^^^ Int64.ofInt y = Int64.ofInt (xorL x y) := by
  apply mb_eul
  have h : (Int64.ofInt x ^^^ Int64.ofInt y).toBitVec.toNat < 18446744073709551616 := (Int64.ofInt x ^^^ Int64.ofInt y).toBitVec.isLt
  rw [Int64.toBitVec_xor, BitVec.toNat_xor, mb_unl, mb_unl] at h ⊢
  exact (mb_n64 h).symm
/-! shifts -/
theorem mb_s31 (y : Int) : Int32.ofInt y &&& 31 = nI (y % 32).toNat := by
  rw [pk_and _ 5 (by decide), mb_un]
  congr 1
  omega
theorem mb_c31 : ∀ k, k < 32 → ((nI k).toBitVec.smod 32).toNat = k := by decide +kernel
theorem mb_pw (k : Nat) (x : Int) : ((x % 4294967296).toNat * 2 ^ k % 4294967296 : Nat) = (x * 2 ^ k % 4294967296).toNat := by
  have h0 : 0 ≤ x % 4294967296 := Int.emod_nonneg _ (by decide)
  apply Int.ofNat.inj
  show (((x % 4294967296).toNat * 2 ^ k % 4294967296 : Nat) : Int) = ((x * 2 ^ k % 4294967296).toNat : Int)
  rw [Int.toNat_of_nonneg (Int.emod_nonneg _ (by decide)), Int.natCast_emod, Int.natCast_mul, Int.toNat_of_nonneg h0, Int.natCast_pow]
  rw [Int.mul_emod x]
  rw [Int.mul_emod (x % _)]
  show x % _ % (_ : Int) * _ % _ = _
  congr 2
  exact Int.emod_emod_of_dvd x (Int.dvd_refl _)
theorem mb_pwl (k : Nat) (x : Int) : ((x % 18446744073709551616).toNat * 2 ^ k % 18446744073709551616 : Nat) = (x * 2 ^ k % 18446744073709551616).toNat := by
  have h0 : 0 ≤ x % 18446744073709551616 := Int.emod_nonneg _ (by decide)
  apply Int.ofNat.inj
  show (((x % 18446744073709551616).toNat * 2 ^ k % 18446744073709551616 : Nat) : Int) = ((x * 2 ^ k % 18446744073709551616).toNat : Int)
  rw [Int.toNat_of_nonneg (Int.emod_nonneg _ (by decide)), Int.natCast_emod, Int.natCast_mul, Int.toNat_of_nonneg h0, Int.natCast_pow]
  rw [Int.mul_emod x]
  rw [Int.mul_emod (x % _)]
  show x % _ % (_ : Int) * _ % _ = _
  congr 2
  exact Int.emod_emod_of_dvd x (Int.dvd_refl _)
def shlI (x y : Int) : Int := x * 2 ^ (y % 32).toNat
def shrI (x y : Int) : Int := w32 x / 2 ^ (y % 32).toNat
def ushI (x y : Int) : Int := x % 4294967296 / 2 ^ (y % 32).toNat
def shlL (x y : Int) : Int := x * 2 ^ (y % 64).toNat
def shrL (x y : Int) : Int := w64 x / 2 ^ (y % 64).toNat
def ushL (x y : Int) : Int := x % 18446744073709551616 / 2 ^ (y % 64).toNat
theorem mb_shl (x y : Int) : Int32.ofInt x <<< (Int32.ofInt y &&& 31) = Int32.ofInt (shlI x y) := by
  apply mb_eu
  rw [mb_s31, pk_shl _ _ _ (mb_c31 (y % 32).toNat (by omega)), mb_un]
  exact mb_pw _ _
theorem mb_divlo {x : Int} (k : Nat) (M : Int) (hM : 0 ≤ M) (h : -M ≤ x) : -M ≤ x / 2 ^ k := by
  have h2 : (0 : Int) < 2 ^ k := Int.pow_pos (by decide)
  apply (Int.le_ediv_iff_mul_le h2).mpr
  have h3 : (1 : Int) ≤ 2 ^ k := h2
  have h4 : M * 1 ≤ M * 2 ^ k := Int.mul_le_mul_of_nonneg_left h3 hM
  rw [Int.neg_mul]
  omega
theorem mb_divhi {x : Int} (k : Nat) (M : Int) (hM : 0 < M) (h : x < M) : x / 2 ^ k < M := by
  have h2 : (0 : Int) < 2 ^ k := Int.pow_pos (by decide)
  apply (Int.ediv_lt_iff_lt_mul h2).mpr
  have h3 : (1 : Int) ≤ 2 ^ k := h2
  have h4 : M * 1 ≤ M * 2 ^ k := Int.mul_le_mul_of_nonneg_left h3 (Int.le_of_lt hM)
  omega
theorem mb_shr (x y : Int) : Int32.ofInt x >>> (Int32.ofInt y &&& 31) = Int32.ofInt (shrI x y) := by
  apply mb_eqi
  rw [mb_s31, pk_shr _ _ _ (mb_c31 (y % 32).toNat (by omega)), mb_ti, Int.shiftRight_eq_div_pow]
  unfold shrI
  rw [w32_id (mb_divlo _ 2147483648 (by decide) (w32_lo x)) (mb_divhi _ 2147483648 (by decide) (w32_hi x))]
  rfl
theorem mb_c31u : ∀ k, k < 32 → (((nI k).toUInt32 &&& Int32.toUInt32 31).toBitVec % 32).toNat = k := by decide +kernel
theorem mb_s31u (y : Int) : (Int32.ofInt y).toUInt32 &&& Int32.toUInt32 31 = (nI (y % 32).toNat).toUInt32 &&& Int32.toUInt32 31 := by
  have h1 : (Int32.ofInt y).toUInt32 &&& Int32.toUInt32 31 = (Int32.ofInt y &&& 31).toUInt32 := rfl
  have h2 : (nI (y % 32).toNat).toUInt32 &&& Int32.toUInt32 31 = (nI (y % 32).toNat &&& 31).toUInt32 := rfl
  rw [h1, h2, mb_s31, pk_andN (by omega) 5 (by decide)]
  congr 2
  omega
theorem mb_ush (x y : Int) : ((Int32.ofInt x).toUInt32 >>> ((Int32.ofInt y).toUInt32 &&& Int32.toUInt32 31)).toInt32 = Int32.ofInt (ushI x y) := by
  apply mb_eu
  rw [mb_s31u, pk_ushr _ _ _ (mb_c31u (y % 32).toNat (by omega)), mb_un]
  unfold ushI
  have h0 : 0 ≤ x % 4294967296 := Int.emod_nonneg _ (by decide)
  have h1 : x % 4294967296 < 4294967296 := Int.emod_lt_of_pos _ (by decide)
  have h2 : 0 ≤ x % 4294967296 / 2 ^ (y % 32).toNat := Int.ediv_nonneg h0 (Int.le_of_lt (Int.pow_pos (by decide)))
  have h3 : x % 4294967296 / 2 ^ (y % 32).toNat < 4294967296 := mb_divhi _ _ (by decide) h1
  rw [Int.emod_eq_of_lt h2 h3]
  apply Int.ofNat.inj
  show (((x % 4294967296).toNat / 2 ^ (y % 32).toNat : Nat) : Int) = ((x % 4294967296 / 2 ^ (y % 32).toNat).toNat : Int)
  rw [Int.toNat_of_nonneg h2, Int.natCast_ediv, Int.toNat_of_nonneg h0, Int.natCast_pow]
  rfl
theorem mb_s63 (y : Int) : (Int32.ofInt y).toInt64 &&& 63 = lN (y % 64).toNat := by
  rw [mb_i2l]
  apply Int64.toBitVec_inj.mp
  apply BitVec.eq_of_toNat_eq
  rw [Int64.toBitVec_and, BitVec.toNat_and, mb_unl]
  show ((w32 y % 18446744073709551616).toNat &&& 2 ^ 6 - 1) = (BitVec.ofNat 64 _).toNat
  rw [Nat.and_two_pow_sub_one_eq_mod, BitVec.toNat_ofNat]
  have : w32 y % 64 = y % 64 := by unfold w32; omega
  omega
theorem mb_c63 : ∀ k, k < 64 → ((lN k).toBitVec.smod 64).toNat = k := by decide +kernel
theorem mb_lshl (x y : Int) : Int64.ofInt x <<< ((Int32.ofInt y).toInt64 &&& 63) = Int64.ofInt (shlL x y) := by
  apply mb_eul
  rw [mb_s63]
  show ((Int64.ofInt x).toBitVec <<< ((lN (y % 64).toNat).toBitVec.smod 64).toNat).toNat = _
  rw [mb_c63 _ (by omega), BitVec.toNat_shiftLeft, Nat.shiftLeft_eq, mb_unl]
  exact mb_pwl _ _
theorem mb_lshr (x y : Int) : Int64.ofInt x >>> ((Int32.ofInt y).toInt64 &&& 63) = Int64.ofInt (shrL x y) := by
  apply mb_eql
  rw [mb_s63]
  show ((Int64.ofInt x).toBitVec.sshiftRight ((lN (y % 64).toNat).toBitVec.smod 64).toNat).toInt = _
  rw [mb_c63 _ (by omega), BitVec.toInt_sshiftRight]
  show (Int64.ofInt x).toInt >>> (y % 64).toNat = _
  rw [mb_tl, Int.shiftRight_eq_div_pow]
  unfold shrL
  rw [w64_id (mb_divlo _ 9223372036854775808 (by decide) (w64_lo x)) (mb_divhi _ 9223372036854775808 (by decide) (w64_hi x))]
  rfl
theorem mb_c63u : ∀ k, k < 64 → ((lN k).toUInt64.toBitVec % 64).toNat = k := by decide +kernel
theorem mb_lush (x y : Int) : ((Int64.ofInt x).toUInt64 >>> ((Int32.ofInt y).toInt64.toUInt64 &&& Int64.toUInt64 63)).toInt64 = Int64.ofInt (ushL x y) := by
  apply mb_eul
  have h1 : (Int32.ofInt y).toInt64.toUInt64 &&& Int64.toUInt64 63 = ((Int32.ofInt y).toInt64 &&& 63).toUInt64 := rfl
  rw [h1, mb_s63]
  have e : ((Int64.ofInt x).toUInt64 >>> (lN (y % 64).toNat).toUInt64).toInt64.toBitVec = (Int64.ofInt x).toBitVec >>> (y % 64).toNat := by
    have h := UInt64.toBitVec_shiftRight (Int64.ofInt x).toUInt64 (lN (y % 64).toNat).toUInt64
    have h2 := mb_c63u (y % 64).toNat (by omega)
    show ((Int64.ofInt x).toUInt64 >>> (lN (y % 64).toNat).toUInt64).toBitVec = _
    rw [h]
    show (Int64.ofInt x).toBitVec >>> ((lN (y % 64).toNat).toUInt64.toBitVec % 64).toNat = _
    rw [h2]
  rw [e, BitVec.toNat_ushiftRight, Nat.shiftRight_eq_div_pow, mb_unl]
  unfold ushL
  have h0 : 0 ≤ x % 18446744073709551616 := Int.emod_nonneg _ (by decide)
  have h1 : x % 18446744073709551616 < 18446744073709551616 := Int.emod_lt_of_pos _ (by decide)
  have h2 : 0 ≤ x % 18446744073709551616 / 2 ^ (y % 64).toNat := Int.ediv_nonneg h0 (Int.le_of_lt (Int.pow_pos (by decide)))
  have h3 : x % 18446744073709551616 / 2 ^ (y % 64).toNat < 18446744073709551616 := mb_divhi _ _ (by decide) h1
  rw [Int.emod_eq_of_lt h2 h3]
  apply Int.ofNat.inj
  show (((x % 18446744073709551616).toNat / 2 ^ (y % 64).toNat : Nat) : Int) = ((x % 18446744073709551616 / 2 ^ (y % 64).toNat).toNat : Int)
  rw [Int.toNat_of_nonneg h2, Int.natCast_ediv, Int.toNat_of_nonneg h0, Int.natCast_pow]
  rfl
def cmpL (x y : Int) : Int := if w64 x = w64 y then 0 else if w64 x < w64 y then -1 else 1
theorem mb_lcmp (x y : Int) : lg_cmp (Int64.ofInt x) (Int64.ofInt y) = Int32.ofInt (cmpL x y) := by
  unfold lg_cmp cmpL
  simp only [mb_llt, mb_leq]
  by_cases h1 : w64 x = w64 y
  · simp [h1]
  · by_cases h2 : w64 x < w64 y
    · have h3 : ¬ w64 y < w64 x := by omega
      simp [h1, h2, h3]
    · have h3 : w64 y < w64 x := by omega
      simp [h1, h2, h3]
/-- an index of a row -/
theorem mb_in {i : Int} {n : Nat} (h1 : 0 ≤ w32 i) (h2 : w32 i < n) : ¬ (Int32.ofInt i < 0 ∨ n ≤ (Int32.ofInt i).toNatClampNeg) ∧ (Int32.ofInt i).toNatClampNeg = (w32 i).toNat := by
  have e : (Int32.ofInt i).toNatClampNeg = (w32 i).toNat := by
    show (Int32.ofInt i).toInt.toNat = _
    rw [mb_ti]
  refine ⟨fun h => ?_, e⟩
  rcases h with h | h
  · rw [Int32.lt_iff_toInt_lt, mb_ti] at h
    have : (0 : Int32).toInt = 0 := rfl
    omega
  · rw [e] at h
    omega
