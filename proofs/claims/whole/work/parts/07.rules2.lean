/-! more numbers -/
def zand (x y : Int) : Int := (Int32.ofInt x &&& Int32.ofInt y).toInt
def zor (x y : Int) : Int := (Int32.ofInt x ||| Int32.ofInt y).toInt
def zxor (x y : Int) : Int := (Int32.ofInt x ^^^ Int32.ofInt y).toInt
def zandL (x y : Int) : Int := (Int64.ofInt x &&& Int64.ofInt y).toInt
def zcmp (x y : Int) : Int := if y < x then 1 else if x = y then 0 else -1
def zb8 (x : Int) : Int := (Int32.ofInt x).toInt8.toInt32.toInt
def zs16 (x : Int) : Int := (Int32.ofInt x).toInt16.toInt32.toInt
theorem ofInt_nI (n : Nat) : Int32.ofInt (n : Int) = nI n := by
  first | rfl | simp [nI]
theorem ofInt_lN (n : Nat) : Int64.ofInt (n : Int) = lN n := by
  first | rfl | simp [lN]
theorem i32_nn {z : Int} (h : 0 ≤ z) : Int32.ofInt z = nI z.toNat := by
  rw [← ofInt_nI]; congr 1; omega
theorem i64_nn {z : Int} (h : 0 ≤ z) : Int64.ofInt z = lN z.toNat := by
  rw [← ofInt_lN]; congr 1; omega
theorem tn_div {x y : Int} (hx : 0 ≤ x) (hy : 0 ≤ y) : (x / y).toNat = x.toNat / y.toNat := by
  obtain ⟨a, rfl⟩ := Int.eq_ofNat_of_zero_le hx
  obtain ⟨b, rfl⟩ := Int.eq_ofNat_of_zero_le hy
  rfl
theorem i32_div {x y : Int} (hx : 0 ≤ x) (hx2 : x < 2147483648) (hy : 0 < y) (hy2 : y < 2147483648) : Int32.ofInt x / Int32.ofInt y = Int32.ofInt (x / y) := by
  have h1 : 0 ≤ x / y := Int.ediv_nonneg hx (by omega)
  rw [i32_nn hx, i32_nn (z := y) (by omega), i32_nn h1, pk_div (by omega) (by omega) (by omega)]
  congr 1
  rw [tn_div hx (by omega)]
theorem i32_mod {x y : Int} (hx : 0 ≤ x) (hx2 : x < 2147483648) (hy : 0 < y) (hy2 : y < 2147483648) : Int32.ofInt x - Int32.ofInt x / Int32.ofInt y * Int32.ofInt y = Int32.ofInt (x % y) := by
  rw [i32_div hx hx2 hy hy2, ← Int32.ofInt_mul, ← Int32.ofInt_sub]
  congr 1
  have h := Int.emod_def x y
  rw [h, Int.mul_comm]
theorem i64_div {x y : Int} (hx : 0 ≤ x) (hx2 : x < 9223372036854775808) (hy : 0 < y) (hy2 : y < 9223372036854775808) : Int64.ofInt x / Int64.ofInt y = Int64.ofInt (x / y) := by
  have h1 : 0 ≤ x / y := Int.ediv_nonneg hx (by omega)
  rw [i64_nn hx, i64_nn (z := y) (by omega), i64_nn h1, pk_lDiv (by omega) (by omega) (by omega)]
  congr 1
  rw [tn_div hx (by omega)]
theorem i64_mod {x y : Int} (hx : 0 ≤ x) (hx2 : x < 9223372036854775808) (hy : 0 < y) (hy2 : y < 9223372036854775808) : Int64.ofInt x - Int64.ofInt x / Int64.ofInt y * Int64.ofInt y = Int64.ofInt (x % y) := by
  rw [i64_div hx hx2 hy hy2, ← Int64.ofInt_mul, ← Int64.ofInt_sub]
  congr 1
  have h := Int.emod_def x y
  rw [h, Int.mul_comm]
theorem sh_c : ∀ k : Fin 32, ((Int32.ofInt (k.val : Int) &&& 31).toBitVec.smod 32).toNat = k.val := by decide +kernel
theorem i32_shl {x : Int} {k : Nat} (hk : k < 32) (hx : 0 ≤ x) (h : x * 2 ^ k < 4294967296) : Int32.ofInt x <<< (Int32.ofInt (k : Int) &&& 31) = Int32.ofInt (x * 2 ^ k) := by
  have hp : (0 : Int) ≤ 2 ^ k := Int.pow_nonneg (by decide)
  have hx2 : 0 ≤ x * 2 ^ k := Int.mul_nonneg hx hp
  have e : (x * 2 ^ k).toNat = x.toNat * 2 ^ k := by
    rw [Int.toNat_mul hx hp]
    congr 1
  rw [i32_nn hx, i32_nn hx2, e]
  refine pk_shlN _ k (sh_c ⟨k, hk⟩) ?_
  rw [← e]; omega
theorem i32_shr {x : Int} {k : Nat} (hk : k < 32) (hx : 0 ≤ x) (h : x < 2147483648) : Int32.ofInt x >>> (Int32.ofInt (k : Int) &&& 31) = Int32.ofInt (x / 2 ^ k) := by
  have hx2 : 0 ≤ x / 2 ^ k := Int.ediv_nonneg hx (Int.pow_nonneg (by decide))
  rw [i32_nn hx, i32_nn hx2, pk_shrN (by omega) _ k (sh_c ⟨k, hk⟩)]
  congr 1
  rw [tn_div hx (Int.pow_nonneg (by decide))]
  congr 1
theorem ush_16 : (((Int32.ofInt 16).toUInt32 &&& Int32.toUInt32 31).toBitVec % 32).toNat = 16 := by decide +kernel
theorem i32_ush (x : Int) : ((Int32.ofInt x).toUInt32 >>> ((Int32.ofInt 16).toUInt32 &&& Int32.toUInt32 31)).toInt32 = Int32.ofInt (x % 4294967296 / 65536) := by
  have hx2 : 0 ≤ x % 4294967296 / 65536 := by omega
  have e : Int32.ofInt x = nI (x % 4294967296).toNat := by
    rw [← ofInt_nI, Int.toNat_of_nonneg (by omega)]
    apply Int32.toInt_inj.mp
    rw [Int32.toInt_ofInt, Int32.toInt_ofInt]
    simp [Int32.size, Int.bmod_def]
  rw [e, pk_ushrN (by omega) _ 16 ush_16, i32_nn hx2]
  congr 1
  omega
theorem i32_to64 {x : Int} (h : R32 x) : (Int32.ofInt x).toInt64 = Int64.ofInt x := by
  apply Int64.toInt_inj.mp
  rw [Int32.toInt_toInt64, i32_rt h, i64_rt ⟨by omega, by omega⟩]
theorem zcmp_lg {x y : Int} (hx : R64 x) (hy : R64 y) : lg_cmp (Int64.ofInt x) (Int64.ofInt y) = Int32.ofInt (zcmp x y) := by
  unfold lg_cmp zcmp
  simp only [gt_iff_lt, i64_lt hy hx, i64_eq hx hy]
  split
  · rfl
  · split <;> rfl
theorem zcmp_same (x : Int) : lg_cmp (Int64.ofInt x) (Int64.ofInt x) = Int32.ofInt 0 := by
  have h : ¬ Int64.ofInt x > Int64.ofInt x := Int64.lt_irrefl
  simp [lg_cmp, h]
  try rfl
theorem zcmp_r (x y : Int) : R32 (zcmp x y) := by
  unfold zcmp
  split
  · decide
  · split <;> decide
theorem zcmp_lt (x y : Int) : zcmp x y < 0 ↔ x < y := by
  unfold zcmp
  split
  · omega
  · split <;> omega
theorem zcmp_ge (x y : Int) : 0 ≤ zcmp x y ↔ y ≤ x := by
  unfold zcmp
  split
  · omega
  · split <;> omega
theorem zcmp_gt (x y : Int) : 0 < zcmp x y ↔ y < x := by
  unfold zcmp
  split
  · omega
  · split <;> omega
theorem zcmp_le (x y : Int) : zcmp x y ≤ 0 ↔ x ≤ y := by
  unfold zcmp
  split
  · omega
  · split <;> omega
theorem zcmp_eq (x y : Int) : zcmp x y = 0 ↔ x = y := by
  unfold zcmp
  split
  · omega
  · split <;> omega
