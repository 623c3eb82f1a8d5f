/-! bits -/
theorem w_and (a b : Nat) : nI a &&& nI b = nI (a &&& b) := by
  apply Int32.toBitVec_inj.mp
  show BitVec.ofNat 32 a &&& BitVec.ofNat 32 b = BitVec.ofNat 32 (a &&& b)
  rw [BitVec.ofNat_and]
theorem w_or (a b : Nat) : nI a ||| nI b = nI (a ||| b) := by
  apply Int32.toBitVec_inj.mp
  show BitVec.ofNat 32 a ||| BitVec.ofNat 32 b = BitVec.ofNat 32 (a ||| b)
  rw [BitVec.ofNat_or]
theorem zand_nn {a b : Nat} (ha : a < 2147483648) : zand (a : Int) (b : Int) = ((a &&& b : Nat) : Int) := by
  unfold zand
  have h : a &&& b ≤ a := Nat.and_le_left
  rw [ofInt_nI, ofInt_nI, w_and, nI_toInt (by omega)]
theorem zor_nn {a b : Nat} (ha : a < 2147483648) (hb : b < 2147483648) : zor (a : Int) (b : Int) = ((a ||| b : Nat) : Int) := by
  unfold zor
  have h : a ||| b < 2 ^ 31 := Nat.or_lt_two_pow (n := 31) (by omega) (by omega)
  rw [ofInt_nI, ofInt_nI, w_or, nI_toInt (by omega)]
theorem zor_0 {b : Nat} (hb : b < 2147483648) : zor (b : Int) 0 = (b : Int) := by
  have h := zor_nn (b := 0) hb (by decide)
  simpa using h
theorem or_pow {b k : Nat} (hb : b < 2 ^ k) : b ||| 2 ^ k = b + 2 ^ k := by
  have h := Nat.two_pow_add_eq_or_of_lt hb 1
  rw [Nat.mul_one] at h
  rw [Nat.or_comm, ← h, Nat.add_comm]
theorem pow_31 {k : Nat} (hk : k ≤ 30) : 2 ^ k ≤ 1073741824 := by
  have h : 2 ^ k ≤ 2 ^ 30 := Nat.pow_le_pow_right (by decide) hk
  exact h
theorem zor_pow {b k : Nat} (hb : b < 2 ^ k) (hk : k ≤ 30) : zor (b : Int) ((2 ^ k : Nat) : Int) = ((b + 2 ^ k : Nat) : Int) := by
  have h := pow_31 hk
  rw [zor_nn (by omega) (by omega), or_pow hb]
theorem zand_1 {a : Nat} (ha : a < 2147483648) : zand (a : Int) 1 = ((a % 2 : Nat) : Int) := by
  have h := zand_nn (b := 1) ha
  rw [Nat.and_one_is_mod] at h
  exact h
/-- is a bit set, as the programs ask it -/
theorem bit_q {a k : Nat} (ha : a < 2147483648) : zand ((a : Int) / 2 ^ k) 1 = 1 ↔ a.testBit k = true := by
  have e : ((a : Int) / 2 ^ k) = ((a / 2 ^ k : Nat) : Int) := by
    rw [Int.natCast_ediv]
    congr 1
  have h2 : a / 2 ^ k ≤ a := Nat.div_le_self _ _
  rw [e, zand_1 (by omega), Nat.testBit_eq_decide_div_mod_eq]
  simp
  omega
theorem zandn {a c : Nat} (ha : a < 2147483648) (hc : c < 2147483648) : ∃ m : Nat, m < 2147483648 ∧ zand (a : Int) (zxor (c : Int) (-1)) = (m : Int) ∧ ∀ k, m.testBit k = (a.testBit k && !c.testBit k) := by
  have e : zand (a : Int) (zxor (c : Int) (-1)) = ((BitVec.ofNat 32 a) &&& ~~~(BitVec.ofNat 32 c)).toInt := by
    unfold zand zxor
    rw [i32_self, ofInt_nI, ofInt_nI]
    have h1 : (nI c ^^^ Int32.ofInt (-1)).toBitVec = ~~~(BitVec.ofNat 32 c) := by
      show BitVec.ofNat 32 c ^^^ BitVec.allOnes 32 = _
      exact BitVec.xor_allOnes
    show ((nI a).toBitVec &&& (nI c ^^^ Int32.ofInt (-1)).toBitVec).toInt = _
    rw [h1]
    rfl
  have hk : ∀ k, ((BitVec.ofNat 32 a) &&& ~~~(BitVec.ofNat 32 c)).toNat.testBit k = (a.testBit k && !c.testBit k) := by
    intro k
    rw [BitVec.testBit_toNat, BitVec.getLsbD_and, BitVec.getLsbD_not, BitVec.getLsbD_ofNat, BitVec.getLsbD_ofNat]
    by_cases h : k < 32
    · simp [h]
    · have h2 : a.testBit k = false := Nat.testBit_lt_two_pow (Nat.lt_of_lt_of_le ha (Nat.le_trans (by decide) (Nat.pow_le_pow_right (show 0 < 2 by decide) (show 31 ≤ k by omega))))
      simp [h, h2]
  have hle : ((BitVec.ofNat 32 a) &&& ~~~(BitVec.ofNat 32 c)).toNat < 2147483648 := by
    have h : ((BitVec.ofNat 32 a) &&& ~~~(BitVec.ofNat 32 c)).toNat ≤ (BitVec.ofNat 32 a).toNat := by
      rw [BitVec.toNat_and]
      exact Nat.and_le_left
    rw [BitVec.toNat_ofNat, Nat.mod_eq_of_lt (by omega)] at h
    omega
  refine ⟨_, hle, ?_, hk⟩
  rw [e, BitVec.toInt_eq_toNat_of_lt (by omega)]
/-- the sum of the bits of those that are so -/
def bsm (c : Nat → Bool) : Nat → Nat
  | 0 => 0
  | n + 1 => bsm c n + (if c n then 2 ^ n else 0)
theorem bsm_lt (c : Nat → Bool) : ∀ n, bsm c n < 2 ^ n
  | 0 => by simp [bsm]
  | n + 1 => by
    have h := bsm_lt c n
    have h2 : 2 ^ (n + 1) = 2 ^ n + 2 ^ n := by rw [Nat.pow_succ]; omega
    simp only [bsm]
    split <;> omega
theorem bsm_tb (c : Nat → Bool) : ∀ n k, (bsm c n).testBit k = (decide (k < n) && c k)
  | 0, k => by simp [bsm]
  | n + 1, k => by
    have h := bsm_lt c n
    have ih := bsm_tb c n
    simp only [bsm]
    by_cases hc : c n = true
    · rw [if_pos hc, ← or_pow h, Nat.testBit_or, ih k, Nat.testBit_two_pow]
      by_cases e : n = k
      · subst e; simp [hc]
      · have e2 : (k < n + 1) ↔ k < n := by omega
        simp [e, e2]
    · rw [if_neg hc, Nat.add_zero, ih k]
      by_cases e : k = n
      · subst e; simp at hc; simp [hc]
      · have e2 : (k < n + 1) ↔ k < n := by omega
        simp [e2]
theorem bsm_cong {c c' : Nat → Bool} : ∀ {n : Nat}, (∀ k, k < n → c k = c' k) → bsm c n = bsm c' n
  | 0, _ => rfl
  | n + 1, h => by simp only [bsm]; rw [bsm_cong (fun k hk => h k (by omega)), h n (by omega)]
theorem bsm_31 (c : Nat → Bool) {n : Nat} (hn : n ≤ 30) : bsm c n < 2147483648 := by
  have h := bsm_lt c n
  have h2 := pow_31 hn
  omega
theorem bsm_or1 (c : Nat → Bool) {k : Nat} (hk : k ≤ 30) (h : c k = true) : zor (bsm c k : Int) (1 * 2 ^ (k : Int).toNat) = (bsm c (k + 1) : Int) := by
  have h2 : (1 * 2 ^ (k : Int).toNat : Int) = ((2 ^ k : Nat) : Int) := by
    rw [Int.one_mul, Int.toNat_natCast]
    first | rfl | simp
  rw [h2, zor_pow (bsm_lt c k) hk]
  simp only [bsm, h, if_true]
theorem bsm_or0 (c : Nat → Bool) {k : Nat} (hk : k ≤ 30) (h : c k = false) : zor (bsm c k : Int) 0 = (bsm c (k + 1) : Int) := by
  rw [zor_0 (bsm_31 c hk)]
  simp [bsm, h]
/-- 1 << k as the rule wants it -/
theorem shl_ok {k : Nat} (hk : k ≤ 30) : (1 : Int) * 2 ^ (k : Int).toNat < 4294967296 := by
  have h2 : (1 * 2 ^ (k : Int).toNat : Int) = ((2 ^ k : Nat) : Int) := by
    rw [Int.one_mul, Int.toNat_natCast]
    first | rfl | simp
  have h := pow_31 hk
  rw [h2]
  omega
/-- the first below n for which it is so; n: none -/
def srch (c : Nat → Bool) : Nat → Nat
  | 0 => 0
  | n + 1 => if srch c n < n then srch c n else if c n = true then n else n + 1
theorem srch_le (c : Nat → Bool) : ∀ n, srch c n ≤ n
  | 0 => Nat.le_refl 0
  | n + 1 => by
    have h := srch_le c n
    simp only [srch]
    split
    · omega
    · split <;> omega
theorem srch_none (c : Nat → Bool) : ∀ n, (∀ j, j < n → c j = false) → srch c n = n
  | 0, _ => rfl
  | n + 1, h => by
    have h1 := srch_none c n (fun j hj => h j (by omega))
    simp only [srch]
    rw [if_neg (by omega), if_neg (by rw [h n (by omega)]; decide)]
theorem srch_at (c : Nat → Bool) (m : Nat) (h : ∀ j, j < m → c j = false) (hb : c m = true) : ∀ n, m < n → srch c n = m
  | 0, hm => absurd hm (by omega)
  | n + 1, hm => by
    simp only [srch]
    by_cases hq : m < n
    · have h1 := srch_at c m h hb n hq
      rw [if_pos (by omega), h1]
    · have e : m = n := by omega
      subst e
      have h1 := srch_none c m h
      rw [if_neg (by omega), if_pos hb]
theorem srch_yes (c : Nat → Bool) : ∀ n, srch c n < n → c (srch c n) = true
  | 0, h => absurd h (by omega)
  | n + 1, h => by
    simp only [srch] at h ⊢
    split
    · next g => exact srch_yes c n g
    · next g =>
      split
      · next g2 => exact g2
      · next g2 =>
        rw [if_neg g, if_neg g2] at h
        omega
theorem srch_no (c : Nat → Bool) : ∀ n j, j < srch c n → c j = false
  | 0, j, h => absurd h (by simp [srch])
  | n + 1, j, h => by
    have hle := srch_le c n
    simp only [srch] at h
    split at h
    · exact srch_no c n j h
    · next g =>
      split at h
      · exact srch_no c n j (by omega)
      · next g2 =>
        by_cases e : j = n
        · rw [e]; simpa using g2
        · exact srch_no c n j (by omega)
/-- sums -/
def ssm (f : Nat → Int) : Nat → Int
  | 0 => 0
  | n + 1 => ssm f n + f n
theorem ssm_cong {f g : Nat → Int} : ∀ {n : Nat}, (∀ k, k < n → f k = g k) → ssm f n = ssm g n
  | 0, _ => rfl
  | n + 1, h => by simp only [ssm]; rw [ssm_cong (fun k hk => h k (by omega)), h n (by omega)]
theorem ssm_bd {f : Nat → Int} {b : Int} : ∀ {n : Nat}, (∀ k, k < n → 0 ≤ f k ∧ f k ≤ b) → 0 ≤ ssm f n ∧ ssm f n ≤ b * n
  | 0, _ => by simp [ssm]
  | n + 1, h => by
    have h1 := ssm_bd (n := n) (fun k hk => h k (by omega))
    have h2 := h n (by omega)
    have h3 : b * ((n + 1 : Nat) : Int) = b * n + b := by
      rw [Int.natCast_succ, Int.mul_add, Int.mul_one]
    simp only [ssm]
    omega
