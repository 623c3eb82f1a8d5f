theorem shl_1 : ∀ k : Fin 64, Int64.ofInt 1 <<< ((Int32.ofInt (k.val : Int)).toInt64 &&& 63) = Int64.ofInt (2 ^ k.val) := by decide +kernel
theorem sm_1 : (((Int32.ofInt 1).toInt64 &&& 63).toBitVec.smod 64).toNat = 1 := by decide +kernel
theorem i64_shr1 {x : Int} (h : R64 x) : Int64.ofInt x >>> ((Int32.ofInt 1).toInt64 &&& 63) = Int64.ofInt (x / 2) := by
  apply Int64.toInt_inj.mp
  have e : (Int64.ofInt x >>> ((Int32.ofInt 1).toInt64 &&& 63)).toInt = (Int64.ofInt x).toInt >>> 1 := by
    rw [← sm_1]
    exact BitVec.toInt_sshiftRight ..
  rw [e, Int.shiftRight_eq_div_pow, i64_rt h, i64_rt ⟨by omega, by omega⟩]
  rfl
section RULES3
variable {κ : Kx} {Γ : Ev} {own : String} {cc : ByteArray} {nL d pc : Nat} {L : List (Option Value)} {st : List Value} {ws : va_W} {S : Sx}
theorem G_idiv (hk : Ok κ Γ own cc nL d) {x y : Int} (hd : decode cc pc = .ok (.idiv, 1)) (h1 : 0 ≤ x) (h2 : x < 2147483648) (h3 : 0 < y) (h4 : y < 2147483648) (k : GW κ Γ (pc + 1) L (vI (x / y) :: st) ws) : GW κ Γ pc L (vI y :: vI x :: st) ws := by
  obtain ⟨p, l, e, R, s, m, args, below, meth, c, Q, H0, A, n0, c1, c2⟩ := κ
  have hn0 : n0 = nL := hk.2.2.2.2.2.2.2.2.2.2.2.2
  subst hn0
  intro H locs ls hP hD hS hl
  refine lv_idiv hk.1 hk.2.1 hd (fun h => ?_) ?_
  · have := (i32_eq ⟨by omega, h4⟩ (show R32 0 by decide)).mp h; omega
  · have h := k H locs ls hP hD hS hl
    rw [vI, ← i32_div h1 h2 h3 h4] at h
    exact h
theorem G_irem (hk : Ok κ Γ own cc nL d) {x y : Int} (hd : decode cc pc = .ok (.irem, 1)) (h1 : 0 ≤ x) (h2 : x < 2147483648) (h3 : 0 < y) (h4 : y < 2147483648) (k : GW κ Γ (pc + 1) L (vI (x % y) :: st) ws) : GW κ Γ pc L (vI y :: vI x :: st) ws := by
  obtain ⟨p, l, e, R, s, m, args, below, meth, c, Q, H0, A, n0, c1, c2⟩ := κ
  have hn0 : n0 = nL := hk.2.2.2.2.2.2.2.2.2.2.2.2
  subst hn0
  intro H locs ls hP hD hS hl
  refine lv_irem hk.1 hk.2.1 hd (fun h => ?_) ?_
  · have := (i32_eq ⟨by omega, h4⟩ (show R32 0 by decide)).mp h; omega
  · have h := k H locs ls hP hD hS hl
    rw [vI, ← i32_mod h1 h2 h3 h4] at h
    exact h
theorem G_ldiv (hk : Ok κ Γ own cc nL d) {x y : Int} (hd : decode cc pc = .ok (.ldiv, 1)) (h1 : 0 ≤ x) (h2 : x < 9223372036854775808) (h3 : 0 < y) (h4 : y < 9223372036854775808) (k : GW κ Γ (pc + 1) L (vL (x / y) :: st) ws) : GW κ Γ pc L (vL y :: vL x :: st) ws := by
  obtain ⟨p, l, e, R, s, m, args, below, meth, c, Q, H0, A, n0, c1, c2⟩ := κ
  have hn0 : n0 = nL := hk.2.2.2.2.2.2.2.2.2.2.2.2
  subst hn0
  intro H locs ls hP hD hS hl
  refine lv_ldiv hk.1 hk.2.1 hd (fun h => ?_) ?_
  · have := (i64_eq ⟨by omega, h4⟩ (show R64 0 by decide)).mp h; omega
  · have h := k H locs ls hP hD hS hl
    rw [vL, ← i64_div h1 h2 h3 h4] at h
    exact h
theorem G_lrem (hk : Ok κ Γ own cc nL d) {x y : Int} (hd : decode cc pc = .ok (.lrem, 1)) (h1 : 0 ≤ x) (h2 : x < 9223372036854775808) (h3 : 0 < y) (h4 : y < 9223372036854775808) (k : GW κ Γ (pc + 1) L (vL (x % y) :: st) ws) : GW κ Γ pc L (vL y :: vL x :: st) ws := by
  obtain ⟨p, l, e, R, s, m, args, below, meth, c, Q, H0, A, n0, c1, c2⟩ := κ
  have hn0 : n0 = nL := hk.2.2.2.2.2.2.2.2.2.2.2.2
  subst hn0
  intro H locs ls hP hD hS hl
  refine lv_lrem hk.1 hk.2.1 hd (fun h => ?_) ?_
  · have := (i64_eq ⟨by omega, h4⟩ (show R64 0 by decide)).mp h; omega
  · have h := k H locs ls hP hD hS hl
    rw [vL, ← i64_mod h1 h2 h3 h4] at h
    exact h
theorem G_ishl (hk : Ok κ Γ own cc nL d) {x y : Int} (hd : decode cc pc = .ok (.ishl, 1)) (h1 : 0 ≤ x) (h2 : x * 2 ^ y.toNat < 4294967296) (h3 : 0 ≤ y) (h4 : y < 32) (k : GW κ Γ (pc + 1) L (vI (x * 2 ^ y.toNat) :: st) ws) : GW κ Γ pc L (vI y :: vI x :: st) ws := by
  obtain ⟨p, l, e, R, s, m, args, below, meth, c, Q, H0, A, n0, c1, c2⟩ := κ
  have hn0 : n0 = nL := hk.2.2.2.2.2.2.2.2.2.2.2.2
  subst hn0
  intro H locs ls hP hD hS hl
  refine lv_ishl hk.1 hk.2.1 hd ?_
  have h := k H locs ls hP hD hS hl
  rw [vI, ← i32_shl (k := y.toNat) (by omega) h1 h2, Int.toNat_of_nonneg h3] at h
  exact h
theorem G_ishr (hk : Ok κ Γ own cc nL d) {x y : Int} (hd : decode cc pc = .ok (.ishr, 1)) (h1 : 0 ≤ x) (h2 : x < 2147483648) (h3 : 0 ≤ y) (h4 : y < 32) (k : GW κ Γ (pc + 1) L (vI (x / 2 ^ y.toNat) :: st) ws) : GW κ Γ pc L (vI y :: vI x :: st) ws := by
  obtain ⟨p, l, e, R, s, m, args, below, meth, c, Q, H0, A, n0, c1, c2⟩ := κ
  have hn0 : n0 = nL := hk.2.2.2.2.2.2.2.2.2.2.2.2
  subst hn0
  intro H locs ls hP hD hS hl
  refine lv_ishr hk.1 hk.2.1 hd ?_
  have h := k H locs ls hP hD hS hl
  rw [vI, ← i32_shr (k := y.toNat) (by omega) h1 h2, Int.toNat_of_nonneg h3] at h
  exact h
theorem G_iushr (hk : Ok κ Γ own cc nL d) {x : Int} (hd : decode cc pc = .ok (.iushr, 1)) (k : GW κ Γ (pc + 1) L (vI (x % 4294967296 / 65536) :: st) ws) : GW κ Γ pc L (vI 16 :: vI x :: st) ws := by
  obtain ⟨p, l, e, R, s, m, args, below, meth, c, Q, H0, A, n0, c1, c2⟩ := κ
  have hn0 : n0 = nL := hk.2.2.2.2.2.2.2.2.2.2.2.2
  subst hn0
  intro H locs ls hP hD hS hl
  exact lv_iushr hk.1 hk.2.1 hd (i32_ush x) (k H locs ls hP hD hS hl)
theorem G_iand (hk : Ok κ Γ own cc nL d) {x y : Int} (hd : decode cc pc = .ok (.iand, 1)) (k : GW κ Γ (pc + 1) L (vI (zand x y) :: st) ws) : GW κ Γ pc L (vI y :: vI x :: st) ws := by
  obtain ⟨p, l, e, R, s, m, args, below, meth, c, Q, H0, A, n0, c1, c2⟩ := κ
  have hn0 : n0 = nL := hk.2.2.2.2.2.2.2.2.2.2.2.2
  subst hn0
  intro H locs ls hP hD hS hl
  refine lv_iand hk.1 hk.2.1 hd ?_
  have h := k H locs ls hP hD hS hl
  rw [vI, zand, i32_self] at h
  exact h
theorem G_ior (hk : Ok κ Γ own cc nL d) {x y : Int} (hd : decode cc pc = .ok (.ior, 1)) (k : GW κ Γ (pc + 1) L (vI (zor x y) :: st) ws) : GW κ Γ pc L (vI y :: vI x :: st) ws := by
  obtain ⟨p, l, e, R, s, m, args, below, meth, c, Q, H0, A, n0, c1, c2⟩ := κ
  have hn0 : n0 = nL := hk.2.2.2.2.2.2.2.2.2.2.2.2
  subst hn0
  intro H locs ls hP hD hS hl
  refine lv_ior hk.1 hk.2.1 hd ?_
  have h := k H locs ls hP hD hS hl
  rw [vI, zor, i32_self] at h
  exact h
theorem G_ixor (hk : Ok κ Γ own cc nL d) {x y : Int} (hd : decode cc pc = .ok (.ixor, 1)) (k : GW κ Γ (pc + 1) L (vI (zxor x y) :: st) ws) : GW κ Γ pc L (vI y :: vI x :: st) ws := by
  obtain ⟨p, l, e, R, s, m, args, below, meth, c, Q, H0, A, n0, c1, c2⟩ := κ
  have hn0 : n0 = nL := hk.2.2.2.2.2.2.2.2.2.2.2.2
  subst hn0
  intro H locs ls hP hD hS hl
  refine lv_ixor hk.1 hk.2.1 hd ?_
  have h := k H locs ls hP hD hS hl
  rw [vI, zxor, i32_self] at h
  exact h
theorem G_land (hk : Ok κ Γ own cc nL d) {x y : Int} (hd : decode cc pc = .ok (.land, 1)) (k : GW κ Γ (pc + 1) L (vL (zandL x y) :: st) ws) : GW κ Γ pc L (vL y :: vL x :: st) ws := by
  obtain ⟨p, l, e, R, s, m, args, below, meth, c, Q, H0, A, n0, c1, c2⟩ := κ
  have hn0 : n0 = nL := hk.2.2.2.2.2.2.2.2.2.2.2.2
  subst hn0
  intro H locs ls hP hD hS hl
  refine lv_land hk.1 hk.2.1 hd ?_
  have h := k H locs ls hP hD hS hl
  rw [vL, zandL, show ∀ w : Int64, Int64.ofInt w.toInt = w by intro w; simp] at h
  exact h
theorem G_lshl1 (hk : Ok κ Γ own cc nL d) {y : Int} (hd : decode cc pc = .ok (.lshl, 1)) (h3 : 0 ≤ y) (h4 : y < 64) (k : GW κ Γ (pc + 1) L (vL (2 ^ y.toNat) :: st) ws) : GW κ Γ pc L (vI y :: vL 1 :: st) ws := by
  obtain ⟨p, l, e, R, s, m, args, below, meth, c, Q, H0, A, n0, c1, c2⟩ := κ
  have hn0 : n0 = nL := hk.2.2.2.2.2.2.2.2.2.2.2.2
  subst hn0
  intro H locs ls hP hD hS hl
  have h := shl_1 ⟨y.toNat, by omega⟩
  simp only [Int.toNat_of_nonneg h3] at h
  exact lv_lshl hk.1 hk.2.1 hd h (k H locs ls hP hD hS hl)
theorem G_lshr1 (hk : Ok κ Γ own cc nL d) {x : Int} (hd : decode cc pc = .ok (.lshr, 1)) (hx : R64 x) (k : GW κ Γ (pc + 1) L (vL (x / 2) :: st) ws) : GW κ Γ pc L (vI 1 :: vL x :: st) ws := by
  obtain ⟨p, l, e, R, s, m, args, below, meth, c, Q, H0, A, n0, c1, c2⟩ := κ
  have hn0 : n0 = nL := hk.2.2.2.2.2.2.2.2.2.2.2.2
  subst hn0
  intro H locs ls hP hD hS hl
  exact lv_lshr hk.1 hk.2.1 hd (i64_shr1 hx) (k H locs ls hP hD hS hl)
theorem G_i2l (hk : Ok κ Γ own cc nL d) {x : Int} (hd : decode cc pc = .ok (.i2l, 1)) (hx : R32 x) (k : GW κ Γ (pc + 1) L (vL x :: st) ws) : GW κ Γ pc L (vI x :: st) ws := by
  obtain ⟨p, l, e, R, s, m, args, below, meth, c, Q, H0, A, n0, c1, c2⟩ := κ
  have hn0 : n0 = nL := hk.2.2.2.2.2.2.2.2.2.2.2.2
  subst hn0
  intro H locs ls hP hD hS hl
  exact lv_i2l hk.1 hk.2.1 hd (i32_to64 hx) (k H locs ls hP hD hS hl)
theorem G_i2b (hk : Ok κ Γ own cc nL d) {x : Int} (hd : decode cc pc = .ok (.i2b, 1)) (k : GW κ Γ (pc + 1) L (vI (zb8 x) :: st) ws) : GW κ Γ pc L (vI x :: st) ws := by
  obtain ⟨p, l, e, R, s, m, args, below, meth, c, Q, H0, A, n0, c1, c2⟩ := κ
  have hn0 : n0 = nL := hk.2.2.2.2.2.2.2.2.2.2.2.2
  subst hn0
  intro H locs ls hP hD hS hl
  have h := k H locs ls hP hD hS hl
  rw [vI, zb8, i32_self] at h
  exact lv_i2b hk.1 hk.2.1 hd rfl h
theorem G_i2s (hk : Ok κ Γ own cc nL d) {x : Int} (hd : decode cc pc = .ok (.i2s, 1)) (k : GW κ Γ (pc + 1) L (vI (zs16 x) :: st) ws) : GW κ Γ pc L (vI x :: st) ws := by
  obtain ⟨p, l, e, R, s, m, args, below, meth, c, Q, H0, A, n0, c1, c2⟩ := κ
  have hn0 : n0 = nL := hk.2.2.2.2.2.2.2.2.2.2.2.2
  subst hn0
  intro H locs ls hP hD hS hl
  have h := k H locs ls hP hD hS hl
  rw [vI, zs16, i32_self] at h
  exact lv_i2s hk.1 hk.2.1 hd rfl h
theorem G_lcmp (hk : Ok κ Γ own cc nL d) {x y : Int} (hd : decode cc pc = .ok (.lcmp, 1)) (hx : R64 x) (hy : R64 y) (k : GW κ Γ (pc + 1) L (vI (zcmp x y) :: st) ws) : GW κ Γ pc L (vL y :: vL x :: st) ws := by
  obtain ⟨p, l, e, R, s, m, args, below, meth, c, Q, H0, A, n0, c1, c2⟩ := κ
  have hn0 : n0 = nL := hk.2.2.2.2.2.2.2.2.2.2.2.2
  subst hn0
  intro H locs ls hP hD hS hl
  refine W.lcmp hk.1 hk.2.1 hd ?_
  rw [zcmp_lg hx hy]
  exact k H locs ls hP hD hS hl
theorem G_lcmpS (hk : Ok κ Γ own cc nL d) {x : Int} (hd : decode cc pc = .ok (.lcmp, 1)) (k : GW κ Γ (pc + 1) L (vI 0 :: st) ws) : GW κ Γ pc L (vL x :: vL x :: st) ws := by
  obtain ⟨p, l, e, R, s, m, args, below, meth, c, Q, H0, A, n0, c1, c2⟩ := κ
  have hn0 : n0 = nL := hk.2.2.2.2.2.2.2.2.2.2.2.2
  subst hn0
  intro H locs ls hP hD hS hl
  refine W.lcmp hk.1 hk.2.1 hd ?_
  rw [zcmp_same]
  exact k H locs ls hP hD hS hl
theorem G_tabOut (hk : Ok κ Γ own cc nL d) {dflt lo hi : Int} {offs : Array Int} {len tgt : Nat} {x : Int} (hd : decode cc pc = .ok (.tableswitch dflt lo hi offs, len)) (hx : R32 x) (h : x < lo ∨ hi < x) (ht : (pc : Int) + dflt = (tgt : Int)) (k : GW κ Γ tgt L st ws) : GW κ Γ pc L (vI x :: st) ws := by
  obtain ⟨p, l, e, R, s, m, args, below, meth, c, Q, H0, A, n0, c1, c2⟩ := κ
  have hn0 : n0 = nL := hk.2.2.2.2.2.2.2.2.2.2.2.2
  subst hn0
  intro H locs ls hP hD hS hl
  exact lv_tableOut hk.1 hk.2.1 hd (by rw [i32_rt hx]; exact h) ht (k H locs ls hP hD hS hl)
theorem G_tabIn (hk : Ok κ Γ own cc nL d) {dflt lo hi : Int} {offs : Array Int} {len tgt : Nat} {x off : Int} (hd : decode cc pc = .ok (.tableswitch dflt lo hi offs, len)) (hx : R32 x) (h1 : ¬ x < lo) (h2 : ¬ hi < x) (ho : offs[(x - lo).toNat]? = some off) (ht : (pc : Int) + off = (tgt : Int)) (k : GW κ Γ tgt L st ws) : GW κ Γ pc L (vI x :: st) ws := by
  obtain ⟨p, l, e, R, s, m, args, below, meth, c, Q, H0, A, n0, c1, c2⟩ := κ
  have hn0 : n0 = nL := hk.2.2.2.2.2.2.2.2.2.2.2.2
  subst hn0
  intro H locs ls hP hD hS hl
  exact lv_tableIn hk.1 hk.2.1 hd (by rw [i32_rt hx]; exact h1) (by rw [i32_rt hx]; exact h2) (by rw [i32_rt hx]; exact ho) ht (k H locs ls hP hD hS hl)
end RULES3
/-! fields and rows -/
theorem cls_ws0 : (cls.all fun r => (u_ws r.1 r.2.1 r.2.2).all fun w => decide (w ∈ lw_tbl) && goodWord w) = true := by decide +kernel
theorem cls_ws {r : vw_C} (h : r ∈ cls) : ∀ w ∈ u_ws r.1 r.2.1 r.2.2, w ∈ gt := by
  intro w hw
  have h1 := List.all_eq_true.mp (List.all_eq_true.mp cls_ws0 r h) w hw
  simp only [Bool.and_eq_true, decide_eq_true_eq] at h1
  exact gt_in h1.1 h1.2
theorem cls_ty {ci : Nat} {r : vw_C} (h : cls[ci]? = some r) : ∃ ty0 : Nat → FieldType, (∀ k, k < r.2.2 → parseFieldDescriptor (r.2.1 k).2.2.1 = some (ty0 k)) ∧ (∀ a, a < r.2.2 → ∀ b, b < r.2.2 → a ≠ b → (r.2.1 a).2.1 ≠ (r.2.1 b).2.1) := by
  match ci, h with
  | 0, h => cases h; exact ⟨tyX0, tyX0_ok, nmX0⟩
  | 1, h => cases h; exact ⟨tyX1, tyX1_ok, nmX1⟩
  | 2, h => cases h; exact ⟨tyX2, tyX2_ok, nmX2⟩
  | 3, h => cases h; exact ⟨tyX3, tyX3_ok, nmX3⟩
  | 4, h => cases h; exact ⟨tyX4, tyX4_ok, nmX4⟩
  | 5, h => cases h; exact ⟨tyX5, tyX5_ok, nmX5⟩
  | 6, h => cases h; exact ⟨tyX6, tyX6_ok, nmX6⟩
  | 7, h => cases h; exact ⟨tyX7, tyX7_ok, nmX7⟩
  | 8, h => cases h; exact ⟨tyX8, tyX8_ok, nmX8⟩
  | 9, h => cases h; exact ⟨tyX9, tyX9_ok, nmX9⟩
  | 10, h => cases h; exact ⟨tyX10, tyX10_ok, nmX10⟩
  | 11, h => cases h; exact ⟨tyX11, tyX11_ok, nmX11⟩
  | n + 12, h => simp [cls] at h
def FL (own : String) (idx ci k : Nat) : Prop := ∃ r : vw_C, cls[ci]? = some r ∧ k < r.2.2 ∧ Cond.fieldLink own idx (r.2.1 k).1 (r.2.1 k).2.1 (r.2.1 k).2.2.1 ∈ gt
/-- a field that may be written, of a type -/
def FP (ci k : Nat) (ty : FieldType) : Prop := ∃ r : vw_C, cls[ci]? = some r ∧ (r.2.1 k).2.2.2 = false ∧ parseFieldDescriptor (r.2.1 k).2.2.1 = some ty
section RULES4
variable {κ : Kx} {Γ : Ev} {own : String} {cc : ByteArray} {nL d pc : Nat} {L : List (Option Value)} {st : List Value} {S : Sx}
theorem G_getI (hk : Ok κ Γ own cc nL d) {idx ci k b : Nat} {ks : List (Nat ⊕ Bool)} (hd : decode cc pc = .ok (.getfield idx, 3)) (hf : FL own idx ci k) (hb : b < 59) (hy : lay b = .inr (ci, ks)) (hq : ks[k]? = some (.inr false)) (kk : GW κ Γ (pc + 3) L (vI (S b k) :: st) (wl Γ S)) : GW κ Γ pc L (rf Γ b :: st) (wl Γ S) := by
  obtain ⟨p, l, e, R, s, m, args, below, meth, c, Q, H0, A, n0, c1, c2⟩ := κ
  have hn0 : n0 = nL := hk.2.2.2.2.2.2.2.2.2.2.2.2
  subst hn0
  intro H locs ls hP hD hS hl
  obtain ⟨r, h1, h2, h3⟩ := hf
  have he : (wl Γ S)[b]? = some (Γ.2.2.2.2 b, .inr (ci, fvs Γ (S b) 0 ks)) := by rw [wl_at hb, hy]; rfl
  have hv := fvs_at Γ (S b) ks 0 k _ hq
  rw [Nat.zero_add] at hv
  exact va_get (D := Γ.1) (cl := cls) (tys := tys Γ) (C := r.1) (T := r.2.1) (N := r.2.2) (ci := ci) hk.1 hk.2.1 hk.2.2.2.2.1 (cls_ws (List.mem_of_getElem? h1)) hk.2.2.2.1 hk.2.2.2.2.2.1 hP b he h1 k h2 (hk.2.2.2.2.1 _ h3) (fun _ h => h) hv hd (kk H locs ls hP hD hS hl)
theorem G_getJ (hk : Ok κ Γ own cc nL d) {idx ci k b : Nat} {ks : List (Nat ⊕ Bool)} (hd : decode cc pc = .ok (.getfield idx, 3)) (hf : FL own idx ci k) (hb : b < 59) (hy : lay b = .inr (ci, ks)) (hq : ks[k]? = some (.inr true)) (kk : GW κ Γ (pc + 3) L (vL (S b k) :: st) (wl Γ S)) : GW κ Γ pc L (rf Γ b :: st) (wl Γ S) := by
  obtain ⟨p, l, e, R, s, m, args, below, meth, c, Q, H0, A, n0, c1, c2⟩ := κ
  have hn0 : n0 = nL := hk.2.2.2.2.2.2.2.2.2.2.2.2
  subst hn0
  intro H locs ls hP hD hS hl
  obtain ⟨r, h1, h2, h3⟩ := hf
  have he : (wl Γ S)[b]? = some (Γ.2.2.2.2 b, .inr (ci, fvs Γ (S b) 0 ks)) := by rw [wl_at hb, hy]; rfl
  have hv := fvs_at Γ (S b) ks 0 k _ hq
  rw [Nat.zero_add] at hv
  exact va_get (D := Γ.1) (cl := cls) (tys := tys Γ) (C := r.1) (T := r.2.1) (N := r.2.2) (ci := ci) hk.1 hk.2.1 hk.2.2.2.2.1 (cls_ws (List.mem_of_getElem? h1)) hk.2.2.2.1 hk.2.2.2.2.2.1 hP b he h1 k h2 (hk.2.2.2.2.1 _ h3) (fun _ h => h) hv hd (kk H locs ls hP hD hS hl)
theorem G_getR (hk : Ok κ Γ own cc nL d) {idx ci k b j : Nat} {ks : List (Nat ⊕ Bool)} (hd : decode cc pc = .ok (.getfield idx, 3)) (hf : FL own idx ci k) (hb : b < 59) (hy : lay b = .inr (ci, ks)) (hq : ks[k]? = some (.inl j)) (kk : GW κ Γ (pc + 3) L (rf Γ j :: st) (wl Γ S)) : GW κ Γ pc L (rf Γ b :: st) (wl Γ S) := by
  obtain ⟨p, l, e, R, s, m, args, below, meth, c, Q, H0, A, n0, c1, c2⟩ := κ
  have hn0 : n0 = nL := hk.2.2.2.2.2.2.2.2.2.2.2.2
  subst hn0
  intro H locs ls hP hD hS hl
  obtain ⟨r, h1, h2, h3⟩ := hf
  have he : (wl Γ S)[b]? = some (Γ.2.2.2.2 b, .inr (ci, fvs Γ (S b) 0 ks)) := by rw [wl_at hb, hy]; rfl
  have hv := fvs_at Γ (S b) ks 0 k _ hq
  rw [Nat.zero_add] at hv
  exact va_get (D := Γ.1) (cl := cls) (tys := tys Γ) (C := r.1) (T := r.2.1) (N := r.2.2) (ci := ci) hk.1 hk.2.1 hk.2.2.2.2.1 (cls_ws (List.mem_of_getElem? h1)) hk.2.2.2.1 hk.2.2.2.2.2.1 hP b he h1 k h2 (hk.2.2.2.2.1 _ h3) (fun _ h => h) hv hd (kk H locs ls hP hD hS hl)
theorem G_putI (hk : Ok κ Γ own cc nL d) {idx ci k b : Nat} {z : Int} {ks : List (Nat ⊕ Bool)} (hd : decode cc pc = .ok (.putfield idx, 3)) (hf : FL own idx ci k) (hp : FP ci k .int) (hb : b < 59) (hy : lay b = .inr (ci, ks)) (hq : ks[k]? = some (.inr false)) (kk : GW κ Γ (pc + 3) L st (wl Γ (su S b k z))) : GW κ Γ pc L (vI z :: rf Γ b :: st) (wl Γ S) := by
  obtain ⟨p, l, e, R, s, m, args, below, meth, c, Q, H0, A, n0, c1, c2⟩ := κ
  have hn0 : n0 = nL := hk.2.2.2.2.2.2.2.2.2.2.2.2
  subst hn0
  intro H locs ls hP hD hS hl
  obtain ⟨r, h1, h2, h3⟩ := hf
  obtain ⟨r2, g1, g2, g3⟩ := hp
  cases h1.symm.trans g1
  obtain ⟨ty0, t1, t2⟩ := cls_ty h1
  have he : (wl Γ S)[b]? = some (Γ.2.2.2.2 b, .inr (ci, fvs Γ (S b) 0 ks)) := by rw [wl_at hb, hy]; rfl
  have hlt : k < (fvs Γ (S b) 0 ks).length := by rw [fvs_len]; exact (List.getElem?_eq_some_iff.mp hq).1
  have hset : (wl Γ S).set b (Γ.2.2.2.2 b, .inr (ci, (fvs Γ (S b) 0 ks).set k (vI z))) = wl Γ (su S b k z) := by
    have h9 := fvs_set Γ (S b) z ks 0 k false hq
    rw [Nat.zero_add] at h9
    rw [su_sr, ← wl_set hb, hy]
    show _ = (wl Γ S).set b (Γ.2.2.2.2 b, .inr (ci, fvs Γ _ 0 ks))
    rw [← h9]
    rfl
  refine va_put (D := Γ.1) (cl := cls) (tys := tys Γ) (C := r.1) (T := r.2.1) (N := r.2.2) (ci := ci) (ty := .int) (v := vI z) hk.1 hk.2.1 hk.2.2.2.2.1 (cls_ws (List.mem_of_getElem? h1)) ty0 t1 t2 hk.2.2.2.1 hk.2.2.2.2.2.1 hP hD hS b he h1 k h2 (hk.2.2.2.2.1 _ h3) (fun _ h => h) g2 g3 rfl rfl hlt hd (fun H1 locs1 hP1 hD1 hS1 => ?_)
  rw [hset] at hP1 hD1
  exact kk H1 locs1 ls hP1 hD1 hS1 hl
theorem G_putJ (hk : Ok κ Γ own cc nL d) {idx ci k b : Nat} {z : Int} {ks : List (Nat ⊕ Bool)} (hd : decode cc pc = .ok (.putfield idx, 3)) (hf : FL own idx ci k) (hp : FP ci k .long) (hb : b < 59) (hy : lay b = .inr (ci, ks)) (hq : ks[k]? = some (.inr true)) (kk : GW κ Γ (pc + 3) L st (wl Γ (su S b k z))) : GW κ Γ pc L (vL z :: rf Γ b :: st) (wl Γ S) := by
  obtain ⟨p, l, e, R, s, m, args, below, meth, c, Q, H0, A, n0, c1, c2⟩ := κ
  have hn0 : n0 = nL := hk.2.2.2.2.2.2.2.2.2.2.2.2
  subst hn0
  intro H locs ls hP hD hS hl
  obtain ⟨r, h1, h2, h3⟩ := hf
  obtain ⟨r2, g1, g2, g3⟩ := hp
  cases h1.symm.trans g1
  obtain ⟨ty0, t1, t2⟩ := cls_ty h1
  have he : (wl Γ S)[b]? = some (Γ.2.2.2.2 b, .inr (ci, fvs Γ (S b) 0 ks)) := by rw [wl_at hb, hy]; rfl
  have hlt : k < (fvs Γ (S b) 0 ks).length := by rw [fvs_len]; exact (List.getElem?_eq_some_iff.mp hq).1
  have hset : (wl Γ S).set b (Γ.2.2.2.2 b, .inr (ci, (fvs Γ (S b) 0 ks).set k (vL z))) = wl Γ (su S b k z) := by
    have h9 := fvs_set Γ (S b) z ks 0 k true hq
    rw [Nat.zero_add] at h9
    rw [su_sr, ← wl_set hb, hy]
    show _ = (wl Γ S).set b (Γ.2.2.2.2 b, .inr (ci, fvs Γ _ 0 ks))
    rw [← h9]
    rfl
  refine va_put (D := Γ.1) (cl := cls) (tys := tys Γ) (C := r.1) (T := r.2.1) (N := r.2.2) (ci := ci) (ty := .long) (v := vL z) hk.1 hk.2.1 hk.2.2.2.2.1 (cls_ws (List.mem_of_getElem? h1)) ty0 t1 t2 hk.2.2.2.1 hk.2.2.2.2.2.1 hP hD hS b he h1 k h2 (hk.2.2.2.2.1 _ h3) (fun _ h => h) g2 g3 rfl rfl hlt hd (fun H1 locs1 hP1 hD1 hS1 => ?_)
  rw [hset] at hP1 hD1
  exact kk H1 locs1 ls hP1 hD1 hS1 hl
theorem G_iald (hk : Ok κ Γ own cc nL d) {b n : Nat} {z : Int} {ts : List Nat} (hd : decode cc pc = .ok (.iaload, 1)) (hb : b < 59) (hy : lay b = .inl (0, n, ts)) (hn : n < 1000) (h0 : 0 ≤ z) (h1 : z < (n : Int)) (kk : GW κ Γ (pc + 1) L (vI (S b z.toNat) :: st) (wl Γ S)) : GW κ Γ pc L (vI z :: rf Γ b :: st) (wl Γ S) := by
  obtain ⟨p, l, e, R, s, m, args, below, meth, c, Q, H0, A, n0, c1, c2⟩ := κ
  have hn0 : n0 = nL := hk.2.2.2.2.2.2.2.2.2.2.2.2
  subst hn0
  intro H locs ls hP hD hS hl
  have he : (wl Γ S)[b]? = some (Γ.2.2.2.2 b, .inl (Γ.2.1, n, .inl (fun j => Int32.ofInt (S b j)))) := by rw [wl_at hb, hy]; rfl
  have hr : R32 z := ⟨by omega, by omega⟩
  refine va_iald (D := Γ.1) (cl := cls) (tys := tys Γ) hk.1 hk.2.1 hk.2.2.2.2.2.1 hP b 0 he rfl (i32_in h0 h1 hr) hd ?_
  rw [i32_cl hr h0]
  exact kk H locs ls hP hD hS hl
theorem G_lald (hk : Ok κ Γ own cc nL d) {b n : Nat} {z : Int} {ts : List Nat} (hd : decode cc pc = .ok (.laload, 1)) (hb : b < 59) (hy : lay b = .inl (1, n, ts)) (hn : n < 1000) (h0 : 0 ≤ z) (h1 : z < (n : Int)) (kk : GW κ Γ (pc + 1) L (vL (S b z.toNat) :: st) (wl Γ S)) : GW κ Γ pc L (vI z :: rf Γ b :: st) (wl Γ S) := by
  obtain ⟨p, l, e, R, s, m, args, below, meth, c, Q, H0, A, n0, c1, c2⟩ := κ
  have hn0 : n0 = nL := hk.2.2.2.2.2.2.2.2.2.2.2.2
  subst hn0
  intro H locs ls hP hD hS hl
  have he : (wl Γ S)[b]? = some (Γ.2.2.2.2 b, .inl (Γ.2.2.1, n, .inr (.inl (fun j => Int64.ofInt (S b j))))) := by rw [wl_at hb, hy]; rfl
  have hr : R32 z := ⟨by omega, by omega⟩
  refine va_lald (D := Γ.1) (cl := cls) (tys := tys Γ) hk.1 hk.2.1 hk.2.2.2.2.2.1 hP b 1 he rfl (i32_in h0 h1 hr) hd ?_
  rw [i32_cl hr h0]
  exact kk H locs ls hP hD hS hl
theorem G_aald (hk : Ok κ Γ own cc nL d) {b n j : Nat} {z : Int} {ts : List Nat} (hd : decode cc pc = .ok (.aaload, 1)) (hb : b < 59) (hy : lay b = .inl (2, n, ts)) (hn : n < 1000) (h0 : 0 ≤ z) (h1 : z < (n : Int)) (hj : ts[z.toNat]? = some j) (kk : GW κ Γ (pc + 1) L (rf Γ j :: st) (wl Γ S)) : GW κ Γ pc L (vI z :: rf Γ b :: st) (wl Γ S) := by
  obtain ⟨p, l, e, R, s, m, args, below, meth, c, Q, H0, A, n0, c1, c2⟩ := κ
  have hn0 : n0 = nL := hk.2.2.2.2.2.2.2.2.2.2.2.2
  subst hn0
  intro H locs ls hP hD hS hl
  have he : (wl Γ S)[b]? = some (Γ.2.2.2.2 b, .inl (Γ.2.2.2.1, n, .inr (.inr (.inr (.inr (fun j => (ts[j]?).map Γ.2.2.2.2)))))) := by rw [wl_at hb, hy]; rfl
  have hr : R32 z := ⟨by omega, by omega⟩
  refine va_aldq (D := Γ.1) (cl := cls) (tys := tys Γ) hk.1 hk.2.1 hk.2.2.2.2.2.1 hP b 2 he rfl (i32_in h0 h1 hr) hd ?_
  rw [i32_cl hr h0, hj]
  exact kk H locs ls hP hD hS hl
theorem G_alen (hk : Ok κ Γ own cc nL d) {b n k : Nat} {ts : List Nat} (hd : decode cc pc = .ok (.arraylength, 1)) (hb : b < 59) (hy : lay b = .inl (k, n, ts)) (kk : GW κ Γ (pc + 1) L (vI (n : Int) :: st) (wl Γ S)) : GW κ Γ pc L (rf Γ b :: st) (wl Γ S) := by
  obtain ⟨p, l, e, R, s, m, args, below, meth, c, Q, H0, A, n0, c1, c2⟩ := κ
  have hn0 : n0 = nL := hk.2.2.2.2.2.2.2.2.2.2.2.2
  subst hn0
  intro H locs ls hP hD hS hl
  have he := wl_at (Γ := Γ) (S := S) hb
  rw [hy] at he
  match k, he with
  | 0, he => exact va_alen (D := Γ.1) (cl := cls) (tys := tys Γ) hk.1 hk.2.1 hk.2.2.2.2.2.1 hP b 0 he rfl (ofInt_nI n).symm hd (kk H locs ls hP hD hS hl)
  | 1, he => exact va_alen (D := Γ.1) (cl := cls) (tys := tys Γ) hk.1 hk.2.1 hk.2.2.2.2.2.1 hP b 1 he rfl (ofInt_nI n).symm hd (kk H locs ls hP hD hS hl)
  | k + 2, he => exact va_alen (D := Γ.1) (cl := cls) (tys := tys Γ) hk.1 hk.2.1 hk.2.2.2.2.2.1 hP b 2 he rfl (ofInt_nI n).symm hd (kk H locs ls hP hD hS hl)
theorem G_iast (hk : Ok κ Γ own cc nL d) {b n : Nat} {z x : Int} {ts : List Nat} (hd : decode cc pc = .ok (.iastore, 1)) (hb : b < 59) (hy : lay b = .inl (0, n, ts)) (hn : n < 1000) (h0 : 0 ≤ z) (h1 : z < (n : Int)) (kk : GW κ Γ (pc + 1) L st (wl Γ (su S b z.toNat x))) : GW κ Γ pc L (vI x :: vI z :: rf Γ b :: st) (wl Γ S) := by
  obtain ⟨p, l, e, R, s, m, args, below, meth, c, Q, H0, A, n0, c1, c2⟩ := κ
  have hn0 : n0 = nL := hk.2.2.2.2.2.2.2.2.2.2.2.2
  subst hn0
  intro H locs ls hP hD hS hl
  have he : (wl Γ S)[b]? = some (Γ.2.2.2.2 b, .inl (Γ.2.1, n, .inl (fun j => Int32.ofInt (S b j)))) := by rw [wl_at hb, hy]; rfl
  have hr : R32 z := ⟨by omega, by omega⟩
  have hset : (wl Γ S).set b (Γ.2.2.2.2 b, .inl (Γ.2.1, n, .inl (upd (fun j => Int32.ofInt (S b j)) z.toNat (Int32.ofInt x)))) = wl Γ (su S b z.toNat x) := by
    rw [su_sr, ← wl_set hb, hy]
    have e : upd (fun j => Int32.ofInt (S b j)) z.toNat (Int32.ofInt x) = fun j => Int32.ofInt (if j = z.toNat then x else S b j) := by
      funext j
      by_cases hj : j = z.toNat <;> simp [upd, hj]
    rw [e]
    rfl
  refine va_iast (D := Γ.1) (cl := cls) (tys := tys Γ) hk.1 hk.2.1 hk.2.2.2.2.2.1 hP hD hS b 0 he rfl (i32_in h0 h1 hr) hd (fun H1 locs1 hP1 hD1 hS1 => ?_)
  rw [i32_cl hr h0, hset] at hP1 hD1
  exact kk H1 locs1 ls hP1 hD1 hS1 hl
theorem G_last (hk : Ok κ Γ own cc nL d) {b n : Nat} {z x : Int} {ts : List Nat} (hd : decode cc pc = .ok (.lastore, 1)) (hb : b < 59) (hy : lay b = .inl (1, n, ts)) (hn : n < 1000) (h0 : 0 ≤ z) (h1 : z < (n : Int)) (kk : GW κ Γ (pc + 1) L st (wl Γ (su S b z.toNat x))) : GW κ Γ pc L (vL x :: vI z :: rf Γ b :: st) (wl Γ S) := by
  obtain ⟨p, l, e, R, s, m, args, below, meth, c, Q, H0, A, n0, c1, c2⟩ := κ
  have hn0 : n0 = nL := hk.2.2.2.2.2.2.2.2.2.2.2.2
  subst hn0
  intro H locs ls hP hD hS hl
  have he : (wl Γ S)[b]? = some (Γ.2.2.2.2 b, .inl (Γ.2.2.1, n, .inr (.inl (fun j => Int64.ofInt (S b j))))) := by rw [wl_at hb, hy]; rfl
  have hr : R32 z := ⟨by omega, by omega⟩
  have hset : (wl Γ S).set b (Γ.2.2.2.2 b, .inl (Γ.2.2.1, n, .inr (.inl (vp_updL (fun j => Int64.ofInt (S b j)) z.toNat (Int64.ofInt x))))) = wl Γ (su S b z.toNat x) := by
    rw [su_sr, ← wl_set hb, hy]
    have e : vp_updL (fun j => Int64.ofInt (S b j)) z.toNat (Int64.ofInt x) = fun j => Int64.ofInt (if j = z.toNat then x else S b j) := by
      funext j
      by_cases hj : j = z.toNat <;> simp [vp_updL, hj]
    rw [e]
    rfl
  refine va_last (D := Γ.1) (cl := cls) (tys := tys Γ) hk.1 hk.2.1 hk.2.2.2.2.2.1 hP hD hS b 1 he rfl (i32_in h0 h1 hr) hd (fun H1 locs1 hP1 hD1 hS1 => ?_)
  rw [i32_cl hr h0, hset] at hP1 hD1
  exact kk H1 locs1 ls hP1 hD1 hS1 hl
end RULES4
