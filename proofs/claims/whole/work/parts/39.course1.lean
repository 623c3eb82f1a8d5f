/-! the class's course of the years -/
def CrS (N : Nat) (X : Sim) (S : Sx) : Prop := (∀ p, p < N → S 18 p = X.1 p) ∧ (∀ k, k < 12 → S 19 k = X.2.1 (2 * k) ∧ S 20 k = X.2.1 (2 * k + 1)) ∧ S 17 6 = (bsm (fun k => decide (X.2.2 k ≠ 0)) 12 : Int) ∧ S 17 7 = (bsm (fun k => decide (X.2.2 k = 2)) 12 : Int)
theorem bsm_eq {c : Nat → Bool} {n m : Nat} (h : ∀ k, m.testBit k = (decide (k < n) && c k)) : m = bsm c n := by
  apply Nat.eq_of_testBit_eq
  intro k
  rw [h k, bsm_tb]
theorem bsm_or (c : Nat → Bool) {n k : Nat} (hn : n ≤ 30) (hk : k < n) : zor (bsm c n : Int) (1 * 2 ^ ((k : Int)).toNat) = (bsm (fun j => if j = k then true else c j) n : Int) := by
  have h1 := bsm_31 c hn
  have e : (1 : Int) * 2 ^ ((k : Int)).toNat = ((2 ^ k : Nat) : Int) := by
    rw [show ((k : Int)).toNat = k from rfl, Int.one_mul, Int.natCast_pow]; rfl
  have h2 := pow_31 (k := k) (by omega)
  rw [e, zor_nn h1 (by omega)]
  congr 1
  apply bsm_eq
  intro j
  rw [Nat.testBit_or, bsm_tb, Nat.testBit_two_pow]
  by_cases e2 : j = k
  · subst e2
    simp [hk]
  · have e3 : ¬ k = j := fun h => e2 h.symm
    simp [e2, e3]
theorem thr {X : Sim} (hb : ∀ k, k < 12 → 0 ≤ X.2.2 k ∧ X.2.2 k ≤ 2) : zand (bsm (fun k => decide (X.2.2 k ≠ 0)) 12 : Int) (zxor (bsm (fun k => decide (X.2.2 k = 2)) 12 : Int) (-1)) = (bsm (fun k => decide (X.2.2 k = 1)) 12 : Int) := by
  obtain ⟨m, h1, h2, h3⟩ := zandn (bsm_31 (fun k => decide (X.2.2 k ≠ 0)) (n := 12) (by decide)) (bsm_31 (fun k => decide (X.2.2 k = 2)) (n := 12) (by decide))
  rw [h2]
  congr 1
  apply bsm_eq
  intro k
  rw [h3 k, bsm_tb, bsm_tb]
  by_cases hk : k < 12
  · have := hb k hk
    simp only [hk, decide_true, Bool.true_and]
    by_cases c1 : X.2.2 k = 1
    · simp [c1]
    · by_cases c2 : X.2.2 k = 2
      · simp [c2]
      · have : X.2.2 k = 0 := by omega
        simp [this]
  · simp [hk]
def tkF (S : Sx) (p m : Int) : Int × Sx := if 0 ≤ p ∧ p < S 1 5 then (lsr m (S 18 p.toNat), su S 18 p.toNat (S 18 p.toNat - lsr m (S 18 p.toNat))) else (0, S)
def gvT (S : Sx) (p m : Int) : Sx := if 0 ≤ p ∧ p < S 1 5 then su S 18 p.toNat (S 18 p.toNat + m) else S
theorem min_lsr (a b : Int) : (if a > b then b else a) = lsr a b := by
  unfold lsr
  split <;> split <;> omega

theorem zand_r (x y : Int) : R32 (zand x y) := by
  unfold zand R32
  have h1 := Int32.le_toInt (Int32.ofInt x &&& Int32.ofInt y)
  have h2 := Int32.toInt_lt (Int32.ofInt x &&& Int32.ofInt y)
  constructor <;> omega

theorem c_X3_isNumber (l : Launch) (Γ : Ev) (d : Nat) (S : Sx) (v : Int) (h1 : R32 v) : Ctr l Γ d mX3_isNumber [vI v] S (pP S (bz (0 ≤ v ∧ v < 12))) := by
  refine Ctr.of (by decide) rfl rfl (Nat.le_of_ble_eq_true rfl) ?_
  intro κ hl hk hr
  subst hl
  refine G_iload_n hk dX3_isNumber_0 rfl ?_
  refine G_if_lt (tgt := 14) hk dX3_isNumber_1 (by decide) ⟨by omega, by omega⟩ (fun h_1 => ?_) (fun h_1 => ?_)
  · refine G_iconst hk dX3_isNumber_14 ?_
    exact G_zret hk hr dX3_isNumber_15 (by decide) ⟨by simp only [bz]; split <;> first | rfl | (exfalso; omega), rfl⟩
  · refine G_iload_n hk dX3_isNumber_4 rfl ?_
    refine G_bipush hk dX3_isNumber_5 (by decide) ?_
    refine G_icmp_ge (tgt := 14) hk dX3_isNumber_7 (by decide) ⟨by omega, by omega⟩ ⟨by omega, by omega⟩ (fun h_7 => ?_) (fun h_7 => ?_)
    · refine G_iconst hk dX3_isNumber_14 ?_
      exact G_zret hk hr dX3_isNumber_15 (by decide) ⟨by simp only [bz]; split <;> first | rfl | (exfalso; omega), rfl⟩
    · refine G_iconst hk dX3_isNumber_10 ?_
      refine G_goto (tgt := 15) hk dX3_isNumber_11 (by decide) ?_
      exact G_zret hk hr dX3_isNumber_15 (by decide) ⟨by simp only [bz]; split <;> first | rfl | (exfalso; omega), rfl⟩

theorem c_X3_takeFrom (l : Launch) (Γ : Ev) (d : Nat) (S : Sx) (p m : Int) (h1 : R32 p) (h2 : 0 ≤ S 1 5 ∧ S 1 5 ≤ 8) (hm : R32 m) (hs : ∀ j : Nat, (j : Int) < S 1 5 → R32 (S 18 j)) : Ctr l Γ (d + 1) mX3_takeFrom [rf Γ 17, vI p, vI m] S (pI (fun r S2 => (r, S2) = tkF S p m)) := by
  refine Ctr.of (by decide) rfl rfl (Nat.le_of_ble_eq_true rfl) ?_
  intro κ hl hk hr
  subst hl
  refine G_rload_n hk dX3_takeFrom_0 rfl ?_
  refine G_getR hk dX3_takeFrom_1 flX3_25 (by decide) rfl rfl ?_
  refine G_iload_n hk dX3_takeFrom_4 rfl ?_
  refine G_cV1P hk dX3_takeFrom_5 mvX4_has mlX3_126 (by decide) rfl rfl (Nat.le_of_ble_eq_true rfl) (c_X4_has _ Γ (d + 0) _ _ ⟨by omega, by omega⟩ ⟨by omega, by omega⟩) ?_
  refine G_bif_ne (tgt := 13) hk dX3_takeFrom_8 (by decide) (fun h_8 => ?_) (fun h_8 => ?_)
  · refine G_iload_n hk dX3_takeFrom_13 rfl ?_
    refine G_rload_n hk dX3_takeFrom_14 rfl ?_
    refine G_getR hk dX3_takeFrom_15 flX3_9 (by decide) rfl rfl ?_
    refine G_iload_n hk dX3_takeFrom_18 rfl ?_
    refine G_iald hk dX3_takeFrom_19 (by decide) rfl (by decide) (by omega) (by omega) ?_
    have r18 := hs p.toNat (by omega)
    refine G_cS2P hk dX3_takeFrom_20 msJ9_min_7cf53 mlX3_129 (Nat.le_of_ble_eq_true rfl) (c_J9_min _ Γ (d + 0) _ _ _ hm r18) ?_
    rw [min_lsr]
    refine G_istore_n hk dX3_takeFrom_23 (by decide) rfl ?_
    refine G_rload_n hk dX3_takeFrom_24 rfl ?_
    refine G_getR hk dX3_takeFrom_25 flX3_9 (by decide) rfl rfl ?_
    refine G_iload_n hk dX3_takeFrom_28 rfl ?_
    refine G_dup2 hk dX3_takeFrom_29 rfl rfl ?_
    refine G_iald hk dX3_takeFrom_30 (by decide) rfl (by decide) (by omega) (by omega) ?_
    refine G_iload_n hk dX3_takeFrom_31 rfl ?_
    refine G_isub hk dX3_takeFrom_32 ?_
    refine G_iast hk dX3_takeFrom_33 (by decide) rfl (by decide) (by omega) (by omega) ?_
    refine G_iload_n hk dX3_takeFrom_34 rfl ?_
    exact G_iret hk hr dX3_takeFrom_35 (by unfold tkF; rw [if_pos (by omega)])
  · refine G_iconst hk dX3_takeFrom_11 ?_
    exact G_iret hk hr dX3_takeFrom_12 (by unfold tkF; rw [if_neg (by omega)])

theorem c_X3_giveTo (l : Launch) (Γ : Ev) (d : Nat) (S : Sx) (p m : Int) (h1 : R32 p) (h2 : 0 ≤ S 1 5 ∧ S 1 5 ≤ 8) : Ctr l Γ (d + 1) mX3_giveTo [rf Γ 17, vI p, vI m] S (pV (fun S2 => S2 = gvT S p m)) := by
  refine Ctr.of (by decide) rfl rfl (Nat.le_of_ble_eq_true rfl) ?_
  intro κ hl hk hr
  subst hl
  refine G_rload_n hk dX3_giveTo_0 rfl ?_
  refine G_getR hk dX3_giveTo_1 flX3_25 (by decide) rfl rfl ?_
  refine G_iload_n hk dX3_giveTo_4 rfl ?_
  refine G_cV1P hk dX3_giveTo_5 mvX4_has mlX3_126 (by decide) rfl rfl (Nat.le_of_ble_eq_true rfl) (c_X4_has _ Γ (d + 0) _ _ ⟨by omega, by omega⟩ ⟨by omega, by omega⟩) ?_
  refine G_bif_eq (tgt := 21) hk dX3_giveTo_8 (by decide) (fun h_8 => ?_) (fun h_8 => ?_)
  · exact G_vret hk hr dX3_giveTo_21 (by unfold gvT; rw [if_neg (by omega)])
  · refine G_rload_n hk dX3_giveTo_11 rfl ?_
    refine G_getR hk dX3_giveTo_12 flX3_9 (by decide) rfl rfl ?_
    refine G_iload_n hk dX3_giveTo_15 rfl ?_
    refine G_dup2 hk dX3_giveTo_16 rfl rfl ?_
    refine G_iald hk dX3_giveTo_17 (by decide) rfl (by decide) (by omega) (by omega) ?_
    refine G_iload_n hk dX3_giveTo_18 rfl ?_
    refine G_iadd hk dX3_giveTo_19 ?_
    refine G_iast hk dX3_giveTo_20 (by decide) rfl (by decide) (by omega) (by omega) ?_
    exact G_vret hk hr dX3_giveTo_21 (by unfold gvT; rw [if_pos (by omega)])

theorem c_X3_thereBits (l : Launch) (Γ : Ev) (d : Nat) (S : Sx) (N : Nat) (X : Sim) (hX : CrS N X S) (hb : ∀ k, k < 12 → 0 ≤ X.2.2 k ∧ X.2.2 k ≤ 2) : Ctr l Γ d mX3_thereBits [rf Γ 17] S (pP S (bsm (fun k => decide (X.2.2 k = 1)) 12 : Int)) := by
  refine Ctr.of (by decide) rfl rfl (Nat.le_of_ble_eq_true rfl) ?_
  intro κ hl hk hr
  subst hl
  refine G_rload_n hk dX3_thereBits_0 rfl ?_
  refine G_getI hk dX3_thereBits_1 flX3_56 (by decide) rfl rfl ?_
  refine G_rload_n hk dX3_thereBits_4 rfl ?_
  refine G_getI hk dX3_thereBits_5 flX3_59 (by decide) rfl rfl ?_
  refine G_iconst hk dX3_thereBits_8 ?_
  refine G_ixor hk dX3_thereBits_9 ?_
  refine G_iand hk dX3_thereBits_10 ?_
  exact G_iret hk hr dX3_thereBits_11 ⟨by rw [hX.2.2.1, hX.2.2.2]; exact thr hb, rfl⟩

theorem c_X3_isThere (l : Launch) (Γ : Ev) (d : Nat) (S : Sx) (N : Nat) (X : Sim) (hX : CrS N X S) (hb : ∀ k, k < 12 → 0 ≤ X.2.2 k ∧ X.2.2 k ≤ 2) (v : Int) (h1 : R32 v) : Ctr l Γ (d + 1) mX3_isThere [rf Γ 17, vI v] S (pP S (bz (0 ≤ v ∧ v < 12 ∧ X.2.2 v.toNat = 1))) := by
  refine Ctr.of (by decide) rfl rfl (Nat.le_of_ble_eq_true rfl) ?_
  intro κ hl hk hr
  subst hl
  have hl := bsm_31 (fun k => decide (X.2.2 k = 1)) (n := 12) (by decide)
  have hq := bit_q (k := v.toNat) hl
  rw [bsm_tb] at hq
  refine G_iload_n hk dX3_isThere_0 rfl ?_
  refine G_cS1P hk dX3_isThere_1 msX3_isNumber mlX3_122 (Nat.le_of_ble_eq_true rfl) (c_X3_isNumber _ Γ (d + 0) _ _ ⟨by omega, by omega⟩) ?_
  refine G_bif_eq (tgt := 23) hk dX3_isThere_4 (by decide) (fun h_4 => ?_) (fun h_4 => ?_)
  · refine G_iconst hk dX3_isThere_23 ?_
    exact G_zret hk hr dX3_isThere_24 (by decide) ⟨bz_f (fun h => by omega), rfl⟩
  · refine G_rload_n hk dX3_isThere_7 rfl ?_
    refine G_cV0P hk dX3_isThere_8 mvX3_thereBits mlX3_140 (by decide) rfl rfl (Nat.le_of_ble_eq_true rfl) (c_X3_thereBits _ Γ (d + 0) _ N X hX hb) ?_
    refine G_iload_n hk dX3_isThere_11 rfl ?_
    refine G_ishr hk dX3_isThere_12 (by omega) (by omega) (by omega) (by omega) ?_
    refine G_iconst hk dX3_isThere_13 ?_
    refine G_iand hk dX3_isThere_14 ?_
    refine G_iconst hk dX3_isThere_15 ?_
    refine G_icmp_ne (tgt := 23) hk dX3_isThere_16 (by decide) (zand_r _ _) ⟨by omega, by omega⟩ (fun h_16 => ?_) (fun h_16 => ?_)
    · refine G_iconst hk dX3_isThere_23 ?_
      exact G_zret hk hr dX3_isThere_24 (by decide) ⟨bz_f (fun h => h_16 (hq.mpr (by simp only [Bool.and_eq_true, decide_eq_true_iff]; exact ⟨by omega, h.2.2⟩))), rfl⟩
    · refine G_iconst hk dX3_isThere_19 ?_
      refine G_goto (tgt := 24) hk dX3_isThere_20 (by decide) ?_
      exact G_zret hk hr dX3_isThere_24 (by decide) ⟨bz_t ⟨by omega, by omega, by have h3 := hq.mp (by omega); simp only [Bool.and_eq_true, decide_eq_true_iff] at h3; exact h3.2⟩, rfl⟩

theorem c_X3_solidOf (l : Launch) (Γ : Ev) (d : Nat) (S : Sx) (v : Int) (h1 : R32 v) (h2 : 0 ≤ S 1 5 ∧ S 1 5 ≤ 8) : Ctr l Γ (d + 1) mX3_solidOf [rf Γ 17, vI v] S (pP S (if 0 ≤ v ∧ v < S 1 5 then S 18 v.toNat else -1)) := by
  refine Ctr.of (by decide) rfl rfl (Nat.le_of_ble_eq_true rfl) ?_
  intro κ hl hk hr
  subst hl
  refine G_rload_n hk dX3_solidOf_0 rfl ?_
  refine G_getR hk dX3_solidOf_1 flX3_25 (by decide) rfl rfl ?_
  refine G_iload_n hk dX3_solidOf_4 rfl ?_
  refine G_cV1P hk dX3_solidOf_5 mvX4_has mlX3_126 (by decide) rfl rfl (Nat.le_of_ble_eq_true rfl) (c_X4_has _ Γ (d + 0) _ _ ⟨by omega, by omega⟩ ⟨by omega, by omega⟩) ?_
  refine G_bif_eq (tgt := 20) hk dX3_solidOf_8 (by decide) (fun h_8 => ?_) (fun h_8 => ?_)
  · refine G_iconst hk dX3_solidOf_20 ?_
    exact G_iret hk hr dX3_solidOf_21 ⟨by split <;> first | rfl | (exfalso; omega), rfl⟩
  · refine G_rload_n hk dX3_solidOf_11 rfl ?_
    refine G_getR hk dX3_solidOf_12 flX3_9 (by decide) rfl rfl ?_
    refine G_iload_n hk dX3_solidOf_15 rfl ?_
    refine G_iald hk dX3_solidOf_16 (by decide) rfl (by decide) (by omega) (by omega) ?_
    refine G_goto (tgt := 21) hk dX3_solidOf_17 (by decide) ?_
    exact G_iret hk hr dX3_solidOf_21 ⟨by split <;> first | rfl | (exfalso; omega), rfl⟩

theorem c_X3_tookOfPerson (l : Launch) (Γ : Ev) (d : Nat) (S : Sx) (v : Int) (h1 : R32 v) : Ctr l Γ (d + 1) mX3_tookOfPerson [rf Γ 17, vI v] S (pP S (if 0 ≤ v ∧ v < 12 then S 19 v.toNat else 0)) := by
  refine Ctr.of (by decide) rfl rfl (Nat.le_of_ble_eq_true rfl) ?_
  intro κ hl hk hr
  subst hl
  refine G_iload_n hk dX3_tookOfPerson_0 rfl ?_
  refine G_cS1P hk dX3_tookOfPerson_1 msX3_isNumber mlX3_122 (Nat.le_of_ble_eq_true rfl) (c_X3_isNumber _ Γ (d + 0) _ _ ⟨by omega, by omega⟩) ?_
  refine G_bif_eq (tgt := 16) hk dX3_tookOfPerson_4 (by decide) (fun h_4 => ?_) (fun h_4 => ?_)
  · refine G_iconst hk dX3_tookOfPerson_16 ?_
    exact G_iret hk hr dX3_tookOfPerson_17 ⟨by split <;> first | rfl | (exfalso; omega), rfl⟩
  · refine G_rload_n hk dX3_tookOfPerson_7 rfl ?_
    refine G_getR hk dX3_tookOfPerson_8 flX3_15 (by decide) rfl rfl ?_
    refine G_iload_n hk dX3_tookOfPerson_11 rfl ?_
    refine G_iald hk dX3_tookOfPerson_12 (by decide) rfl (by decide) (by omega) (by omega) ?_
    refine G_goto (tgt := 17) hk dX3_tookOfPerson_13 (by decide) ?_
    exact G_iret hk hr dX3_tookOfPerson_17 ⟨by split <;> first | rfl | (exfalso; omega), rfl⟩

theorem c_X3_tookOfTwin (l : Launch) (Γ : Ev) (d : Nat) (S : Sx) (v : Int) (h1 : R32 v) : Ctr l Γ (d + 1) mX3_tookOfTwin [rf Γ 17, vI v] S (pP S (if 0 ≤ v ∧ v < 12 then S 20 v.toNat else 0)) := by
  refine Ctr.of (by decide) rfl rfl (Nat.le_of_ble_eq_true rfl) ?_
  intro κ hl hk hr
  subst hl
  refine G_iload_n hk dX3_tookOfTwin_0 rfl ?_
  refine G_cS1P hk dX3_tookOfTwin_1 msX3_isNumber mlX3_122 (Nat.le_of_ble_eq_true rfl) (c_X3_isNumber _ Γ (d + 0) _ _ ⟨by omega, by omega⟩) ?_
  refine G_bif_eq (tgt := 16) hk dX3_tookOfTwin_4 (by decide) (fun h_4 => ?_) (fun h_4 => ?_)
  · refine G_iconst hk dX3_tookOfTwin_16 ?_
    exact G_iret hk hr dX3_tookOfTwin_17 ⟨by split <;> first | rfl | (exfalso; omega), rfl⟩
  · refine G_rload_n hk dX3_tookOfTwin_7 rfl ?_
    refine G_getR hk dX3_tookOfTwin_8 flX3_18 (by decide) rfl rfl ?_
    refine G_iload_n hk dX3_tookOfTwin_11 rfl ?_
    refine G_iald hk dX3_tookOfTwin_12 (by decide) rfl (by decide) (by omega) (by omega) ?_
    refine G_goto (tgt := 17) hk dX3_tookOfTwin_13 (by decide) ?_
    exact G_iret hk hr dX3_tookOfTwin_17 ⟨by split <;> first | rfl | (exfalso; omega), rfl⟩

theorem c_X3_tookOfBoth (l : Launch) (Γ : Ev) (d : Nat) (S : Sx) (v : Int) (h1 : 0 ≤ v ∧ v < 12) : Ctr l Γ (d + 2) mX3_tookOfBoth [rf Γ 17, vI v] S (pP S (S 19 v.toNat + S 20 v.toNat)) := by
  refine Ctr.of (by decide) rfl rfl (Nat.le_of_ble_eq_true rfl) ?_
  intro κ hl hk hr
  subst hl
  refine G_rload_n hk dX3_tookOfBoth_0 rfl ?_
  refine G_iload_n hk dX3_tookOfBoth_1 rfl ?_
  refine G_cV1P hk dX3_tookOfBoth_2 mvX3_tookOfPerson mlX3_143 (by decide) rfl rfl (Nat.le_of_ble_eq_true rfl) (c_X3_tookOfPerson _ Γ (d + 0) _ _ ⟨by omega, by omega⟩) ?_
  refine G_rload_n hk dX3_tookOfBoth_5 rfl ?_
  refine G_iload_n hk dX3_tookOfBoth_6 rfl ?_
  refine G_cV1P hk dX3_tookOfBoth_7 mvX3_tookOfTwin mlX3_146 (by decide) rfl rfl (Nat.le_of_ble_eq_true rfl) (c_X3_tookOfTwin _ Γ (d + 0) _ _ ⟨by omega, by omega⟩) ?_
  refine G_iadd hk dX3_tookOfBoth_10 ?_
  exact G_iret hk hr dX3_tookOfBoth_11 ⟨by rw [if_pos h1, if_pos h1], rfl⟩

theorem c_X3_drawerOf (l : Launch) (Γ : Ev) (d : Nat) (S : Sx) (v : Int) (h1 : R32 v) (h2 : 0 ≤ S 6 2 ∧ S 6 2 ≤ 12) : Ctr l Γ (d + 2) mX3_drawerOf [rf Γ 17, vI v] S (pP S (if 0 ≤ v ∧ v < S 6 2 then S 11 v.toNat else -1)) := by
  refine Ctr.of (by decide) rfl rfl (Nat.le_of_ble_eq_true rfl) ?_
  intro κ hl hk hr
  subst hl
  refine G_rload_n hk dX3_drawerOf_0 rfl ?_
  refine G_getR hk dX3_drawerOf_1 flX3_29 (by decide) rfl rfl ?_
  refine G_iload_n hk dX3_drawerOf_4 rfl ?_
  refine G_cV1P hk dX3_drawerOf_5 mvX5_drawerOf mlX3_149 (by decide) rfl rfl (Nat.le_of_ble_eq_true rfl) (c_X5_drawerOf _ Γ (d + 0) _ _ ⟨by omega, by omega⟩ ⟨by omega, by omega⟩) ?_
  exact G_iret hk hr dX3_drawerOf_8 ⟨rfl, rfl⟩
