/-! pictures, burnings, what was seen: the class's rows hold what is told -/
def PiR (S : Sx) (n : Nat) (P : Nat → Int) : Prop := RoR S 6 7 8 12 n (fun k => P (4 * k)) ∧ (∀ k, k < n → S 9 k = P (4 * k + 1) ∧ S 10 k = P (4 * k + 2) ∧ S 11 k = P (4 * k + 3))
def BuR (S : Sx) (n : Nat) (B : Nat → Int) : Prop := RoR S 13 14 15 12 n (fun k => B (2 * k)) ∧ (∀ k, k < n → S 16 k = B (2 * k + 1))
def WiR (S : Sx) (n : Nat) (V : Nat → Int) : Prop := RoR S 28 29 30 8 n (fun k => V (3 * k)) ∧ (∀ k, k < n → S 31 k = V (3 * k + 1) ∧ S 32 k = V (3 * k + 2))
theorem PiR_cong {S S2 : Sx} {n : Nat} {P : Nat → Int} (h : PiR S n P) (e : ∀ c, 6 ≤ c → c ≤ 11 → S2 c = S c) : PiR S2 n P := by
  unfold PiR at h ⊢
  refine ⟨RoR_cong h.1 (e _ (by decide) (by decide)) (e _ (by decide) (by decide)) (e _ (by decide) (by decide)), ?_⟩
  rw [e 9 (by decide) (by decide), e 10 (by decide) (by decide), e 11 (by decide) (by decide)]
  exact h.2
theorem BuR_cong {S S2 : Sx} {n : Nat} {B : Nat → Int} (h : BuR S n B) (e : ∀ c, 13 ≤ c → c ≤ 16 → S2 c = S c) : BuR S2 n B := by
  unfold BuR at h ⊢
  refine ⟨RoR_cong h.1 (e _ (by decide) (by decide)) (e _ (by decide) (by decide)) (e _ (by decide) (by decide)), ?_⟩
  rw [e 16 (by decide) (by decide)]
  exact h.2
theorem WiR_cong {S S2 : Sx} {n : Nat} {V : Nat → Int} (h : WiR S n V) (e : ∀ c, 28 ≤ c → c ≤ 32 → S2 c = S c) : WiR S2 n V := by
  unfold WiR at h ⊢
  refine ⟨RoR_cong h.1 (e _ (by decide) (by decide)) (e _ (by decide) (by decide)) (e _ (by decide) (by decide)), ?_⟩
  rw [e 31 (by decide) (by decide), e 32 (by decide) (by decide)]
  exact h.2

theorem c_X5_howMany (l : Launch) (Γ : Ev) (d : Nat) (S : Sx) : Ctr l Γ (d + 1) mX5_howMany [rf Γ 5] S (pP S (S 6 2)) := by
  refine Ctr.of (by decide) rfl rfl (Nat.le_of_ble_eq_true rfl) ?_
  intro κ hl hk hr
  subst hl
  refine G_rload_n hk dX5_howMany_0 rfl ?_
  refine G_getR hk dX5_howMany_1 flX5_14 (by decide) rfl rfl ?_
  refine G_cV0P hk dX5_howMany_4 mvX7_howMany mlX5_30 (by decide) rfl rfl (Nat.le_of_ble_eq_true rfl) (c_rmP _ Γ (d + 0) _) ?_
  exact G_iret hk hr dX5_howMany_7 ⟨rfl, rfl⟩

theorem c_X0_howMany (l : Launch) (Γ : Ev) (d : Nat) (S : Sx) : Ctr l Γ (d + 1) mX0_howMany [rf Γ 12] S (pP S (S 13 2)) := by
  refine Ctr.of (by decide) rfl rfl (Nat.le_of_ble_eq_true rfl) ?_
  intro κ hl hk hr
  subst hl
  refine G_rload_n hk dX0_howMany_0 rfl ?_
  refine G_getR hk dX0_howMany_1 flX0_14 (by decide) rfl rfl ?_
  refine G_cV0P hk dX0_howMany_4 mvX7_howMany mlX0_24 (by decide) rfl rfl (Nat.le_of_ble_eq_true rfl) (c_rmB _ Γ (d + 0) _) ?_
  exact G_iret hk hr dX0_howMany_7 ⟨rfl, rfl⟩

theorem c_X9_howMany (l : Launch) (Γ : Ev) (d : Nat) (S : Sx) : Ctr l Γ (d + 1) mX9_howMany [rf Γ 27] S (pP S (S 28 2)) := by
  refine Ctr.of (by decide) rfl rfl (Nat.le_of_ble_eq_true rfl) ?_
  intro κ hl hk hr
  subst hl
  refine G_rload_n hk dX9_howMany_0 rfl ?_
  refine G_getR hk dX9_howMany_1 flX9_14 (by decide) rfl rfl ?_
  refine G_cV0P hk dX9_howMany_4 mvX7_howMany mlX9_27 (by decide) rfl rfl (Nat.le_of_ble_eq_true rfl) (c_rmW _ Γ (d + 0) _) ?_
  exact G_iret hk hr dX9_howMany_7 ⟨rfl, rfl⟩

theorem c_X5_has (l : Launch) (Γ : Ev) (d : Nat) (S : Sx) (v : Int) (h1 : R32 v) (h2 : 0 ≤ S 6 2 ∧ S 6 2 ≤ 12) : Ctr l Γ d mX5_has [rf Γ 5, vI v] S (pP S (bz (0 ≤ v ∧ v < S 6 2))) := by
  refine Ctr.of (by decide) rfl rfl (Nat.le_of_ble_eq_true rfl) ?_
  intro κ hl hk hr
  subst hl
  refine G_iload_n hk dX5_has_0 rfl ?_
  refine G_if_lt (tgt := 25) hk dX5_has_1 (by decide) ⟨by omega, by omega⟩ (fun h_1 => ?_) (fun h_1 => ?_)
  · refine G_iconst hk dX5_has_25 ?_
    exact G_zret hk hr dX5_has_26 (by decide) ⟨by simp only [bz]; split <;> first | rfl | (exfalso; omega), rfl⟩
  · refine G_iload_n hk dX5_has_4 rfl ?_
    refine G_rload_n hk dX5_has_5 rfl ?_
    refine G_getR hk dX5_has_6 flX5_14 (by decide) rfl rfl ?_
    refine G_getI hk dX5_has_9 flX5_41 (by decide) rfl rfl ?_
    refine G_icmp_ge (tgt := 25) hk dX5_has_12 (by decide) ⟨by omega, by omega⟩ ⟨by omega, by omega⟩ (fun h_12 => ?_) (fun h_12 => ?_)
    · refine G_iconst hk dX5_has_25 ?_
      exact G_zret hk hr dX5_has_26 (by decide) ⟨by simp only [bz]; split <;> first | rfl | (exfalso; omega), rfl⟩
    · refine G_iload_n hk dX5_has_15 rfl ?_
      refine G_bipush hk dX5_has_16 (by decide) ?_
      refine G_icmp_ge (tgt := 25) hk dX5_has_18 (by decide) ⟨by omega, by omega⟩ ⟨by omega, by omega⟩ (fun h_18 => ?_) (fun h_18 => ?_)
      · refine G_iconst hk dX5_has_25 ?_
        exact G_zret hk hr dX5_has_26 (by decide) ⟨by simp only [bz]; split <;> first | rfl | (exfalso; omega), rfl⟩
      · refine G_iconst hk dX5_has_21 ?_
        refine G_goto (tgt := 26) hk dX5_has_22 (by decide) ?_
        exact G_zret hk hr dX5_has_26 (by decide) ⟨by simp only [bz]; split <;> first | rfl | (exfalso; omega), rfl⟩

theorem c_X5_personOn (l : Launch) (Γ : Ev) (d : Nat) (S : Sx) (v : Int) (h1 : R32 v) (h2 : 0 ≤ S 6 2 ∧ S 6 2 ≤ 12) : Ctr l Γ (d + 1) mX5_personOn [rf Γ 5, vI v] S (pP S (if 0 ≤ v ∧ v < S 6 2 then S 9 v.toNat else -1)) := by
  refine Ctr.of (by decide) rfl rfl (Nat.le_of_ble_eq_true rfl) ?_
  intro κ hl hk hr
  subst hl
  refine G_rload_n hk dX5_personOn_0 rfl ?_
  refine G_iload_n hk dX5_personOn_1 rfl ?_
  refine G_cV1P hk dX5_personOn_2 mvX5_has mlX5_37 (by decide) rfl rfl (Nat.le_of_ble_eq_true rfl) (c_X5_has _ Γ (d + 0) _ _ ⟨by omega, by omega⟩ ⟨by omega, by omega⟩) ?_
  refine G_bif_eq (tgt := 17) hk dX5_personOn_5 (by decide) (fun h_5 => ?_) (fun h_5 => ?_)
  · refine G_iconst hk dX5_personOn_17 ?_
    exact G_iret hk hr dX5_personOn_18 ⟨by split <;> first | rfl | (exfalso; omega), rfl⟩
  · refine G_rload_n hk dX5_personOn_8 rfl ?_
    refine G_getR hk dX5_personOn_9 flX5_20 (by decide) rfl rfl ?_
    refine G_iload_n hk dX5_personOn_12 rfl ?_
    refine G_iald hk dX5_personOn_13 (by decide) rfl (by decide) (by omega) (by omega) ?_
    refine G_goto (tgt := 18) hk dX5_personOn_14 (by decide) ?_
    exact G_iret hk hr dX5_personOn_18 ⟨by split <;> first | rfl | (exfalso; omega), rfl⟩

theorem c_X5_sizeOf (l : Launch) (Γ : Ev) (d : Nat) (S : Sx) (v : Int) (h1 : R32 v) (h2 : 0 ≤ S 6 2 ∧ S 6 2 ≤ 12) : Ctr l Γ (d + 1) mX5_sizeOf [rf Γ 5, vI v] S (pP S (if 0 ≤ v ∧ v < S 6 2 then S 10 v.toNat else 0)) := by
  refine Ctr.of (by decide) rfl rfl (Nat.le_of_ble_eq_true rfl) ?_
  intro κ hl hk hr
  subst hl
  refine G_rload_n hk dX5_sizeOf_0 rfl ?_
  refine G_iload_n hk dX5_sizeOf_1 rfl ?_
  refine G_cV1P hk dX5_sizeOf_2 mvX5_has mlX5_37 (by decide) rfl rfl (Nat.le_of_ble_eq_true rfl) (c_X5_has _ Γ (d + 0) _ _ ⟨by omega, by omega⟩ ⟨by omega, by omega⟩) ?_
  refine G_bif_eq (tgt := 17) hk dX5_sizeOf_5 (by decide) (fun h_5 => ?_) (fun h_5 => ?_)
  · refine G_iconst hk dX5_sizeOf_17 ?_
    exact G_iret hk hr dX5_sizeOf_18 ⟨by split <;> first | rfl | (exfalso; omega), rfl⟩
  · refine G_rload_n hk dX5_sizeOf_8 rfl ?_
    refine G_getR hk dX5_sizeOf_9 flX5_24 (by decide) rfl rfl ?_
    refine G_iload_n hk dX5_sizeOf_12 rfl ?_
    refine G_iald hk dX5_sizeOf_13 (by decide) rfl (by decide) (by omega) (by omega) ?_
    refine G_goto (tgt := 18) hk dX5_sizeOf_14 (by decide) ?_
    exact G_iret hk hr dX5_sizeOf_18 ⟨by split <;> first | rfl | (exfalso; omega), rfl⟩

theorem c_X5_drawerOf (l : Launch) (Γ : Ev) (d : Nat) (S : Sx) (v : Int) (h1 : R32 v) (h2 : 0 ≤ S 6 2 ∧ S 6 2 ≤ 12) : Ctr l Γ (d + 1) mX5_drawerOf [rf Γ 5, vI v] S (pP S (if 0 ≤ v ∧ v < S 6 2 then S 11 v.toNat else -1)) := by
  refine Ctr.of (by decide) rfl rfl (Nat.le_of_ble_eq_true rfl) ?_
  intro κ hl hk hr
  subst hl
  refine G_rload_n hk dX5_drawerOf_0 rfl ?_
  refine G_iload_n hk dX5_drawerOf_1 rfl ?_
  refine G_cV1P hk dX5_drawerOf_2 mvX5_has mlX5_37 (by decide) rfl rfl (Nat.le_of_ble_eq_true rfl) (c_X5_has _ Γ (d + 0) _ _ ⟨by omega, by omega⟩ ⟨by omega, by omega⟩) ?_
  refine G_bif_eq (tgt := 17) hk dX5_drawerOf_5 (by decide) (fun h_5 => ?_) (fun h_5 => ?_)
  · refine G_iconst hk dX5_drawerOf_17 ?_
    exact G_iret hk hr dX5_drawerOf_18 ⟨by split <;> first | rfl | (exfalso; omega), rfl⟩
  · refine G_rload_n hk dX5_drawerOf_8 rfl ?_
    refine G_getR hk dX5_drawerOf_9 flX5_27 (by decide) rfl rfl ?_
    refine G_iload_n hk dX5_drawerOf_12 rfl ?_
    refine G_iald hk dX5_drawerOf_13 (by decide) rfl (by decide) (by omega) (by omega) ?_
    refine G_goto (tgt := 18) hk dX5_drawerOf_14 (by decide) ?_
    exact G_iret hk hr dX5_drawerOf_18 ⟨by split <;> first | rfl | (exfalso; omega), rfl⟩

theorem c_X0_pictureOf (l : Launch) (Γ : Ev) (d : Nat) (S : Sx) (v : Int) (h1 : R32 v) (h2 : 0 ≤ S 13 2 ∧ S 13 2 ≤ 12) : Ctr l Γ d mX0_pictureOf [rf Γ 12, vI v] S (pP S (if 0 ≤ v ∧ v < S 13 2 then S 16 v.toNat else -1)) := by
  refine Ctr.of (by decide) rfl rfl (Nat.le_of_ble_eq_true rfl) ?_
  intro κ hl hk hr
  subst hl
  refine G_iload_n hk dX0_pictureOf_0 rfl ?_
  refine G_if_lt (tgt := 30) hk dX0_pictureOf_1 (by decide) ⟨by omega, by omega⟩ (fun h_1 => ?_) (fun h_1 => ?_)
  · refine G_iconst hk dX0_pictureOf_30 ?_
    exact G_iret hk hr dX0_pictureOf_31 ⟨by split <;> first | rfl | (exfalso; omega), rfl⟩
  · refine G_iload_n hk dX0_pictureOf_4 rfl ?_
    refine G_rload_n hk dX0_pictureOf_5 rfl ?_
    refine G_getR hk dX0_pictureOf_6 flX0_14 (by decide) rfl rfl ?_
    refine G_getI hk dX0_pictureOf_9 flX0_31 (by decide) rfl rfl ?_
    refine G_icmp_ge (tgt := 30) hk dX0_pictureOf_12 (by decide) ⟨by omega, by omega⟩ ⟨by omega, by omega⟩ (fun h_12 => ?_) (fun h_12 => ?_)
    · refine G_iconst hk dX0_pictureOf_30 ?_
      exact G_iret hk hr dX0_pictureOf_31 ⟨by split <;> first | rfl | (exfalso; omega), rfl⟩
    · refine G_iload_n hk dX0_pictureOf_15 rfl ?_
      refine G_bipush hk dX0_pictureOf_16 (by decide) ?_
      refine G_icmp_ge (tgt := 30) hk dX0_pictureOf_18 (by decide) ⟨by omega, by omega⟩ ⟨by omega, by omega⟩ (fun h_18 => ?_) (fun h_18 => ?_)
      · refine G_iconst hk dX0_pictureOf_30 ?_
        exact G_iret hk hr dX0_pictureOf_31 ⟨by split <;> first | rfl | (exfalso; omega), rfl⟩
      · refine G_rload_n hk dX0_pictureOf_21 rfl ?_
        refine G_getR hk dX0_pictureOf_22 flX0_20 (by decide) rfl rfl ?_
        refine G_iload_n hk dX0_pictureOf_25 rfl ?_
        refine G_iald hk dX0_pictureOf_26 (by decide) rfl (by decide) (by omega) (by omega) ?_
        refine G_goto (tgt := 31) hk dX0_pictureOf_27 (by decide) ?_
        exact G_iret hk hr dX0_pictureOf_31 ⟨by split <;> first | rfl | (exfalso; omega), rfl⟩

theorem c_X9_clear (l : Launch) (Γ : Ev) (d : Nat) (S : Sx) : Ctr l Γ (d + 1) mX9_clear [rf Γ 27] S (pV (fun S2 => S2 = su S 28 2 0)) := by
  refine Ctr.of (by decide) rfl rfl (Nat.le_of_ble_eq_true rfl) ?_
  intro κ hl hk hr
  subst hl
  refine G_rload_n hk dX9_clear_0 rfl ?_
  refine G_getR hk dX9_clear_1 flX9_14 (by decide) rfl rfl ?_
  refine G_cV0V hk dX9_clear_4 mvX7_clear mlX9_31 (by decide) rfl rfl (Nat.le_of_ble_eq_true rfl) (c_rcW _ Γ (d + 0) _) (fun S_4 hp_4 => ?_)
  exact G_vret hk hr dX9_clear_7 hp_4

theorem c_X5_add0 (l : Launch) (Γ : Ev) (d : Nat) (S : Sx) (y : Int) (p : Int) (z : Int) (w : Int) (h : S 6 2 = 12) : Ctr l Γ (d + 2) mX5_add [rf Γ 5, vI y, vI p, vI z, vI w] S (pP S 0) := by
  refine Ctr.of (by decide) rfl rfl (Nat.le_of_ble_eq_true rfl) ?_
  intro κ hl hk hr
  subst hl
  refine G_rload_n hk dX5_add_0 rfl ?_
  refine G_getR hk dX5_add_1 flX5_14 (by decide) rfl rfl ?_
  refine G_cV0P hk dX5_add_4 mvX7_howMany mlX5_30 (by decide) rfl rfl (Nat.le_of_ble_eq_true rfl) (c_rmP _ Γ (d + 1) _) ?_
  refine G_istore hk dX5_add_7 (by decide) rfl ?_
  refine G_iload hk dX5_add_9 rfl ?_
  refine G_bipush hk dX5_add_11 (by decide) ?_
  refine G_icmp_lt (tgt := 18) hk dX5_add_13 (by decide) ⟨by omega, by omega⟩ ⟨by omega, by omega⟩ (fun h_13 => ?_) (fun h_13 => ?_)
  · exact absurd h_13 (by omega)--stop
  · refine G_iconst hk dX5_add_16 ?_
    exact G_zret hk hr dX5_add_17 (by decide) ⟨rfl, rfl⟩

theorem c_X5_add1 (l : Launch) (Γ : Ev) (d : Nat) (S : Sx) (n : Nat) (P P2 : Nat → Int) (hR : PiR S n P) (hn : n < 12) (y : Int) (p : Int) (z : Int) (w : Int) (hy : 0 ≤ y ∧ y ≤ 29) (h2 : ∀ j, j < 4 * n → P2 j = P j) (e0 : P2 (4 * n + 0) = y) (e1 : P2 (4 * n + 1) = p) (e2 : P2 (4 * n + 2) = z) (e3 : P2 (4 * n + 3) = w) : Ctr l Γ (d + 2) mX5_add [rf Γ 5, vI y, vI p, vI z, vI w] S (pI (fun r S2 => r = 1 ∧ PiR S2 (n + 1) P2 ∧ (∀ c, c ≠ 6 → c ≠ 7 → c ≠ 8 → c ≠ 9 → c ≠ 10 → c ≠ 11 → S2 c = S c))) := by
  refine Ctr.of (by decide) rfl rfl (Nat.le_of_ble_eq_true rfl) ?_
  intro κ hl hk hr
  subst hl
  have g1 := hR.1.1
  refine G_rload_n hk dX5_add_0 rfl ?_
  refine G_getR hk dX5_add_1 flX5_14 (by decide) rfl rfl ?_
  refine G_cV0P hk dX5_add_4 mvX7_howMany mlX5_30 (by decide) rfl rfl (Nat.le_of_ble_eq_true rfl) (c_rmP _ Γ (d + 1) _) ?_
  refine G_istore hk dX5_add_7 (by decide) rfl ?_
  refine G_iload hk dX5_add_9 rfl ?_
  refine G_bipush hk dX5_add_11 (by decide) ?_
  refine G_icmp_lt (tgt := 18) hk dX5_add_13 (by decide) ⟨by omega, by omega⟩ ⟨by omega, by omega⟩ (fun h_13 => ?_) (fun h_13 => ?_)
  · refine G_rload_n hk dX5_add_18 rfl ?_
    refine G_getR hk dX5_add_19 flX5_20 (by decide) rfl rfl ?_
    refine G_iload hk dX5_add_22 rfl ?_
    refine G_iload_n hk dX5_add_24 rfl ?_
    refine G_iast hk dX5_add_25 (by decide) rfl (by decide) (by omega) (by omega) ?_
    refine G_rload_n hk dX5_add_26 rfl ?_
    refine G_getR hk dX5_add_27 flX5_24 (by decide) rfl rfl ?_
    refine G_iload hk dX5_add_30 rfl ?_
    refine G_iload_n hk dX5_add_32 rfl ?_
    refine G_iast hk dX5_add_33 (by decide) rfl (by decide) (by omega) (by omega) ?_
    refine G_rload_n hk dX5_add_34 rfl ?_
    refine G_getR hk dX5_add_35 flX5_27 (by decide) rfl rfl ?_
    refine G_iload hk dX5_add_38 rfl ?_
    refine G_iload hk dX5_add_40 rfl ?_
    refine G_iast hk dX5_add_42 (by decide) rfl (by decide) (by omega) (by omega) ?_
    refine G_rload_n hk dX5_add_43 rfl ?_
    refine G_getR hk dX5_add_44 flX5_14 (by decide) rfl rfl ?_
    refine G_iload_n hk dX5_add_47 rfl ?_
    refine G_cV1V hk dX5_add_48 mvX7_add mlX5_34 (by decide) rfl rfl (Nat.le_of_ble_eq_true rfl) (c_raP _ Γ (d + 0) _ n (fun k => P (4 * k)) (fun k => P2 (4 * k)) (RoR_cong hR.1 (by rw [su_ne _ (by decide : (6 : Nat) ≠ 11), su_ne _ (by decide : (6 : Nat) ≠ 10), su_ne _ (by decide : (6 : Nat) ≠ 9)]) (by rw [su_ne _ (by decide : (7 : Nat) ≠ 11), su_ne _ (by decide : (7 : Nat) ≠ 10), su_ne _ (by decide : (7 : Nat) ≠ 9)]) (by rw [su_ne _ (by decide : (8 : Nat) ≠ 11), su_ne _ (by decide : (8 : Nat) ≠ 10), su_ne _ (by decide : (8 : Nat) ≠ 9)])) hn _ hy (fun j hj => h2 _ (by omega)) e0) (fun S_48 hp_48 => ?_)
    refine G_iconst hk dX5_add_51 ?_
    refine G_zret hk hr dX5_add_52 (by decide) ⟨rfl, ⟨hp_48.1, fun k hk => ?_⟩, fun c c6 c7 c8 c9 c10 c11 => ?_⟩
    · have q0 : (S 6 2).toNat = n := by omega
      have w9 := hp_48.2 9 (by decide) (by decide) (by decide)
      have w10 := hp_48.2 10 (by decide) (by decide) (by decide)
      have w11 := hp_48.2 11 (by decide) (by decide) (by decide)
      rw [w9, w10, w11]
      simp (decide := true) only [su_app, ↓reduceIte]
      rw [q0]
      by_cases e : k = n
      · subst e
        simp only [↓reduceIte]
        exact ⟨e1.symm, e2.symm, e3.symm⟩
      · simp only [if_neg e]
        have := hR.2 k (by omega)
        rw [h2 (4 * k + 1) (by omega), h2 (4 * k + 2) (by omega), h2 (4 * k + 3) (by omega)]
        exact this
    · rw [hp_48.2 c c6 c7 c8, su_ne _ c11, su_ne _ c10, su_ne _ c9]
  · exact absurd h_13 (by omega)--stop

theorem c_X0_add0 (l : Launch) (Γ : Ev) (d : Nat) (S : Sx) (y : Int) (p : Int) (h : S 13 2 = 12) : Ctr l Γ (d + 2) mX0_add [rf Γ 12, vI y, vI p] S (pP S 0) := by
  refine Ctr.of (by decide) rfl rfl (Nat.le_of_ble_eq_true rfl) ?_
  intro κ hl hk hr
  subst hl
  refine G_rload_n hk dX0_add_0 rfl ?_
  refine G_getR hk dX0_add_1 flX0_14 (by decide) rfl rfl ?_
  refine G_cV0P hk dX0_add_4 mvX7_howMany mlX0_24 (by decide) rfl rfl (Nat.le_of_ble_eq_true rfl) (c_rmB _ Γ (d + 1) _) ?_
  refine G_istore_n hk dX0_add_7 (by decide) rfl ?_
  refine G_iload_n hk dX0_add_8 rfl ?_
  refine G_bipush hk dX0_add_9 (by decide) ?_
  refine G_icmp_lt (tgt := 16) hk dX0_add_11 (by decide) ⟨by omega, by omega⟩ ⟨by omega, by omega⟩ (fun h_11 => ?_) (fun h_11 => ?_)
  · exact absurd h_11 (by omega)--stop
  · refine G_iconst hk dX0_add_14 ?_
    exact G_zret hk hr dX0_add_15 (by decide) ⟨rfl, rfl⟩

theorem c_X0_add1 (l : Launch) (Γ : Ev) (d : Nat) (S : Sx) (n : Nat) (P P2 : Nat → Int) (hR : BuR S n P) (hn : n < 12) (y : Int) (p : Int) (hy : 0 ≤ y ∧ y ≤ 29) (h2 : ∀ j, j < 2 * n → P2 j = P j) (e0 : P2 (2 * n + 0) = y) (e1 : P2 (2 * n + 1) = p) : Ctr l Γ (d + 2) mX0_add [rf Γ 12, vI y, vI p] S (pI (fun r S2 => r = 1 ∧ BuR S2 (n + 1) P2 ∧ (∀ c, c ≠ 13 → c ≠ 14 → c ≠ 15 → c ≠ 16 → S2 c = S c))) := by
  refine Ctr.of (by decide) rfl rfl (Nat.le_of_ble_eq_true rfl) ?_
  intro κ hl hk hr
  subst hl
  have g1 := hR.1.1
  refine G_rload_n hk dX0_add_0 rfl ?_
  refine G_getR hk dX0_add_1 flX0_14 (by decide) rfl rfl ?_
  refine G_cV0P hk dX0_add_4 mvX7_howMany mlX0_24 (by decide) rfl rfl (Nat.le_of_ble_eq_true rfl) (c_rmB _ Γ (d + 1) _) ?_
  refine G_istore_n hk dX0_add_7 (by decide) rfl ?_
  refine G_iload_n hk dX0_add_8 rfl ?_
  refine G_bipush hk dX0_add_9 (by decide) ?_
  refine G_icmp_lt (tgt := 16) hk dX0_add_11 (by decide) ⟨by omega, by omega⟩ ⟨by omega, by omega⟩ (fun h_11 => ?_) (fun h_11 => ?_)
  · refine G_rload_n hk dX0_add_16 rfl ?_
    refine G_getR hk dX0_add_17 flX0_20 (by decide) rfl rfl ?_
    refine G_iload_n hk dX0_add_20 rfl ?_
    refine G_iload_n hk dX0_add_21 rfl ?_
    refine G_iast hk dX0_add_22 (by decide) rfl (by decide) (by omega) (by omega) ?_
    refine G_rload_n hk dX0_add_23 rfl ?_
    refine G_getR hk dX0_add_24 flX0_14 (by decide) rfl rfl ?_
    refine G_iload_n hk dX0_add_27 rfl ?_
    refine G_cV1V hk dX0_add_28 mvX7_add mlX0_28 (by decide) rfl rfl (Nat.le_of_ble_eq_true rfl) (c_raB _ Γ (d + 0) _ n (fun k => P (2 * k)) (fun k => P2 (2 * k)) (RoR_cong hR.1 (by rw [su_ne _ (by decide : (13 : Nat) ≠ 16)]) (by rw [su_ne _ (by decide : (14 : Nat) ≠ 16)]) (by rw [su_ne _ (by decide : (15 : Nat) ≠ 16)])) hn _ hy (fun j hj => h2 _ (by omega)) e0) (fun S_28 hp_28 => ?_)
    refine G_iconst hk dX0_add_31 ?_
    refine G_zret hk hr dX0_add_32 (by decide) ⟨rfl, ⟨hp_28.1, fun k hk => ?_⟩, fun c c13 c14 c15 c16 => ?_⟩
    · have q0 : (S 13 2).toNat = n := by omega
      have w16 := hp_28.2 16 (by decide) (by decide) (by decide)
      rw [w16]
      simp (decide := true) only [su_app, ↓reduceIte]
      rw [q0]
      by_cases e : k = n
      · subst e
        simp only [↓reduceIte]
        exact e1.symm
      · simp only [if_neg e]
        have := hR.2 k (by omega)
        rw [h2 (2 * k + 1) (by omega)]
        exact this
    · rw [hp_28.2 c c13 c14 c15, su_ne _ c16]
  · exact absurd h_11 (by omega)--stop

theorem c_X9_add0 (l : Launch) (Γ : Ev) (d : Nat) (S : Sx) (y : Int) (p : Int) (z : Int) (h : S 28 2 = 8) : Ctr l Γ (d + 2) mX9_add [rf Γ 27, vI y, vI p, vI z] S (pP S 0) := by
  refine Ctr.of (by decide) rfl rfl (Nat.le_of_ble_eq_true rfl) ?_
  intro κ hl hk hr
  subst hl
  refine G_rload_n hk dX9_add_0 rfl ?_
  refine G_getR hk dX9_add_1 flX9_14 (by decide) rfl rfl ?_
  refine G_cV0P hk dX9_add_4 mvX7_howMany mlX9_27 (by decide) rfl rfl (Nat.le_of_ble_eq_true rfl) (c_rmW _ Γ (d + 1) _) ?_
  refine G_istore hk dX9_add_7 (by decide) rfl ?_
  refine G_iload hk dX9_add_9 rfl ?_
  refine G_bipush hk dX9_add_11 (by decide) ?_
  refine G_icmp_lt (tgt := 18) hk dX9_add_13 (by decide) ⟨by omega, by omega⟩ ⟨by omega, by omega⟩ (fun h_13 => ?_) (fun h_13 => ?_)
  · exact absurd h_13 (by omega)--stop
  · refine G_iconst hk dX9_add_16 ?_
    exact G_zret hk hr dX9_add_17 (by decide) ⟨rfl, rfl⟩

theorem c_X9_add1 (l : Launch) (Γ : Ev) (d : Nat) (S : Sx) (n : Nat) (P P2 : Nat → Int) (hR : WiR S n P) (hn : n < 8) (y : Int) (p : Int) (z : Int) (hy : 0 ≤ y ∧ y ≤ 29) (h2 : ∀ j, j < 3 * n → P2 j = P j) (e0 : P2 (3 * n + 0) = y) (e1 : P2 (3 * n + 1) = p) (e2 : P2 (3 * n + 2) = z) : Ctr l Γ (d + 2) mX9_add [rf Γ 27, vI y, vI p, vI z] S (pI (fun r S2 => r = 1 ∧ WiR S2 (n + 1) P2 ∧ (∀ c, c ≠ 28 → c ≠ 29 → c ≠ 30 → c ≠ 31 → c ≠ 32 → S2 c = S c))) := by
  refine Ctr.of (by decide) rfl rfl (Nat.le_of_ble_eq_true rfl) ?_
  intro κ hl hk hr
  subst hl
  have g1 := hR.1.1
  refine G_rload_n hk dX9_add_0 rfl ?_
  refine G_getR hk dX9_add_1 flX9_14 (by decide) rfl rfl ?_
  refine G_cV0P hk dX9_add_4 mvX7_howMany mlX9_27 (by decide) rfl rfl (Nat.le_of_ble_eq_true rfl) (c_rmW _ Γ (d + 1) _) ?_
  refine G_istore hk dX9_add_7 (by decide) rfl ?_
  refine G_iload hk dX9_add_9 rfl ?_
  refine G_bipush hk dX9_add_11 (by decide) ?_
  refine G_icmp_lt (tgt := 18) hk dX9_add_13 (by decide) ⟨by omega, by omega⟩ ⟨by omega, by omega⟩ (fun h_13 => ?_) (fun h_13 => ?_)
  · refine G_rload_n hk dX9_add_18 rfl ?_
    refine G_getR hk dX9_add_19 flX9_20 (by decide) rfl rfl ?_
    refine G_iload hk dX9_add_22 rfl ?_
    refine G_iload_n hk dX9_add_24 rfl ?_
    refine G_iast hk dX9_add_25 (by decide) rfl (by decide) (by omega) (by omega) ?_
    refine G_rload_n hk dX9_add_26 rfl ?_
    refine G_getR hk dX9_add_27 flX9_24 (by decide) rfl rfl ?_
    refine G_iload hk dX9_add_30 rfl ?_
    refine G_iload_n hk dX9_add_32 rfl ?_
    refine G_iast hk dX9_add_33 (by decide) rfl (by decide) (by omega) (by omega) ?_
    refine G_rload_n hk dX9_add_34 rfl ?_
    refine G_getR hk dX9_add_35 flX9_14 (by decide) rfl rfl ?_
    refine G_iload_n hk dX9_add_38 rfl ?_
    refine G_cV1V hk dX9_add_39 mvX7_add mlX9_34 (by decide) rfl rfl (Nat.le_of_ble_eq_true rfl) (c_raW _ Γ (d + 0) _ n (fun k => P (3 * k)) (fun k => P2 (3 * k)) (RoR_cong hR.1 (by rw [su_ne _ (by decide : (28 : Nat) ≠ 32), su_ne _ (by decide : (28 : Nat) ≠ 31)]) (by rw [su_ne _ (by decide : (29 : Nat) ≠ 32), su_ne _ (by decide : (29 : Nat) ≠ 31)]) (by rw [su_ne _ (by decide : (30 : Nat) ≠ 32), su_ne _ (by decide : (30 : Nat) ≠ 31)])) hn _ hy (fun j hj => h2 _ (by omega)) e0) (fun S_39 hp_39 => ?_)
    refine G_iconst hk dX9_add_42 ?_
    refine G_zret hk hr dX9_add_43 (by decide) ⟨rfl, ⟨hp_39.1, fun k hk => ?_⟩, fun c c28 c29 c30 c31 c32 => ?_⟩
    · have q0 : (S 28 2).toNat = n := by omega
      have w31 := hp_39.2 31 (by decide) (by decide) (by decide)
      have w32 := hp_39.2 32 (by decide) (by decide) (by decide)
      rw [w31, w32]
      simp (decide := true) only [su_app, ↓reduceIte]
      rw [q0]
      by_cases e : k = n
      · subst e
        simp only [↓reduceIte]
        exact ⟨e1.symm, e2.symm⟩
      · simp only [if_neg e]
        have := hR.2 k (by omega)
        rw [h2 (3 * k + 1) (by omega), h2 (3 * k + 2) (by omega)]
        exact this
    · rw [hp_39.2 c c28 c29 c30, su_ne _ c32, su_ne _ c31]
  · exact absurd h_13 (by omega)--stop
