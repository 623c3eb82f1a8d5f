theorem c_X11_in (l : Launch) (Γ : Ev) (d : Nat) (S : Sx) (v lo hi : Int) (h1 : R64 v) (h2 : R64 lo) (h3 : R64 hi) : Ctr l Γ d mX11_in [vL v, vL lo, vL hi] S (pP S (bz (lo ≤ v ∧ v ≤ hi))) := by
  refine Ctr.of (by decide) rfl rfl (Nat.le_of_ble_eq_true rfl) ?_
  intro κ hl hk hr
  subst hl
  refine G_lload_n hk dX11_in_0 rfl ?_
  refine G_lload_n hk dX11_in_1 rfl ?_
  refine G_lcmp hk dX11_in_2 h1 h2 ?_
  refine G_if_lt (tgt := 17) hk dX11_in_3 (by decide) (zcmp_r _ _) (fun h_3 => ?_) (fun h_3 => ?_)
  · rw [zcmp_lt] at h_3
    refine G_iconst hk dX11_in_17 ?_
    exact G_zret hk hr dX11_in_18 (by decide) ⟨by simp only [bz]; split <;> omega, rfl⟩
  · rw [zcmp_lt] at h_3
    refine G_lload_n hk dX11_in_6 rfl ?_
    refine G_lload hk dX11_in_7 rfl ?_
    refine G_lcmp hk dX11_in_9 h1 h3 ?_
    refine G_if_gt (tgt := 17) hk dX11_in_10 (by decide) (zcmp_r _ _) (fun h_10 => ?_) (fun h_10 => ?_)
    · rw [zcmp_gt] at h_10
      refine G_iconst hk dX11_in_17 ?_
      exact G_zret hk hr dX11_in_18 (by decide) ⟨by simp only [bz]; split <;> omega, rfl⟩
    · rw [zcmp_gt] at h_10
      refine G_iconst hk dX11_in_13 ?_
      refine G_goto (tgt := 18) hk dX11_in_14 (by decide) ?_
      exact G_zret hk hr dX11_in_18 (by decide) ⟨by simp only [bz]; split <;> omega, rfl⟩

theorem c_X11_isTwo (l : Launch) (Γ : Ev) (d : Nat) (S : Sx) (v : Int) (h1 : R32 v) : Ctr l Γ (d + 1) mX11_isTwo [vI v] S (pP S (bz (0 ≤ v ∧ v ≤ 1))) := by
  refine Ctr.of (by decide) rfl rfl (Nat.le_of_ble_eq_true rfl) ?_
  intro κ hl hk hr
  subst hl
  refine G_iload_n hk dX11_isTwo_0 rfl ?_
  refine G_i2l hk dX11_isTwo_1 ⟨by omega, by omega⟩ ?_
  refine G_lconst (z := 0) hk dX11_isTwo_2 (by decide) ?_
  refine G_lconst (z := 1) hk dX11_isTwo_3 (by decide) ?_
  refine G_cS3P hk dX11_isTwo_4 msX11_in mlX11_64 (Nat.le_of_ble_eq_true rfl) (c_X11_in _ Γ (d + 0) _ _ _ _ ⟨by omega, by omega⟩ ⟨by omega, by omega⟩ ⟨by omega, by omega⟩) ?_
  exact G_zret hk hr dX11_isTwo_7 (bz_01 _) ⟨rfl, rfl⟩

theorem c_X11_isSheet (l : Launch) (Γ : Ev) (d : Nat) (S : Sx) (v : Int) (h1 : R32 v) : Ctr l Γ (d + 1) mX11_isSheet [vI v] S (pP S (bz (0 ≤ v ∧ v ≤ 3))) := by
  refine Ctr.of (by decide) rfl rfl (Nat.le_of_ble_eq_true rfl) ?_
  intro κ hl hk hr
  subst hl
  refine G_iload_n hk dX11_isSheet_0 rfl ?_
  refine G_i2l hk dX11_isSheet_1 ⟨by omega, by omega⟩ ?_
  refine G_lconst (z := 0) hk dX11_isSheet_2 (by decide) ?_
  refine G_ldc2 (z := (3)) hk dX11_isSheet_3 kcX11_71 (by decide) ?_
  refine G_cS3P hk dX11_isSheet_6 msX11_in mlX11_64 (Nat.le_of_ble_eq_true rfl) (c_X11_in _ Γ (d + 0) _ _ _ _ ⟨by omega, by omega⟩ ⟨by omega, by omega⟩ ⟨by omega, by omega⟩) ?_
  exact G_zret hk hr dX11_isSheet_9 (bz_01 _) ⟨rfl, rfl⟩

theorem c_X11_isAnyone (l : Launch) (Γ : Ev) (d : Nat) (S : Sx) (v : Int) (h1 : R32 v) : Ctr l Γ (d + 1) mX11_isAnyone [vI v] S (pP S (bz (0 ≤ v ∧ v ≤ 7))) := by
  refine Ctr.of (by decide) rfl rfl (Nat.le_of_ble_eq_true rfl) ?_
  intro κ hl hk hr
  subst hl
  refine G_iload_n hk dX11_isAnyone_0 rfl ?_
  refine G_i2l hk dX11_isAnyone_1 ⟨by omega, by omega⟩ ?_
  refine G_lconst (z := 0) hk dX11_isAnyone_2 (by decide) ?_
  refine G_ldc2 (z := (7)) hk dX11_isAnyone_3 kcX11_117 (by decide) ?_
  refine G_cS3P hk dX11_isAnyone_6 msX11_in mlX11_64 (Nat.le_of_ble_eq_true rfl) (c_X11_in _ Γ (d + 0) _ _ _ _ ⟨by omega, by omega⟩ ⟨by omega, by omega⟩ ⟨by omega, by omega⟩) ?_
  exact G_zret hk hr dX11_isAnyone_9 (bz_01 _) ⟨rfl, rfl⟩

theorem c_X11_isYear (l : Launch) (Γ : Ev) (d : Nat) (S : Sx) (v : Int) (h1 : R32 v) : Ctr l Γ (d + 1) mX11_isYear [vI v] S (pP S (bz (0 ≤ v ∧ v ≤ 29))) := by
  refine Ctr.of (by decide) rfl rfl (Nat.le_of_ble_eq_true rfl) ?_
  intro κ hl hk hr
  subst hl
  refine G_iload_n hk dX11_isYear_0 rfl ?_
  refine G_i2l hk dX11_isYear_1 ⟨by omega, by omega⟩ ?_
  refine G_lconst (z := 0) hk dX11_isYear_2 (by decide) ?_
  refine G_ldc2 (z := (29)) hk dX11_isYear_3 kcX11_119 (by decide) ?_
  refine G_cS3P hk dX11_isYear_6 msX11_in mlX11_64 (Nat.le_of_ble_eq_true rfl) (c_X11_in _ Γ (d + 0) _ _ _ _ ⟨by omega, by omega⟩ ⟨by omega, by omega⟩ ⟨by omega, by omega⟩) ?_
  exact G_zret hk hr dX11_isYear_9 (bz_01 _) ⟨rfl, rfl⟩

theorem c_X11_isDrawer (l : Launch) (Γ : Ev) (d : Nat) (S : Sx) (v : Int) (h1 : R32 v) : Ctr l Γ (d + 1) mX11_isDrawer [vI v] S (pP S (bz (0 ≤ v ∧ v ≤ 3))) := by
  refine Ctr.of (by decide) rfl rfl (Nat.le_of_ble_eq_true rfl) ?_
  intro κ hl hk hr
  subst hl
  refine G_iload_n hk dX11_isDrawer_0 rfl ?_
  refine G_i2l hk dX11_isDrawer_1 ⟨by omega, by omega⟩ ?_
  refine G_lconst (z := 0) hk dX11_isDrawer_2 (by decide) ?_
  refine G_ldc2 (z := (3)) hk dX11_isDrawer_3 kcX11_71 (by decide) ?_
  refine G_cS3P hk dX11_isDrawer_6 msX11_in mlX11_64 (Nat.le_of_ble_eq_true rfl) (c_X11_in _ Γ (d + 0) _ _ _ _ ⟨by omega, by omega⟩ ⟨by omega, by omega⟩ ⟨by omega, by omega⟩) ?_
  exact G_zret hk hr dX11_isDrawer_9 (bz_01 _) ⟨rfl, rfl⟩

theorem c_X11_lesser (l : Launch) (Γ : Ev) (d : Nat) (S : Sx) (a b : Int) (h1 : R32 a) (h2 : R32 b) : Ctr l Γ d mX11_lesser [vI a, vI b] S (pP S (if a < b then a else b)) := by
  refine Ctr.of (by decide) rfl rfl (Nat.le_of_ble_eq_true rfl) ?_
  intro κ hl hk hr
  subst hl
  refine G_iload_n hk dX11_lesser_0 rfl ?_
  refine G_iload_n hk dX11_lesser_1 rfl ?_
  refine G_icmp_ge (tgt := 9) hk dX11_lesser_2 (by decide) ⟨by omega, by omega⟩ ⟨by omega, by omega⟩ (fun h_2 => ?_) (fun h_2 => ?_)
  · refine G_iload_n hk dX11_lesser_9 rfl ?_
    exact G_iret hk hr dX11_lesser_10 ⟨by split <;> omega, rfl⟩
  · refine G_iload_n hk dX11_lesser_5 rfl ?_
    refine G_goto (tgt := 10) hk dX11_lesser_6 (by decide) ?_
    exact G_iret hk hr dX11_lesser_10 ⟨by split <;> omega, rfl⟩

theorem c_X11_least0 (l : Launch) (Γ : Ev) (d : Nat) (S : Sx) (a : Int) (h1 : R32 a) : Ctr l Γ d mX11_least0 [vI a] S (pP S (if a < 0 then 0 else a)) := by
  refine Ctr.of (by decide) rfl rfl (Nat.le_of_ble_eq_true rfl) ?_
  intro κ hl hk hr
  subst hl
  refine G_iload_n hk dX11_least0_0 rfl ?_
  refine G_if_ge (tgt := 8) hk dX11_least0_1 (by decide) ⟨by omega, by omega⟩ (fun h_1 => ?_) (fun h_1 => ?_)
  · refine G_iload_n hk dX11_least0_8 rfl ?_
    exact G_iret hk hr dX11_least0_9 ⟨by split <;> omega, rfl⟩
  · refine G_iconst hk dX11_least0_4 ?_
    refine G_goto (tgt := 9) hk dX11_least0_5 (by decide) ?_
    exact G_iret hk hr dX11_least0_9 ⟨by split <;> omega, rfl⟩

theorem c_X11_cut (l : Launch) (Γ : Ev) (d : Nat) (S : Sx) (f v : Int) (h1 : R32 f) : Ctr l Γ d mX11_cut [vI f, vI v] S (pP S (if f = 0 then zb8 v else if f = 1 then zs16 v else v)) := by
  refine Ctr.of (by decide) rfl rfl (Nat.le_of_ble_eq_true rfl) ?_
  intro κ hl hk hr
  subst hl
  refine G_iload_n hk dX11_cut_0 rfl ?_
  refine G_if_ne (tgt := 9) hk dX11_cut_1 (by decide) ⟨by omega, by omega⟩ (fun h_1 => ?_) (fun h_1 => ?_)
  · refine G_iload_n hk dX11_cut_9 rfl ?_
    refine G_iconst hk dX11_cut_10 ?_
    refine G_icmp_ne (tgt := 19) hk dX11_cut_11 (by decide) ⟨by omega, by omega⟩ ⟨by omega, by omega⟩ (fun h_11 => ?_) (fun h_11 => ?_)
    · refine G_iload_n hk dX11_cut_19 rfl ?_
      exact G_iret hk hr dX11_cut_20 ⟨by simp [*], rfl⟩
    · refine G_iload_n hk dX11_cut_14 rfl ?_
      refine G_i2s hk dX11_cut_15 ?_
      refine G_goto (tgt := 20) hk dX11_cut_16 (by decide) ?_
      exact G_iret hk hr dX11_cut_20 ⟨by simp [*], rfl⟩
  · refine G_iload_n hk dX11_cut_4 rfl ?_
    refine G_i2b hk dX11_cut_5 ?_
    refine G_goto (tgt := 20) hk dX11_cut_6 (by decide) ?_
    exact G_iret hk hr dX11_cut_20 ⟨by simp [*], rfl⟩

theorem c_X11_isPerson (l : Launch) (Γ : Ev) (d : Nat) (S : Sx) (v : Int) (h1 : R32 v) (h2 : 0 ≤ S 44 8 ∧ S 44 8 ≤ 8) : Ctr l Γ (d + 1) mX11_isPerson [rf Γ 44, vI v] S (pP S (bz (0 ≤ v ∧ v ≤ S 44 8 - 1))) := by
  refine Ctr.of (by decide) rfl rfl (Nat.le_of_ble_eq_true rfl) ?_
  intro κ hl hk hr
  subst hl
  refine G_iload_n hk dX11_isPerson_0 rfl ?_
  refine G_i2l hk dX11_isPerson_1 ⟨by omega, by omega⟩ ?_
  refine G_lconst (z := 0) hk dX11_isPerson_2 (by decide) ?_
  refine G_rload_n hk dX11_isPerson_3 rfl ?_
  refine G_getI hk dX11_isPerson_4 flX11_97 (by decide) rfl rfl ?_
  refine G_iconst hk dX11_isPerson_7 ?_
  refine G_isub hk dX11_isPerson_8 ?_
  refine G_i2l hk dX11_isPerson_9 ⟨by omega, by omega⟩ ?_
  refine G_cS3P hk dX11_isPerson_10 msX11_in mlX11_64 (Nat.le_of_ble_eq_true rfl) (c_X11_in _ Γ (d + 0) _ _ _ _ ⟨by omega, by omega⟩ ⟨by omega, by omega⟩ ⟨by omega, by omega⟩) ?_
  exact G_zret hk hr dX11_isPerson_13 (bz_01 _) ⟨rfl, rfl⟩

def tw11 (S : Sx) (p : Int) : Int := if S 50 (2 * p + 1).toNat ≠ p ∧ 0 ≤ S 50 (2 * p + 1).toNat ∧ S 50 (2 * p + 1).toNat ≤ S 44 8 - 1 then S 50 (2 * p + 1).toNat else -1

theorem c_X11_twinOf (l : Launch) (Γ : Ev) (d : Nat) (S : Sx) (p : Int) (h1 : 0 ≤ p ∧ p < 8) (h2 : 0 ≤ S 44 8 ∧ S 44 8 ≤ 8) (h3 : R32 (S 50 (2 * p + 1).toNat)) : Ctr l Γ (d + 2) mX11_twinOf [rf Γ 44, vI p] S (pP S (tw11 S p)) := by
  refine Ctr.of (by decide) rfl rfl (Nat.le_of_ble_eq_true rfl) ?_
  intro κ hl hk hr
  subst hl
  refine G_rload_n hk dX11_twinOf_0 rfl ?_
  refine G_getR hk dX11_twinOf_1 flX11_25 (by decide) rfl rfl ?_
  refine G_iconst hk dX11_twinOf_4 ?_
  refine G_iload_n hk dX11_twinOf_5 rfl ?_
  refine G_imul hk dX11_twinOf_6 ?_
  refine G_iconst hk dX11_twinOf_7 ?_
  refine G_iadd hk dX11_twinOf_8 ?_
  refine G_iald hk dX11_twinOf_9 (by decide) rfl (by decide) (by omega) (by omega) ?_
  refine G_istore_n hk dX11_twinOf_10 (by decide) rfl ?_
  refine G_iload_n hk dX11_twinOf_11 rfl ?_
  refine G_iload_n hk dX11_twinOf_12 rfl ?_
  refine G_icmp_eq (tgt := 28) hk dX11_twinOf_13 (by decide) ⟨by omega, by omega⟩ ⟨by omega, by omega⟩ (fun h_13 => ?_) (fun h_13 => ?_)
  · refine G_iconst hk dX11_twinOf_28 ?_
    exact G_iret hk hr dX11_twinOf_29 ⟨by unfold tw11; split <;> omega, rfl⟩
  · refine G_rload_n hk dX11_twinOf_16 rfl ?_
    refine G_iload_n hk dX11_twinOf_17 rfl ?_
    refine G_cV1P hk dX11_twinOf_18 mvX11_isPerson mlX11_121 (by decide) rfl rfl (Nat.le_of_ble_eq_true rfl) (c_X11_isPerson _ Γ (d + 0) _ _ ⟨by omega, by omega⟩ ⟨by omega, by omega⟩) ?_
    refine G_bif_eq (tgt := 28) hk dX11_twinOf_21 (by decide) (fun h_21 => ?_) (fun h_21 => ?_)
    · refine G_iconst hk dX11_twinOf_28 ?_
      exact G_iret hk hr dX11_twinOf_29 ⟨by unfold tw11; split <;> omega, rfl⟩
    · refine G_iload_n hk dX11_twinOf_24 rfl ?_
      refine G_goto (tgt := 29) hk dX11_twinOf_25 (by decide) ?_
      exact G_iret hk hr dX11_twinOf_29 ⟨by unfold tw11; split <;> omega, rfl⟩

theorem c_X10_isWithin (l : Launch) (Γ : Ev) (d : Nat) (S : Sx) (v lo hi : Int) (h1 : R32 v) (h2 : R32 lo) (h3 : R32 hi) : Ctr l Γ d mX10_isWithin [vI v, vI lo, vI hi] S (pP S (bz (lo ≤ v ∧ v ≤ hi))) := by
  refine Ctr.of (by decide) rfl rfl (Nat.le_of_ble_eq_true rfl) ?_
  intro κ hl hk hr
  subst hl
  refine G_iload_n hk dX10_isWithin_0 rfl ?_
  refine G_iload_n hk dX10_isWithin_1 rfl ?_
  refine G_icmp_lt (tgt := 14) hk dX10_isWithin_2 (by decide) ⟨by omega, by omega⟩ ⟨by omega, by omega⟩ (fun h_2 => ?_) (fun h_2 => ?_)
  · refine G_iconst hk dX10_isWithin_14 ?_
    exact G_zret hk hr dX10_isWithin_15 (by decide) ⟨by simp only [bz]; split <;> omega, rfl⟩
  · refine G_iload_n hk dX10_isWithin_5 rfl ?_
    refine G_iload_n hk dX10_isWithin_6 rfl ?_
    refine G_icmp_gt (tgt := 14) hk dX10_isWithin_7 (by decide) ⟨by omega, by omega⟩ ⟨by omega, by omega⟩ (fun h_7 => ?_) (fun h_7 => ?_)
    · refine G_iconst hk dX10_isWithin_14 ?_
      exact G_zret hk hr dX10_isWithin_15 (by decide) ⟨by simp only [bz]; split <;> omega, rfl⟩
    · refine G_iconst hk dX10_isWithin_10 ?_
      refine G_goto (tgt := 15) hk dX10_isWithin_11 (by decide) ?_
      exact G_zret hk hr dX10_isWithin_15 (by decide) ⟨by simp only [bz]; split <;> omega, rfl⟩

theorem c_X10_isYear (l : Launch) (Γ : Ev) (d : Nat) (S : Sx) (v : Int) (h1 : R32 v) : Ctr l Γ (d + 1) mX10_isYear [vI v] S (pP S (bz (0 ≤ v ∧ v ≤ 29))) := by
  refine Ctr.of (by decide) rfl rfl (Nat.le_of_ble_eq_true rfl) ?_
  intro κ hl hk hr
  subst hl
  refine G_iload_n hk dX10_isYear_0 rfl ?_
  refine G_iconst hk dX10_isYear_1 ?_
  refine G_bipush hk dX10_isYear_2 (by decide) ?_
  refine G_cS3P hk dX10_isYear_4 msX10_isWithin mlX10_81 (Nat.le_of_ble_eq_true rfl) (c_X10_isWithin _ Γ (d + 0) _ _ _ _ ⟨by omega, by omega⟩ ⟨by omega, by omega⟩ ⟨by omega, by omega⟩) ?_
  exact G_zret hk hr dX10_isYear_7 (bz_01 _) ⟨rfl, rfl⟩

theorem c_X10_isSize (l : Launch) (Γ : Ev) (d : Nat) (S : Sx) (v : Int) (h1 : R32 v) : Ctr l Γ (d + 1) mX10_isSize [vI v] S (pP S (bz (1 ≤ v ∧ v ≤ 9))) := by
  refine Ctr.of (by decide) rfl rfl (Nat.le_of_ble_eq_true rfl) ?_
  intro κ hl hk hr
  subst hl
  refine G_iload_n hk dX10_isSize_0 rfl ?_
  refine G_iconst hk dX10_isSize_1 ?_
  refine G_bipush hk dX10_isSize_2 (by decide) ?_
  refine G_cS3P hk dX10_isSize_4 msX10_isWithin mlX10_81 (Nat.le_of_ble_eq_true rfl) (c_X10_isWithin _ Γ (d + 0) _ _ _ _ ⟨by omega, by omega⟩ ⟨by omega, by omega⟩ ⟨by omega, by omega⟩) ?_
  exact G_zret hk hr dX10_isSize_7 (bz_01 _) ⟨rfl, rfl⟩

theorem c_X10_isDrawer (l : Launch) (Γ : Ev) (d : Nat) (S : Sx) (v : Int) (h1 : R32 v) : Ctr l Γ (d + 1) mX10_isDrawer [vI v] S (pP S (bz (0 ≤ v ∧ v ≤ 3))) := by
  refine Ctr.of (by decide) rfl rfl (Nat.le_of_ble_eq_true rfl) ?_
  intro κ hl hk hr
  subst hl
  refine G_iload_n hk dX10_isDrawer_0 rfl ?_
  refine G_iconst hk dX10_isDrawer_1 ?_
  refine G_iconst hk dX10_isDrawer_2 ?_
  refine G_cS3P hk dX10_isDrawer_3 msX10_isWithin mlX10_81 (Nat.le_of_ble_eq_true rfl) (c_X10_isWithin _ Γ (d + 0) _ _ _ _ ⟨by omega, by omega⟩ ⟨by omega, by omega⟩ ⟨by omega, by omega⟩) ?_
  exact G_zret hk hr dX10_isDrawer_6 (bz_01 _) ⟨rfl, rfl⟩

theorem c_X10_isSheet (l : Launch) (Γ : Ev) (d : Nat) (S : Sx) (v : Int) (h1 : R32 v) : Ctr l Γ (d + 1) mX10_isSheet [vI v] S (pP S (bz (0 ≤ v ∧ v ≤ 3))) := by
  refine Ctr.of (by decide) rfl rfl (Nat.le_of_ble_eq_true rfl) ?_
  intro κ hl hk hr
  subst hl
  refine G_iload_n hk dX10_isSheet_0 rfl ?_
  refine G_iconst hk dX10_isSheet_1 ?_
  refine G_iconst hk dX10_isSheet_2 ?_
  refine G_cS3P hk dX10_isSheet_3 msX10_isWithin mlX10_81 (Nat.le_of_ble_eq_true rfl) (c_X10_isWithin _ Γ (d + 0) _ _ _ _ ⟨by omega, by omega⟩ ⟨by omega, by omega⟩ ⟨by omega, by omega⟩) ?_
  exact G_zret hk hr dX10_isSheet_6 (bz_01 _) ⟨rfl, rfl⟩

theorem c_X10_isForm (l : Launch) (Γ : Ev) (d : Nat) (S : Sx) (v : Int) (h1 : R32 v) : Ctr l Γ (d + 1) mX10_isForm [vI v] S (pP S (bz (0 ≤ v ∧ v ≤ 2))) := by
  refine Ctr.of (by decide) rfl rfl (Nat.le_of_ble_eq_true rfl) ?_
  intro κ hl hk hr
  subst hl
  refine G_iload_n hk dX10_isForm_0 rfl ?_
  refine G_iconst hk dX10_isForm_1 ?_
  refine G_iconst hk dX10_isForm_2 ?_
  refine G_cS3P hk dX10_isForm_3 msX10_isWithin mlX10_81 (Nat.le_of_ble_eq_true rfl) (c_X10_isWithin _ Γ (d + 0) _ _ _ _ ⟨by omega, by omega⟩ ⟨by omega, by omega⟩ ⟨by omega, by omega⟩) ?_
  exact G_zret hk hr dX10_isForm_6 (bz_01 _) ⟨rfl, rfl⟩

theorem c_X4_has (l : Launch) (Γ : Ev) (d : Nat) (S : Sx) (v : Int) (h1 : R32 v) (h2 : 0 ≤ S 1 5 ∧ S 1 5 ≤ 8) : Ctr l Γ d mX4_has [rf Γ 1, vI v] S (pP S (bz (0 ≤ v ∧ v < S 1 5))) := by
  refine Ctr.of (by decide) rfl rfl (Nat.le_of_ble_eq_true rfl) ?_
  intro κ hl hk hr
  subst hl
  refine G_iload_n hk dX4_has_0 rfl ?_
  refine G_if_lt (tgt := 16) hk dX4_has_1 (by decide) ⟨by omega, by omega⟩ (fun h_1 => ?_) (fun h_1 => ?_)
  · refine G_iconst hk dX4_has_16 ?_
    exact G_zret hk hr dX4_has_17 (by decide) ⟨by simp only [bz]; split <;> omega, rfl⟩
  · refine G_iload_n hk dX4_has_4 rfl ?_
    refine G_rload_n hk dX4_has_5 rfl ?_
    refine G_getI hk dX4_has_6 flX4_28 (by decide) rfl rfl ?_
    refine G_icmp_ge (tgt := 16) hk dX4_has_9 (by decide) ⟨by omega, by omega⟩ ⟨by omega, by omega⟩ (fun h_9 => ?_) (fun h_9 => ?_)
    · refine G_iconst hk dX4_has_16 ?_
      exact G_zret hk hr dX4_has_17 (by decide) ⟨by simp only [bz]; split <;> omega, rfl⟩
    · refine G_iconst hk dX4_has_12 ?_
      refine G_goto (tgt := 17) hk dX4_has_13 (by decide) ?_
      exact G_zret hk hr dX4_has_17 (by decide) ⟨by simp only [bz]; split <;> omega, rfl⟩
