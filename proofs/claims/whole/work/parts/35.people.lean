theorem okc_iff {j : Nat} {c : Int} : okc j c = true ↔ ((j % 4 < 2 ∧ 48 ≤ c ∧ c ≤ 57) ∨ (j % 4 = 2 ∧ (c = 46 ∨ (97 ≤ c ∧ c ≤ 104))) ∨ (j % 4 = 3 ∧ c = 59)) := by
  unfold okc
  split
  · rw [decide_eq_true_iff]; omega
  · split
    · rw [decide_eq_true_iff]; omega
    · rw [decide_eq_true_iff]; omega
/-- the class's text: n bytes, and what is read of them -/
def PeT (S : Sx) (n : Nat) (t : Nat → Int) : Prop := S 1 3 = (n : Int) ∧ n ≤ 31 ∧ (∀ j, j < n → S 2 j = t j) ∧ (∀ j, j < n → 0 ≤ t j ∧ t j ≤ 255)
def PeR (S : Sx) (n : Nat) (t : Nat → Int) : Prop := PeT S n t ∧ S 1 4 = flt n t ∧ S 1 5 = (npl n t : Int) ∧ (∀ p, p < npl n t → S 3 p = sol0 t p ∧ S 4 p = twn n t p)
theorem PeR_n {S : Sx} {n : Nat} {t : Nat → Int} (h : PeR S n t) : 0 ≤ S 1 5 ∧ S 1 5 ≤ 8 := by
  have h1 := npl_le (t := t) h.1.2.1
  rw [h.2.2.1]
  omega
theorem PeR_cong {S S2 : Sx} {n : Nat} {t : Nat → Int} (h : PeR S n t) (h1 : S2 1 = S 1) (h2 : S2 2 = S 2) (h3 : S2 3 = S 3) (h4 : S2 4 = S 4) : PeR S2 n t := by
  unfold PeR PeT at h ⊢
  rw [h1, h2, h3, h4]
  exact h
def frPe (S S2 : Sx) : Prop := ∀ c, c ≠ 1 → c ≠ 2 → c ≠ 3 → c ≠ 4 → S2 c = S c
def PeK (S : Sx) (n : Nat) (t : Nat → Int) (S1 : Sx) (k : Nat) : Prop := S1 1 3 = (n : Int) ∧ S1 1 4 = -1 ∧ (∀ j, j < n → S1 2 j = t j) ∧ (∀ p, p < k → S1 3 p = sol0 t p ∧ S1 4 p = twn n t p) ∧ frPe S S1
theorem PeK_s {S S1 : Sx} {n k : Nat} {t : Nat → Int} {x y : Int} (h : PeK S n t S1 k) (hx : x = sol0 t k) (hy : y = twn n t k) : PeK S n t (su (su S1 3 k x) 4 k y) (k + 1) := by
  obtain ⟨h1, h2, h3, h4, h5⟩ := h
  refine ⟨?_, ?_, ?_, ?_, ?_⟩
  · simp (decide := true) only [su_app, ↓reduceIte]; exact h1
  · simp (decide := true) only [su_app, ↓reduceIte]; exact h2
  · intro j hj
    simp (decide := true) only [su_app, ↓reduceIte]; exact h3 j hj
  · intro p hp
    simp (decide := true) only [su_app, ↓reduceIte]
    by_cases e : p = k
    · rw [if_pos e, if_pos e, e]; exact ⟨hx, hy⟩
    · rw [if_neg e, if_neg e]; exact h4 p (by omega)
  · intro c c1 c2 c3 c4
    rw [su_ne _ c4, su_ne _ c3]
    exact h5 c c1 c2 c3 c4

theorem c_X4_length (l : Launch) (Γ : Ev) (d : Nat) (S : Sx) : Ctr l Γ d mX4_length [rf Γ 1] S (pP S (S 1 3)) := by
  refine Ctr.of (by decide) rfl rfl (Nat.le_of_ble_eq_true rfl) ?_
  intro κ hl hk hr
  subst hl
  refine G_rload_n hk dX4_length_0 rfl ?_
  refine G_getI hk dX4_length_1 flX4_25 (by decide) rfl rfl ?_
  exact G_iret hk hr dX4_length_4 ⟨rfl, rfl⟩

theorem c_X4_faultPlace (l : Launch) (Γ : Ev) (d : Nat) (S : Sx) : Ctr l Γ d mX4_faultPlace [rf Γ 1] S (pP S (S 1 4)) := by
  refine Ctr.of (by decide) rfl rfl (Nat.le_of_ble_eq_true rfl) ?_
  intro κ hl hk hr
  subst hl
  refine G_rload_n hk dX4_faultPlace_0 rfl ?_
  refine G_getI hk dX4_faultPlace_1 flX4_21 (by decide) rfl rfl ?_
  exact G_iret hk hr dX4_faultPlace_4 ⟨rfl, rfl⟩

theorem c_X4_howMany (l : Launch) (Γ : Ev) (d : Nat) (S : Sx) : Ctr l Γ d mX4_howMany [rf Γ 1] S (pP S (S 1 5)) := by
  refine Ctr.of (by decide) rfl rfl (Nat.le_of_ble_eq_true rfl) ?_
  intro κ hl hk hr
  subst hl
  refine G_rload_n hk dX4_howMany_0 rfl ?_
  refine G_getI hk dX4_howMany_1 flX4_28 (by decide) rfl rfl ?_
  exact G_iret hk hr dX4_howMany_4 ⟨rfl, rfl⟩

theorem c_X4_solidAtFirst (l : Launch) (Γ : Ev) (d : Nat) (S : Sx) (v : Int) (h1 : R32 v) (h2 : 0 ≤ S 1 5 ∧ S 1 5 ≤ 8) : Ctr l Γ (d + 1) mX4_solidAtFirst [rf Γ 1, vI v] S (pP S (if 0 ≤ v ∧ v < S 1 5 then S 3 v.toNat else 0)) := by
  refine Ctr.of (by decide) rfl rfl (Nat.le_of_ble_eq_true rfl) ?_
  intro κ hl hk hr
  subst hl
  refine G_rload_n hk dX4_solidAtFirst_0 rfl ?_
  refine G_iload_n hk dX4_solidAtFirst_1 rfl ?_
  refine G_cV1P hk dX4_solidAtFirst_2 mvX4_has mlX4_31 (by decide) rfl rfl (Nat.le_of_ble_eq_true rfl) (c_X4_has _ Γ (d + 0) _ _ ⟨by omega, by omega⟩ ⟨by omega, by omega⟩) ?_
  refine G_bif_eq (tgt := 17) hk dX4_solidAtFirst_5 (by decide) (fun h_5 => ?_) (fun h_5 => ?_)
  · refine G_iconst hk dX4_solidAtFirst_17 ?_
    exact G_iret hk hr dX4_solidAtFirst_18 ⟨by split <;> first | rfl | (exfalso; omega), rfl⟩
  · refine G_rload_n hk dX4_solidAtFirst_8 rfl ?_
    refine G_getR hk dX4_solidAtFirst_9 flX4_15 (by decide) rfl rfl ?_
    refine G_iload_n hk dX4_solidAtFirst_12 rfl ?_
    refine G_iald hk dX4_solidAtFirst_13 (by decide) rfl (by decide) (by omega) (by omega) ?_
    refine G_goto (tgt := 18) hk dX4_solidAtFirst_14 (by decide) ?_
    exact G_iret hk hr dX4_solidAtFirst_18 ⟨by split <;> first | rfl | (exfalso; omega), rfl⟩

theorem c_X4_twinOf (l : Launch) (Γ : Ev) (d : Nat) (S : Sx) (v : Int) (h1 : R32 v) (h2 : 0 ≤ S 1 5 ∧ S 1 5 ≤ 8) : Ctr l Γ (d + 1) mX4_twinOf [rf Γ 1, vI v] S (pP S (if 0 ≤ v ∧ v < S 1 5 then S 4 v.toNat else -1)) := by
  refine Ctr.of (by decide) rfl rfl (Nat.le_of_ble_eq_true rfl) ?_
  intro κ hl hk hr
  subst hl
  refine G_rload_n hk dX4_twinOf_0 rfl ?_
  refine G_iload_n hk dX4_twinOf_1 rfl ?_
  refine G_cV1P hk dX4_twinOf_2 mvX4_has mlX4_31 (by decide) rfl rfl (Nat.le_of_ble_eq_true rfl) (c_X4_has _ Γ (d + 0) _ _ ⟨by omega, by omega⟩ ⟨by omega, by omega⟩) ?_
  refine G_bif_eq (tgt := 17) hk dX4_twinOf_5 (by decide) (fun h_5 => ?_) (fun h_5 => ?_)
  · refine G_iconst hk dX4_twinOf_17 ?_
    exact G_iret hk hr dX4_twinOf_18 ⟨by split <;> first | rfl | (exfalso; omega), rfl⟩
  · refine G_rload_n hk dX4_twinOf_8 rfl ?_
    refine G_getR hk dX4_twinOf_9 flX4_18 (by decide) rfl rfl ?_
    refine G_iload_n hk dX4_twinOf_12 rfl ?_
    refine G_iald hk dX4_twinOf_13 (by decide) rfl (by decide) (by omega) (by omega) ?_
    refine G_goto (tgt := 18) hk dX4_twinOf_14 (by decide) ?_
    exact G_iret hk hr dX4_twinOf_18 ⟨by split <;> first | rfl | (exfalso; omega), rfl⟩

theorem c_X4_allAtFirst (l : Launch) (Γ : Ev) (d : Nat) (S : Sx) (n : Nat) (h5 : S 1 5 = (n : Int)) (h8 : n ≤ 8) (hr4 : ∀ p, p < n → R32 (S 3 p)) : Ctr l Γ d mX4_allAtFirst [rf Γ 1] S (pP S (ssm (S 3) n)) := by
  refine Ctr.of (by decide) rfl rfl (Nat.le_of_ble_eq_true rfl) ?_
  intro κ hl hk hr
  subst hl
  refine G_iconst hk dX4_allAtFirst_0 ?_
  refine G_istore_n hk dX4_allAtFirst_1 (by decide) rfl ?_
  refine G_iconst hk dX4_allAtFirst_2 ?_
  refine G_istore_n hk dX4_allAtFirst_3 (by decide) rfl ?_
  have lp := loop_up (P := fun k => GW κ Γ 4 [some (rf Γ 1), some (vI (ssm (S 3) k)), some (vI k)] [] (wl Γ S)) n ?_ ?_ 0 (Nat.zero_le _)
  · exact lp
  · refine G_iload_n hk dX4_allAtFirst_4 rfl ?_
    refine G_rload_n hk dX4_allAtFirst_5 rfl ?_
    refine G_getI hk dX4_allAtFirst_6 flX4_28 (by decide) rfl rfl ?_
    refine G_icmp_ge (tgt := 27) hk dX4_allAtFirst_9 (by decide) ⟨by omega, by omega⟩ ⟨by omega, by omega⟩ (fun h_9 => ?_) (fun h_9 => ?_)
    · refine G_iload_n hk dX4_allAtFirst_27 rfl ?_
      exact G_iret hk hr dX4_allAtFirst_28 ⟨rfl, rfl⟩
    · exact absurd h_9 (by omega)--stop
  · intro k hk9 ih
    refine G_iload_n hk dX4_allAtFirst_4 rfl ?_
    refine G_rload_n hk dX4_allAtFirst_5 rfl ?_
    refine G_getI hk dX4_allAtFirst_6 flX4_28 (by decide) rfl rfl ?_
    refine G_icmp_ge (tgt := 27) hk dX4_allAtFirst_9 (by decide) ⟨by omega, by omega⟩ ⟨by omega, by omega⟩ (fun h_9 => ?_) (fun h_9 => ?_)
    · exact absurd h_9 (by omega)--stop
    · refine G_iload_n hk dX4_allAtFirst_12 rfl ?_
      refine G_rload_n hk dX4_allAtFirst_13 rfl ?_
      refine G_getR hk dX4_allAtFirst_14 flX4_15 (by decide) rfl rfl ?_
      refine G_iload_n hk dX4_allAtFirst_17 rfl ?_
      refine G_iald hk dX4_allAtFirst_18 (by decide) rfl (by decide) (by omega) (by omega) ?_
      refine G_iadd hk dX4_allAtFirst_19 ?_
      refine G_istore_n hk dX4_allAtFirst_20 (by decide) rfl ?_
      refine G_iinc hk dX4_allAtFirst_21 rfl (by decide) rfl ?_
      refine G_goto (tgt := 4) hk dX4_allAtFirst_24 (by decide) ?_
      exact ih

theorem c_X4_howManyTwins (l : Launch) (Γ : Ev) (d : Nat) (S : Sx) (n : Nat) (h5 : S 1 5 = (n : Int)) (h8 : n ≤ 8) (hr4 : ∀ p, p < n → R32 (S 4 p)) : Ctr l Γ d mX4_howManyTwins [rf Γ 1] S (pP S (ssm (fun p => if S 4 p = -1 then 0 else 1) n)) := by
  refine Ctr.of (by decide) rfl rfl (Nat.le_of_ble_eq_true rfl) ?_
  intro κ hl hk hr
  subst hl
  refine G_iconst hk dX4_howManyTwins_0 ?_
  refine G_istore_n hk dX4_howManyTwins_1 (by decide) rfl ?_
  refine G_iconst hk dX4_howManyTwins_2 ?_
  refine G_istore_n hk dX4_howManyTwins_3 (by decide) rfl ?_
  have lp := loop_up (P := fun k => GW κ Γ 4 [some (rf Γ 1), some (vI (ssm (fun p => if S 4 p = -1 then 0 else 1) k)), some (vI k)] [] (wl Γ S)) n ?_ ?_ 0 (Nat.zero_le _)
  · exact lp
  · refine G_iload_n hk dX4_howManyTwins_4 rfl ?_
    refine G_rload_n hk dX4_howManyTwins_5 rfl ?_
    refine G_getI hk dX4_howManyTwins_6 flX4_28 (by decide) rfl rfl ?_
    refine G_icmp_ge (tgt := 36) hk dX4_howManyTwins_9 (by decide) ⟨by omega, by omega⟩ ⟨by omega, by omega⟩ (fun h_9 => ?_) (fun h_9 => ?_)
    · refine G_iload_n hk dX4_howManyTwins_36 rfl ?_
      exact G_iret hk hr dX4_howManyTwins_37 ⟨rfl, rfl⟩
    · exact absurd h_9 (by omega)--stop
  · intro k hk9 ih
    refine G_iload_n hk dX4_howManyTwins_4 rfl ?_
    refine G_rload_n hk dX4_howManyTwins_5 rfl ?_
    refine G_getI hk dX4_howManyTwins_6 flX4_28 (by decide) rfl rfl ?_
    refine G_icmp_ge (tgt := 36) hk dX4_howManyTwins_9 (by decide) ⟨by omega, by omega⟩ ⟨by omega, by omega⟩ (fun h_9 => ?_) (fun h_9 => ?_)
    · exact absurd h_9 (by omega)--stop
    · have r4 := hr4 k hk9
      refine G_iload_n hk dX4_howManyTwins_12 rfl ?_
      refine G_rload_n hk dX4_howManyTwins_13 rfl ?_
      refine G_getR hk dX4_howManyTwins_14 flX4_18 (by decide) rfl rfl ?_
      refine G_iload_n hk dX4_howManyTwins_17 rfl ?_
      refine G_iald hk dX4_howManyTwins_18 (by decide) rfl (by decide) (by omega) (by omega) ?_
      rw [show ((k : Int)).toNat = k from rfl]
      refine G_iconst hk dX4_howManyTwins_19 ?_
      refine G_icmp_ne (tgt := 27) hk dX4_howManyTwins_20 (by decide) r4 ⟨by omega, by omega⟩ (fun h_20 => ?_) (fun h_20 => ?_)
      · refine G_iconst hk dX4_howManyTwins_27 ?_
        refine G_iadd hk dX4_howManyTwins_28 ?_
        refine G_istore_n hk dX4_howManyTwins_29 (by decide) rfl ?_
        refine G_iinc hk dX4_howManyTwins_30 rfl (by decide) rfl ?_
        refine G_goto (tgt := 4) hk dX4_howManyTwins_33 (by decide) ?_
        have e9 : ssm (fun p => if S 4 p = -1 then 0 else 1) k + 1 = ssm (fun p => if S 4 p = -1 then 0 else 1) (k + 1) := by
          simp only [ssm]
          congr 1
          rw [if_neg h_20]
        rw [e9]
        exact ih
      · refine G_iconst hk dX4_howManyTwins_23 ?_
        refine G_goto (tgt := 28) hk dX4_howManyTwins_24 (by decide) ?_
        refine G_iadd hk dX4_howManyTwins_28 ?_
        refine G_istore_n hk dX4_howManyTwins_29 (by decide) rfl ?_
        refine G_iinc hk dX4_howManyTwins_30 rfl (by decide) rfl ?_
        refine G_goto (tgt := 4) hk dX4_howManyTwins_33 (by decide) ?_
        have e9 : ssm (fun p => if S 4 p = -1 then 0 else 1) k + 0 = ssm (fun p => if S 4 p = -1 then 0 else 1) (k + 1) := by
          simp only [ssm]
          congr 1
          rw [if_pos (by omega)]
        rw [e9]
        exact ih

theorem c_X4_mayStand (l : Launch) (Γ : Ev) (d : Nat) (S : Sx) (b q : Int) (j : Nat) (h1 : R32 b) (hj : q = (j : Int) % 4) : Ctr l Γ d mX4_mayStand [vI b, vI q] S (pP S (bz (okc j b = true))) := by
  refine Ctr.of (by decide) rfl rfl (Nat.le_of_ble_eq_true rfl) ?_
  intro κ hl hk hr
  subst hl
  refine G_iload_n hk dX4_mayStand_0 rfl ?_
  refine G_iconst hk dX4_mayStand_1 ?_
  refine G_icmp_ge (tgt := 23) hk dX4_mayStand_2 (by decide) ⟨by omega, by omega⟩ ⟨by omega, by omega⟩ (fun h_2 => ?_) (fun h_2 => ?_)
  · refine G_iload_n hk dX4_mayStand_23 rfl ?_
    refine G_iconst hk dX4_mayStand_24 ?_
    refine G_icmp_ne (tgt := 54) hk dX4_mayStand_25 (by decide) ⟨by omega, by omega⟩ ⟨by omega, by omega⟩ (fun h_25 => ?_) (fun h_25 => ?_)
    · refine G_iload_n hk dX4_mayStand_54 rfl ?_
      refine G_bipush hk dX4_mayStand_55 (by decide) ?_
      refine G_icmp_ne (tgt := 64) hk dX4_mayStand_57 (by decide) ⟨by omega, by omega⟩ ⟨by omega, by omega⟩ (fun h_57 => ?_) (fun h_57 => ?_)
      · refine G_iconst hk dX4_mayStand_64 ?_
        exact G_zret hk hr dX4_mayStand_65 (by decide) ⟨by simp only [bz, okc_iff]; split <;> first | rfl | (exfalso; omega), rfl⟩
      · refine G_iconst hk dX4_mayStand_60 ?_
        refine G_goto (tgt := 65) hk dX4_mayStand_61 (by decide) ?_
        exact G_zret hk hr dX4_mayStand_65 (by decide) ⟨by simp only [bz, okc_iff]; split <;> first | rfl | (exfalso; omega), rfl⟩
    · refine G_iload_n hk dX4_mayStand_28 rfl ?_
      refine G_bipush hk dX4_mayStand_29 (by decide) ?_
      refine G_icmp_eq (tgt := 46) hk dX4_mayStand_31 (by decide) ⟨by omega, by omega⟩ ⟨by omega, by omega⟩ (fun h_31 => ?_) (fun h_31 => ?_)
      · refine G_iconst hk dX4_mayStand_46 ?_
        refine G_goto (tgt := 65) hk dX4_mayStand_47 (by decide) ?_
        exact G_zret hk hr dX4_mayStand_65 (by decide) ⟨by simp only [bz, okc_iff]; split <;> first | rfl | (exfalso; omega), rfl⟩
      · refine G_iload_n hk dX4_mayStand_34 rfl ?_
        refine G_bipush hk dX4_mayStand_35 (by decide) ?_
        refine G_icmp_lt (tgt := 50) hk dX4_mayStand_37 (by decide) ⟨by omega, by omega⟩ ⟨by omega, by omega⟩ (fun h_37 => ?_) (fun h_37 => ?_)
        · refine G_iconst hk dX4_mayStand_50 ?_
          refine G_goto (tgt := 65) hk dX4_mayStand_51 (by decide) ?_
          exact G_zret hk hr dX4_mayStand_65 (by decide) ⟨by simp only [bz, okc_iff]; split <;> first | rfl | (exfalso; omega), rfl⟩
        · refine G_iload_n hk dX4_mayStand_40 rfl ?_
          refine G_bipush hk dX4_mayStand_41 (by decide) ?_
          refine G_icmp_gt (tgt := 50) hk dX4_mayStand_43 (by decide) ⟨by omega, by omega⟩ ⟨by omega, by omega⟩ (fun h_43 => ?_) (fun h_43 => ?_)
          · refine G_iconst hk dX4_mayStand_50 ?_
            refine G_goto (tgt := 65) hk dX4_mayStand_51 (by decide) ?_
            exact G_zret hk hr dX4_mayStand_65 (by decide) ⟨by simp only [bz, okc_iff]; split <;> first | rfl | (exfalso; omega), rfl⟩
          · refine G_iconst hk dX4_mayStand_46 ?_
            refine G_goto (tgt := 65) hk dX4_mayStand_47 (by decide) ?_
            exact G_zret hk hr dX4_mayStand_65 (by decide) ⟨by simp only [bz, okc_iff]; split <;> first | rfl | (exfalso; omega), rfl⟩
  · refine G_iload_n hk dX4_mayStand_5 rfl ?_
    refine G_bipush hk dX4_mayStand_6 (by decide) ?_
    refine G_icmp_lt (tgt := 21) hk dX4_mayStand_8 (by decide) ⟨by omega, by omega⟩ ⟨by omega, by omega⟩ (fun h_8 => ?_) (fun h_8 => ?_)
    · refine G_iconst hk dX4_mayStand_21 ?_
      exact G_zret hk hr dX4_mayStand_22 (by decide) ⟨by simp only [bz, okc_iff]; split <;> first | rfl | (exfalso; omega), rfl⟩
    · refine G_iload_n hk dX4_mayStand_11 rfl ?_
      refine G_bipush hk dX4_mayStand_12 (by decide) ?_
      refine G_icmp_gt (tgt := 21) hk dX4_mayStand_14 (by decide) ⟨by omega, by omega⟩ ⟨by omega, by omega⟩ (fun h_14 => ?_) (fun h_14 => ?_)
      · refine G_iconst hk dX4_mayStand_21 ?_
        exact G_zret hk hr dX4_mayStand_22 (by decide) ⟨by simp only [bz, okc_iff]; split <;> first | rfl | (exfalso; omega), rfl⟩
      · refine G_iconst hk dX4_mayStand_17 ?_
        refine G_goto (tgt := 22) hk dX4_mayStand_18 (by decide) ?_
        exact G_zret hk hr dX4_mayStand_22 (by decide) ⟨by simp only [bz, okc_iff]; split <;> first | rfl | (exfalso; omega), rfl⟩

theorem c_X4_findFault (l : Launch) (Γ : Ev) (d : Nat) (S : Sx) (n : Nat) (t : Nat → Int) (hT : PeT S n t) : Ctr l Γ (d + 1) mX4_findFault [rf Γ 1] S (pP S (flt n t)) := by
  refine Ctr.of (by decide) rfl rfl (Nat.le_of_ble_eq_true rfl) ?_
  intro κ hl hk hr
  subst hl
  have h3 := hT.1
  have h31 := hT.2.1
  refine G_iconst hk dX4_findFault_0 ?_
  refine G_istore_n hk dX4_findFault_1 (by decide) rfl ?_
  have lp := loop_up (P := fun k => (∀ j, j < k → okc j (t j) = true) → GW κ Γ 2 [some (rf Γ 1), some (vI k)] [] (wl Γ S)) n ?_ ?_ 0 (Nat.zero_le _)
  · exact lp (fun j hj => absurd hj (by omega))
  · intro hok
    refine G_iload_n hk dX4_findFault_2 rfl ?_
    refine G_rload_n hk dX4_findFault_3 rfl ?_
    refine G_getI hk dX4_findFault_4 flX4_25 (by decide) rfl rfl ?_
    refine G_icmp_ge (tgt := 33) hk dX4_findFault_7 (by decide) ⟨by omega, by omega⟩ ⟨by omega, by omega⟩ (fun h_7 => ?_) (fun h_7 => ?_)
    · refine G_rload_n hk dX4_findFault_33 rfl ?_
      refine G_getI hk dX4_findFault_34 flX4_25 (by decide) rfl rfl ?_
      refine G_if_eq (tgt := 50) hk dX4_findFault_37 (by decide) ⟨by omega, by omega⟩ (fun h_37 => ?_) (fun h_37 => ?_)
      · refine G_iconst hk dX4_findFault_50 ?_
        refine G_goto (tgt := 58) hk dX4_findFault_51 (by decide) ?_
        exact G_iret hk hr dX4_findFault_58 ⟨(by rw [(flt_well hok (by omega)).1]), rfl⟩
      · refine G_rload_n hk dX4_findFault_40 rfl ?_
        refine G_getI hk dX4_findFault_41 flX4_25 (by decide) rfl rfl ?_
        refine G_iconst hk dX4_findFault_44 ?_
        refine G_irem hk dX4_findFault_45 (by omega) (by omega) (by omega) (by omega) ?_
        refine G_iconst hk dX4_findFault_46 ?_
        refine G_icmp_ne (tgt := 54) hk dX4_findFault_47 (by decide) ⟨by omega, by omega⟩ ⟨by omega, by omega⟩ (fun h_47 => ?_) (fun h_47 => ?_)
        · refine G_rload_n hk dX4_findFault_54 rfl ?_
          refine G_getI hk dX4_findFault_55 flX4_25 (by decide) rfl rfl ?_
          exact G_iret hk hr dX4_findFault_58 ⟨(by rw [(flt_bad hok (Nat.le_refl n) (fun h => absurd h (by omega)) (fun _ h => by omega)).1]; exact h3), rfl⟩
        · refine G_iconst hk dX4_findFault_50 ?_
          refine G_goto (tgt := 58) hk dX4_findFault_51 (by decide) ?_
          exact G_iret hk hr dX4_findFault_58 ⟨(by rw [(flt_well hok (by omega)).1]), rfl⟩
    · exact absurd h_7 (by omega)--stop
  · intro k hk9 ih hok
    refine G_iload_n hk dX4_findFault_2 rfl ?_
    refine G_rload_n hk dX4_findFault_3 rfl ?_
    refine G_getI hk dX4_findFault_4 flX4_25 (by decide) rfl rfl ?_
    refine G_icmp_ge (tgt := 33) hk dX4_findFault_7 (by decide) ⟨by omega, by omega⟩ ⟨by omega, by omega⟩ (fun h_7 => ?_) (fun h_7 => ?_)
    · exact absurd h_7 (by omega)--stop
    · refine G_rload_n hk dX4_findFault_10 rfl ?_
      refine G_getR hk dX4_findFault_11 flX4_9 (by decide) rfl rfl ?_
      refine G_iload_n hk dX4_findFault_14 rfl ?_
      refine G_iald hk dX4_findFault_15 (by decide) rfl (by decide) (by omega) (by omega) ?_
      rw [show ((k : Int)).toNat = k from rfl]
      refine G_iload_n hk dX4_findFault_16 rfl ?_
      refine G_iconst hk dX4_findFault_17 ?_
      refine G_irem hk dX4_findFault_18 (by omega) (by omega) (by omega) (by omega) ?_
      refine G_cS2P hk dX4_findFault_19 msX4_mayStand mlX4_42 (Nat.le_of_ble_eq_true rfl) (c_X4_mayStand _ Γ (d + 0) _ _ _ k (by rw [hT.2.2.1 k hk9]; have := hT.2.2.2 k hk9; exact ⟨by omega, by omega⟩) rfl) ?_
      refine G_bif_ne (tgt := 27) hk dX4_findFault_22 (by decide) (fun h_22 => ?_) (fun h_22 => ?_)
      · refine G_iinc hk dX4_findFault_27 rfl (by decide) rfl ?_
        refine G_goto (tgt := 2) hk dX4_findFault_30 (by decide) ?_
        refine ih (fun j hj => ?_)
        by_cases e : j = k
        · rw [e]; rw [hT.2.2.1 k hk9] at h_22; exact h_22
        · exact hok j (by omega)
      · refine G_iload_n hk dX4_findFault_25 rfl ?_
        exact G_iret hk hr dX4_findFault_26 ⟨(by rw [(flt_bad hok (by omega) (fun _ => by rw [hT.2.2.1 k hk9] at h_22; exact h_22) (fun h => absurd h (by omega))).1]), rfl⟩

theorem PeK_e {S S1 : Sx} {n : Nat} {t : Nat → Int} (hF : flt n t = -1) (hN : npl n t = (n + 1) / 4) (hT : PeT S n t) (h : PeK S n t S1 ((n + 1) / 4)) : PeR (su S1 1 5 (((n + 1) / 4 : Nat) : Int)) n t ∧ frPe S (su S1 1 5 (((n + 1) / 4 : Nat) : Int)) := by
  obtain ⟨h1, h2, h3, h4, h5⟩ := h
  refine ⟨⟨⟨?_, hT.2.1, ?_, hT.2.2.2⟩, ?_, ?_, ?_⟩, ?_⟩
  · simp (decide := true) only [su_app, ↓reduceIte]; exact h1
  · intro j hj
    simp (decide := true) only [su_app, ↓reduceIte]; exact h3 j hj
  · simp (decide := true) only [su_app, ↓reduceIte]; rw [h2, hF]
  · simp (decide := true) only [su_app, ↓reduceIte]; rw [hN]
  · intro p hp
    rw [hN] at hp
    simp (decide := true) only [su_app, ↓reduceIte]; exact h4 p hp
  · intro c c1 c2 c3 c4
    rw [su_ne _ c1]
    exact h5 c c1 c2 c3 c4
theorem PeR_b {S : Sx} {n : Nat} {t : Nat → Int} (hF : ¬ flt n t = -1) (hT : PeT S n t) : PeR (su (su S 1 4 (flt n t)) 1 5 0) n t ∧ frPe S (su (su S 1 4 (flt n t)) 1 5 0) := by
  have hN : npl n t = 0 := by unfold npl; rw [if_neg hF]
  obtain ⟨h1, h2, h3, h4⟩ := hT
  refine ⟨⟨⟨?_, h2, ?_, h4⟩, ?_, ?_, ?_⟩, ?_⟩
  · simp (decide := true) only [su_app, ↓reduceIte]; exact h1
  · intro j hj
    simp (decide := true) only [su_app, ↓reduceIte]; exact h3 j hj
  · simp (decide := true) only [su_app, ↓reduceIte]
  · simp (decide := true) only [su_app, ↓reduceIte]; rw [hN]; rfl
  · intro p hp
    omega
  · intro c c1 c2 c3 c4
    rw [su_ne _ c1, su_ne _ c1]
theorem flt_ok {n : Nat} {t : Nat → Int} (hF : flt n t = -1) : (∀ j, j < n → okc j (t j) = true) ∧ (n = 0 ∨ n % 4 = 3) := by
  have h1 := fbad_le t n
  unfold flt at hF
  split at hF
  · omega
  · split at hF
    · next h2 h3 => exact ⟨fun j hj => fbad_ok t n j (by omega), h3⟩
    · omega
theorem flt_r {n : Nat} {t : Nat → Int} (h : n ≤ 31) : -1 ≤ flt n t ∧ flt n t ≤ 31 := by
  have h1 := fbad_le t n
  unfold flt
  split
  · omega
  · split <;> omega

theorem c_X4_readText (l : Launch) (Γ : Ev) (d : Nat) (S : Sx) (n : Nat) (t : Nat → Int) (hT : PeT S n t) : Ctr l Γ (d + 2) mX4_readText [rf Γ 1] S (pV (fun S2 => PeR S2 n t ∧ frPe S S2)) := by
  refine Ctr.of (by decide) rfl rfl (Nat.le_of_ble_eq_true rfl) ?_
  intro κ hl hk hr
  subst hl
  have h3 := hT.1
  have h31 := hT.2.1
  have hfr := flt_r (t := t) h31
  refine G_rload_n hk dX4_readText_0 rfl ?_
  refine G_rload_n hk dX4_readText_1 rfl ?_
  refine G_cV0P hk dX4_readText_2 mvX4_findFault mlX4_38 (by decide) rfl rfl (Nat.le_of_ble_eq_true rfl) (c_X4_findFault _ Γ (d + 0) _ n t hT) ?_
  refine G_putI hk dX4_readText_5 flX4_21 fpX4_4 (by decide) rfl rfl ?_
  refine G_rload_n hk dX4_readText_8 rfl ?_
  refine G_iconst hk dX4_readText_9 ?_
  refine G_putI hk dX4_readText_10 flX4_28 fpX4_5 (by decide) rfl rfl ?_
  refine G_rload_n hk dX4_readText_13 rfl ?_
  refine G_getI hk dX4_readText_14 flX4_21 (by decide) rfl rfl ?_
  try simp (decide := true) only [su_app, sr_app, ↓reduceIte]
  refine G_iconst hk dX4_readText_17 ?_
  refine G_icmp_eq (tgt := 22) hk dX4_readText_18 (by decide) ⟨by omega, by omega⟩ ⟨by omega, by omega⟩ (fun h_18 => ?_) (fun h_18 => ?_)
  · have hF : flt n t = -1 := by omega
    obtain ⟨hok, hz⟩ := flt_ok hF
    have hN := (flt_well hok hz).2
    refine G_rload_n hk dX4_readText_22 rfl ?_
    refine G_getI hk dX4_readText_23 flX4_25 (by decide) rfl rfl ?_
    try simp (decide := true) only [su_app, sr_app, ↓reduceIte]
    refine G_iconst hk dX4_readText_26 ?_
    refine G_iadd hk dX4_readText_27 ?_
    refine G_iconst hk dX4_readText_28 ?_
    refine G_idiv hk dX4_readText_29 (by omega) (by omega) (by omega) (by omega) ?_
    rw [h3, show ((n : Int) + 1) / 4 = (((n + 1) / 4 : Nat) : Int) by omega]
    refine G_istore_n hk dX4_readText_30 (by decide) rfl ?_
    refine G_iconst hk dX4_readText_31 ?_
    refine G_istore_n hk dX4_readText_32 (by decide) rfl ?_
    have lp := loop_up (P := fun k => ∀ (S1 : Sx) (w3 w4 : Option Value), PeK S n t S1 k → GW κ Γ 33 [some (rf Γ 1), some (vI (((n + 1) / 4 : Nat) : Int)), some (vI k), w3, w4] [] (wl Γ S1)) ((n + 1) / 4) ?_ ?_ 0 (Nat.zero_le _)
    · refine GW_L rfl (lp _ none none ⟨?_, ?_, ?_, fun p hp => absurd hp (by omega), ?_⟩)
      · simp (decide := true) only [su_app, ↓reduceIte]; exact h3
      · simp (decide := true) only [su_app, ↓reduceIte]; exact hF
      · intro j hj
        simp (decide := true) only [su_app, ↓reduceIte]; exact hT.2.2.1 j hj
      · intro c c1 c2 c3 c4
        rw [su_ne _ c1, su_ne _ c1]
    · intro S1 w3 w4 ⟨g1, g2, g3, g4, g5⟩
      refine G_iload_n hk dX4_readText_33 rfl ?_
      refine G_iload_n hk dX4_readText_34 rfl ?_
      refine G_icmp_ge (tgt := 120) hk dX4_readText_35 (by decide) ⟨by omega, by omega⟩ ⟨by omega, by omega⟩ (fun h_35 => ?_) (fun h_35 => ?_)
      · refine G_rload_n hk dX4_readText_120 rfl ?_
        refine G_iload_n hk dX4_readText_121 rfl ?_
        refine G_putI hk dX4_readText_122 flX4_28 fpX4_5 (by decide) rfl rfl ?_
        exact G_vret hk hr dX4_readText_125 (PeK_e hF hN hT ⟨g1, g2, g3, g4, g5⟩)
      · exact absurd h_35 (by omega)--stop
    · intro k hk9 ih S1 w3 w4 hP
      obtain ⟨g1, g2, g3, g4, g5⟩ := id hP
      have a0 := okc_iff.mp (hok (4 * k) (by omega))
      have a1 := okc_iff.mp (hok (4 * k + 1) (by omega))
      have a2 := okc_iff.mp (hok (4 * k + 2) (by omega))
      refine G_iload_n hk dX4_readText_33 rfl ?_
      refine G_iload_n hk dX4_readText_34 rfl ?_
      refine G_icmp_ge (tgt := 120) hk dX4_readText_35 (by decide) ⟨by omega, by omega⟩ ⟨by omega, by omega⟩ (fun h_35 => ?_) (fun h_35 => ?_)
      · exact absurd h_35 (by omega)--stop
      · refine G_iload_n hk dX4_readText_38 rfl ?_
        refine G_iconst hk dX4_readText_39 ?_
        refine G_imul hk dX4_readText_40 ?_
        refine G_istore_n hk dX4_readText_41 (by decide) rfl ?_
        refine G_rload_n hk dX4_readText_42 rfl ?_
        refine G_getR hk dX4_readText_43 flX4_9 (by decide) rfl rfl ?_
        refine G_iload_n hk dX4_readText_46 rfl ?_
        refine G_iconst hk dX4_readText_47 ?_
        refine G_iadd hk dX4_readText_48 ?_
        refine G_iald hk dX4_readText_49 (by decide) rfl (by decide) (by omega) (by omega) ?_
        rw [show ((k : Int) * 4 + 2).toNat = 4 * k + 2 by omega, g3 _ (by omega)]
        refine G_bipush hk dX4_readText_50 (by decide) ?_
        refine G_isub hk dX4_readText_52 ?_
        refine G_istore hk dX4_readText_53 (by decide) rfl ?_
        refine G_rload_n hk dX4_readText_55 rfl ?_
        refine G_getR hk dX4_readText_56 flX4_15 (by decide) rfl rfl ?_
        refine G_iload_n hk dX4_readText_59 rfl ?_
        refine G_rload_n hk dX4_readText_60 rfl ?_
        refine G_getR hk dX4_readText_61 flX4_9 (by decide) rfl rfl ?_
        refine G_iload_n hk dX4_readText_64 rfl ?_
        refine G_iald hk dX4_readText_65 (by decide) rfl (by decide) (by omega) (by omega) ?_
        rw [show ((k : Int) * 4).toNat = 4 * k by omega, g3 _ (by omega)]
        refine G_bipush hk dX4_readText_66 (by decide) ?_
        refine G_isub hk dX4_readText_68 ?_
        refine G_bipush hk dX4_readText_69 (by decide) ?_
        refine G_imul hk dX4_readText_71 ?_
        refine G_rload_n hk dX4_readText_72 rfl ?_
        refine G_getR hk dX4_readText_73 flX4_9 (by decide) rfl rfl ?_
        refine G_iload_n hk dX4_readText_76 rfl ?_
        refine G_iconst hk dX4_readText_77 ?_
        refine G_iadd hk dX4_readText_78 ?_
        refine G_iald hk dX4_readText_79 (by decide) rfl (by decide) (by omega) (by omega) ?_
        rw [show ((k : Int) * 4 + 1).toNat = 4 * k + 1 by omega, g3 _ (by omega)]
        refine G_iadd hk dX4_readText_80 ?_
        refine G_bipush hk dX4_readText_81 (by decide) ?_
        refine G_isub hk dX4_readText_83 ?_
        refine G_iast hk dX4_readText_84 (by decide) rfl (by decide) (by omega) (by omega) ?_
        refine G_rload_n hk dX4_readText_85 rfl ?_
        refine G_getR hk dX4_readText_86 flX4_18 (by decide) rfl rfl ?_
        refine G_iload_n hk dX4_readText_89 rfl ?_
        refine G_iload hk dX4_readText_90 rfl ?_
        refine G_if_lt (tgt := 107) hk dX4_readText_92 (by decide) ⟨by omega, by omega⟩ (fun h_92 => ?_) (fun h_92 => ?_)
        · refine G_iconst hk dX4_readText_107 ?_
          refine G_goto (tgt := 113) hk dX4_readText_108 (by decide) ?_
          refine G_iast hk dX4_readText_113 (by decide) rfl (by decide) (by omega) (by omega) ?_
          rw [show ((k : Int)).toNat = k from rfl]
          refine G_iinc hk dX4_readText_114 rfl (by decide) rfl ?_
          refine G_goto (tgt := 33) hk dX4_readText_117 (by decide) ?_
          refine ih _ _ _ (PeK_s hP (by unfold sol0; omega) ?_)
          unfold twn twl
          rw [hN]
          (repeat' split) <;> omega
        · refine G_iload hk dX4_readText_95 rfl ?_
          refine G_iload_n hk dX4_readText_97 rfl ?_
          refine G_icmp_ge (tgt := 107) hk dX4_readText_98 (by decide) ⟨by omega, by omega⟩ ⟨by omega, by omega⟩ (fun h_98 => ?_) (fun h_98 => ?_)
          · refine G_iconst hk dX4_readText_107 ?_
            refine G_goto (tgt := 113) hk dX4_readText_108 (by decide) ?_
            refine G_iast hk dX4_readText_113 (by decide) rfl (by decide) (by omega) (by omega) ?_
            rw [show ((k : Int)).toNat = k from rfl]
            refine G_iinc hk dX4_readText_114 rfl (by decide) rfl ?_
            refine G_goto (tgt := 33) hk dX4_readText_117 (by decide) ?_
            refine ih _ _ _ (PeK_s hP (by unfold sol0; omega) ?_)
            unfold twn twl
            rw [hN]
            (repeat' split) <;> omega
          · refine G_iload hk dX4_readText_101 rfl ?_
            refine G_iload_n hk dX4_readText_103 rfl ?_
            refine G_icmp_ne (tgt := 111) hk dX4_readText_104 (by decide) ⟨by omega, by omega⟩ ⟨by omega, by omega⟩ (fun h_104 => ?_) (fun h_104 => ?_)
            · refine G_iload hk dX4_readText_111 rfl ?_
              refine G_iast hk dX4_readText_113 (by decide) rfl (by decide) (by omega) (by omega) ?_
              rw [show ((k : Int)).toNat = k from rfl]
              refine G_iinc hk dX4_readText_114 rfl (by decide) rfl ?_
              refine G_goto (tgt := 33) hk dX4_readText_117 (by decide) ?_
              refine ih _ _ _ (PeK_s hP (by unfold sol0; omega) ?_)
              unfold twn twl
              rw [hN]
              (repeat' split) <;> omega
            · refine G_iconst hk dX4_readText_107 ?_
              refine G_goto (tgt := 113) hk dX4_readText_108 (by decide) ?_
              refine G_iast hk dX4_readText_113 (by decide) rfl (by decide) (by omega) (by omega) ?_
              rw [show ((k : Int)).toNat = k from rfl]
              refine G_iinc hk dX4_readText_114 rfl (by decide) rfl ?_
              refine G_goto (tgt := 33) hk dX4_readText_117 (by decide) ?_
              refine ih _ _ _ (PeK_s hP (by unfold sol0; omega) ?_)
              unfold twn twl
              rw [hN]
              (repeat' split) <;> omega
  · exact G_vret hk hr dX4_readText_21 (PeR_b h_18 hT)

theorem PeT_app {S : Sx} {n : Nat} {t t2 : Nat → Int} {b : Int} (hT : PeT S n t) (hn : n < 31) (hb : 0 ≤ b ∧ b ≤ 255) (h2 : ∀ j, j < n → t2 j = t j) (h2b : t2 n = b) (e3 : (S 1 3).toNat = n) : PeT (su (su S 2 (S 1 3).toNat b) 1 3 (S 1 3 + 1)) (n + 1) t2 := by
  obtain ⟨h1, _, h3, h4⟩ := hT
  refine ⟨?_, by omega, ?_, ?_⟩
  · simp (decide := true) only [su_app, ↓reduceIte]; rw [h1]; rfl
  · intro j hj
    simp (decide := true) only [su_app, ↓reduceIte]; rw [e3]
    by_cases e : j = n
    · rw [if_pos e, e, h2b]
    · rw [if_neg e, h3 j (by omega), h2 j (by omega)]
  · intro j hj
    by_cases e : j = n
    · rw [e, h2b]; exact hb
    · rw [h2 j (by omega)]; exact h4 j (by omega)
theorem PeT_cut {S : Sx} {n : Nat} {t : Nat → Int} (hT : PeT S n t) {m : Nat} (hm : m < n) : PeT (su S 1 3 (m : Int)) m t := by
  obtain ⟨h1, h2, h3, h4⟩ := hT
  refine ⟨?_, by omega, ?_, fun j hj => h4 j (by omega)⟩
  · simp (decide := true) only [su_app, ↓reduceIte]
  · intro j hj
    simp (decide := true) only [su_app, ↓reduceIte]; exact h3 j (by omega)

theorem c_X4_append (l : Launch) (Γ : Ev) (d : Nat) (S : Sx) (n : Nat) (t t2 : Nat → Int) (hT : PeT S n t) (hn : n < 31) (b : Int) (hb : 0 ≤ b ∧ b ≤ 255) (h2 : ∀ j, j < n → t2 j = t j) (h2b : t2 n = b) : Ctr l Γ (d + 3) mX4_append [rf Γ 1, vI b] S (pV (fun S2 => PeR S2 (n + 1) t2 ∧ frPe S S2)) := by
  refine Ctr.of (by decide) rfl rfl (Nat.le_of_ble_eq_true rfl) ?_
  intro κ hl hk hr
  subst hl
  have h3 := hT.1
  have e3 : (S 1 3).toNat = n := by omega
  refine G_rload_n hk dX4_append_0 rfl ?_
  refine G_getI hk dX4_append_1 flX4_25 (by decide) rfl rfl ?_
  refine G_bipush hk dX4_append_4 (by decide) ?_
  refine G_icmp_ge (tgt := 33) hk dX4_append_6 (by decide) ⟨by omega, by omega⟩ ⟨by omega, by omega⟩ (fun h_6 => ?_) (fun h_6 => ?_)
  · exact absurd h_6 (by omega)--stop
  · refine G_rload_n hk dX4_append_9 rfl ?_
    refine G_getR hk dX4_append_10 flX4_9 (by decide) rfl rfl ?_
    refine G_rload_n hk dX4_append_13 rfl ?_
    refine G_getI hk dX4_append_14 flX4_25 (by decide) rfl rfl ?_
    refine G_iload_n hk dX4_append_17 rfl ?_
    refine G_iast hk dX4_append_18 (by decide) rfl (by decide) (by omega) (by omega) ?_
    refine G_rload_n hk dX4_append_19 rfl ?_
    refine G_dup hk dX4_append_20 rfl ?_
    refine G_getI hk dX4_append_21 flX4_25 (by decide) rfl rfl ?_
    try simp (decide := true) only [su_app, sr_app, ↓reduceIte]
    refine G_iconst hk dX4_append_24 ?_
    refine G_iadd hk dX4_append_25 ?_
    refine G_putI hk dX4_append_26 flX4_25 fpX4_3 (by decide) rfl rfl ?_
    refine G_rload_n hk dX4_append_29 rfl ?_
    refine G_cV0V hk dX4_append_30 mvX4_readText mlX4_35 (by decide) rfl rfl (Nat.le_of_ble_eq_true rfl) (c_X4_readText _ Γ (d + 0) _ (n + 1) t2 (PeT_app hT hn hb h2 h2b e3)) (fun S_30 hp_30 => ?_)
    exact G_vret hk hr dX4_append_33 ⟨hp_30.1, fun c c1 c2 c3 c4 => by rw [hp_30.2 c c1 c2 c3 c4, su_ne _ c1, su_ne _ c2]⟩

theorem c_X4_cutTo (l : Launch) (Γ : Ev) (d : Nat) (S : Sx) (n : Nat) (t : Nat → Int) (hT : PeT S n t) (m : Nat) (hm : m < n) : Ctr l Γ (d + 3) mX4_cutTo [rf Γ 1, vI (m : Int)] S (pV (fun S2 => PeR S2 m t ∧ frPe S S2)) := by
  refine Ctr.of (by decide) rfl rfl (Nat.le_of_ble_eq_true rfl) ?_
  intro κ hl hk hr
  subst hl
  have h3 := hT.1
  have h31 := hT.2.1
  refine G_iload_n hk dX4_cutTo_0 rfl ?_
  refine G_if_lt (tgt := 21) hk dX4_cutTo_1 (by decide) ⟨by omega, by omega⟩ (fun h_1 => ?_) (fun h_1 => ?_)
  · exact absurd h_1 (by omega)--stop
  · refine G_iload_n hk dX4_cutTo_4 rfl ?_
    refine G_rload_n hk dX4_cutTo_5 rfl ?_
    refine G_getI hk dX4_cutTo_6 flX4_25 (by decide) rfl rfl ?_
    refine G_icmp_ge (tgt := 21) hk dX4_cutTo_9 (by decide) ⟨by omega, by omega⟩ ⟨by omega, by omega⟩ (fun h_9 => ?_) (fun h_9 => ?_)
    · exact absurd h_9 (by omega)--stop
    · refine G_rload_n hk dX4_cutTo_12 rfl ?_
      refine G_iload_n hk dX4_cutTo_13 rfl ?_
      refine G_putI hk dX4_cutTo_14 flX4_25 fpX4_3 (by decide) rfl rfl ?_
      refine G_rload_n hk dX4_cutTo_17 rfl ?_
      refine G_cV0V hk dX4_cutTo_18 mvX4_readText mlX4_35 (by decide) rfl rfl (Nat.le_of_ble_eq_true rfl) (c_X4_readText _ Γ (d + 0) _ m t (PeT_cut hT hm)) (fun S_18 hp_18 => ?_)
      exact G_vret hk hr dX4_cutTo_21 ⟨hp_18.1, fun c c1 c2 c3 c4 => by rw [hp_18.2 c c1 c2 c3 c4, su_ne _ c1]⟩
