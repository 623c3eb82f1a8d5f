/-! the class: what its questions rest on -/
def frK (S S2 : Sx) : Prop := ∀ c, (c < 17 ∨ 22 < c) → c ≠ 25 → c ≠ 26 → c ≠ 33 → c ≠ 34 → S2 c = S c
theorem frK_0 (S : Sx) : frK S S := fun _ _ _ _ _ _ => rfl
theorem frK_t {S S1 S2 : Sx} (h1 : frK S S1) (h2 : frK S1 S2) : frK S S2 := fun c a b e f g => by rw [h2 c a b e f g, h1 c a b e f g]
theorem frC_K {S S2 : Sx} (h : frC S S2) : frK S S2 := fun c a _ _ _ _ => h c (by omega) (by omega) (by omega) (by omega)
def CQ (S : Sx) (A : Av) (lt : Int) : Prop := ClE S A ∧ WiR S (ans A) (aV A) ∧ (∀ w, w < 4 → S 24 w = aW A w) ∧ S 0 9 = aF A ∧ S 0 10 = lt
theorem CQ_fr {S S2 : Sx} {A : Av} {lt : Int} (h : CQ S A lt) (f : frK S S2) : CQ S2 A lt := by
  obtain ⟨h1, h2, h3, h4, h5⟩ := h
  refine ⟨ClE_lo h1 (fun c hc => f c (by omega) (by omega) (by omega) (by omega) (by omega)), WiR_cong h2 (fun c a b => f c (by omega) (by omega) (by omega) (by omega) (by omega)), ?_, ?_, ?_⟩
  · rw [f 24 (by omega) (by omega) (by omega) (by omega) (by omega)]; exact h3
  · rw [f 0 (by omega) (by omega) (by omega) (by omega) (by omega)]; exact h4
  · rw [f 0 (by omega) (by omega) (by omega) (by omega) (by omega)]; exact h5
theorem Yr_np {A : Av} {ot os b : Int} {X : Sim} {y8 y9 : Nat} {S : Sx} (h : Yr A ot os b X y8 y9 S) : ∀ k, k < 12 → X.2.2 k ≠ 0 → k < anp A := fun k a c => (h.2.2.2.2.2.2 k a c).1
theorem Yr_st {A : Av} {ot os b : Int} {X : Sim} {y8 y9 : Nat} {S : Sx} (h : Yr A ot os b X y8 y9 S) : ∀ k, k < 12 → 0 ≤ X.2.2 k ∧ X.2.2 k ≤ 2 := fun k a => ⟨(h.2.2.2.2.2.1.2.2 k a).1, (h.2.2.2.2.2.1.2.2 k a).2.1⟩
theorem Yr_so {A : Av} {ot os b : Int} {X : Sim} {y8 y9 : Nat} {S : Sx} (h : Yr A ot os b X y8 y9 S) (hb : b ≤ 1000000) : ∀ p, p < aN A → 0 ≤ X.1 p ∧ X.1 p ≤ 1000000000 := fun p a => by have := h.2.2.2.2.2.1.1 p a; omega
theorem bsm_cut {c : Nat → Bool} {n : Nat} : ∀ m, n ≤ m → (∀ i, n ≤ i → i < m → c i = false) → bsm c m = bsm c n
  | 0, h, _ => by rw [show n = 0 by omega]
  | m + 1, h, hz => by
    by_cases e : n = m + 1
    · rw [e]
    · have ih := bsm_cut (c := c) (n := n) m (by omega) (fun i a b => hz i a (by omega))
      simp only [bsm]
      rw [ih, hz m (by omega) (by omega)]
      rfl
theorem there_np {A : Av} {X : Sim} (hn : anp A ≤ 12) (hnp : ∀ k, k < 12 → X.2.2 k ≠ 0 → k < anp A) : bsm (fun k => decide (X.2.2 k = 1)) 12 = bsm (fun k => decide (X.2.2 k = 1)) (anp A) := by
  refine bsm_cut 12 hn (fun i a b => decide_eq_false (fun e => ?_))
  have := hnp i b (by rw [e]; decide)
  omega
theorem bit_v {a k : Nat} (ha : a < 2147483648) : zand ((a : Int) / 2 ^ k) 1 = bz (a.testBit k = true) := by
  have e : ((a : Int) / 2 ^ k) = ((a / 2 ^ k : Nat) : Int) := by
    rw [Int.natCast_ediv]
    congr 1
  have h2 : a / 2 ^ k ≤ a := Nat.div_le_self _ _
  have hq := bit_q (k := k) ha
  have h3 : zand ((a : Int) / 2 ^ k) 1 = ((a / 2 ^ k % 2 : Nat) : Int) := by rw [e, zand_1 (by omega)]
  unfold bz
  split
  · next g => exact hq.mpr g
  · next g =>
    have : ¬ zand ((a : Int) / 2 ^ k) 1 = 1 := fun q => g (hq.mp q)
    omega

theorem c_X10_found (l : Launch) (Γ : Ev) (d : Nat) (S : Sx) (f : Int) : Ctr l Γ d mX10_found [rf Γ 0, vI f] S (pI (fun r S2 => r = -10 - f ∧ S2 = su S 0 10 f)) := by
  refine Ctr.of (by decide) rfl rfl (Nat.le_of_ble_eq_true rfl) ?_
  intro κ hl hk hr
  subst hl
  refine G_rload_n hk dX10_found_0 rfl ?_
  refine G_iload_n hk dX10_found_1 rfl ?_
  refine G_putI hk dX10_found_2 flX10_77 fpX10_10 (by decide) rfl rfl ?_
  refine G_bipush hk dX10_found_5 (by decide) ?_
  refine G_iload_n hk dX10_found_7 rfl ?_
  refine G_isub hk dX10_found_8 ?_
  exact G_iret hk hr dX10_found_9 ⟨rfl, rfl⟩

theorem c_X10_isSighting (l : Launch) (Γ : Ev) (d : Nat) (S : Sx) (y p v : Int) (h1 : R32 y) (h2 : R32 p) (h3 : R32 v) : Ctr l Γ (d + 2) mX10_isSighting [vI y, vI p, vI v] S (pP S (bz ((0 ≤ y ∧ y ≤ 29) ∧ (0 ≤ p ∧ p ≤ 7) ∧ (0 ≤ v ∧ v ≤ 99)))) := by
  refine Ctr.of (by decide) rfl rfl (Nat.le_of_ble_eq_true rfl) ?_
  intro κ hl hk hr
  subst hl
  refine G_iload_n hk dX10_isSighting_0 rfl ?_
  refine G_cS1P hk dX10_isSighting_1 msX10_isYear mlX10_110 (Nat.le_of_ble_eq_true rfl) (c_X10_isYear _ Γ (d + 0) _ _ ⟨by omega, by omega⟩) ?_
  refine G_bif_eq (tgt := 31) hk dX10_isSighting_4 (by decide) (fun h_4 => ?_) (fun h_4 => ?_)
  · refine G_iconst hk dX10_isSighting_31 ?_
    exact G_zret hk hr dX10_isSighting_32 (by decide) ⟨by simp only [bz]; split <;> first | rfl | (exfalso; omega), rfl⟩
  · refine G_iload_n hk dX10_isSighting_7 rfl ?_
    refine G_iconst hk dX10_isSighting_8 ?_
    refine G_bipush hk dX10_isSighting_9 (by decide) ?_
    refine G_cS3P hk dX10_isSighting_11 msX10_isWithin mlX10_81 (Nat.le_of_ble_eq_true rfl) (c_X10_isWithin _ Γ (d + 1) _ _ _ _ ⟨by omega, by omega⟩ ⟨by omega, by omega⟩ ⟨by omega, by omega⟩) ?_
    refine G_bif_eq (tgt := 31) hk dX10_isSighting_14 (by decide) (fun h_14 => ?_) (fun h_14 => ?_)
    · refine G_iconst hk dX10_isSighting_31 ?_
      exact G_zret hk hr dX10_isSighting_32 (by decide) ⟨by simp only [bz]; split <;> first | rfl | (exfalso; omega), rfl⟩
    · refine G_iload_n hk dX10_isSighting_17 rfl ?_
      refine G_iconst hk dX10_isSighting_18 ?_
      refine G_bipush hk dX10_isSighting_19 (by decide) ?_
      refine G_cS3P hk dX10_isSighting_21 msX10_isWithin mlX10_81 (Nat.le_of_ble_eq_true rfl) (c_X10_isWithin _ Γ (d + 1) _ _ _ _ ⟨by omega, by omega⟩ ⟨by omega, by omega⟩ ⟨by omega, by omega⟩) ?_
      refine G_bif_eq (tgt := 31) hk dX10_isSighting_24 (by decide) (fun h_24 => ?_) (fun h_24 => ?_)
      · refine G_iconst hk dX10_isSighting_31 ?_
        exact G_zret hk hr dX10_isSighting_32 (by decide) ⟨by simp only [bz]; split <;> first | rfl | (exfalso; omega), rfl⟩
      · refine G_iconst hk dX10_isSighting_27 ?_
        refine G_goto (tgt := 32) hk dX10_isSighting_28 (by decide) ?_
        exact G_zret hk hr dX10_isSighting_32 (by decide) ⟨by simp only [bz]; split <;> first | rfl | (exfalso; omega), rfl⟩

theorem c_X10_isTown (l : Launch) (Γ : Ev) (d : Nat) (S : Sx) (w g : Int) (h1 : R32 w) (h2 : R32 g) : Ctr l Γ (d + 1) mX10_isTown [vI w, vI g] S (pP S (bz ((1 ≤ w ∧ w ≤ 999) ∧ (0 ≤ g ∧ g ≤ 99)))) := by
  refine Ctr.of (by decide) rfl rfl (Nat.le_of_ble_eq_true rfl) ?_
  intro κ hl hk hr
  subst hl
  refine G_iload_n hk dX10_isTown_0 rfl ?_
  refine G_iconst hk dX10_isTown_1 ?_
  refine G_sipush hk dX10_isTown_2 (by decide) ?_
  refine G_cS3P hk dX10_isTown_5 msX10_isWithin mlX10_81 (Nat.le_of_ble_eq_true rfl) (c_X10_isWithin _ Γ (d + 0) _ _ _ _ ⟨by omega, by omega⟩ ⟨by omega, by omega⟩ ⟨by omega, by omega⟩) ?_
  refine G_bif_eq (tgt := 25) hk dX10_isTown_8 (by decide) (fun h_8 => ?_) (fun h_8 => ?_)
  · refine G_iconst hk dX10_isTown_25 ?_
    exact G_zret hk hr dX10_isTown_26 (by decide) ⟨by simp only [bz]; split <;> first | rfl | (exfalso; omega), rfl⟩
  · refine G_iload_n hk dX10_isTown_11 rfl ?_
    refine G_iconst hk dX10_isTown_12 ?_
    refine G_bipush hk dX10_isTown_13 (by decide) ?_
    refine G_cS3P hk dX10_isTown_15 msX10_isWithin mlX10_81 (Nat.le_of_ble_eq_true rfl) (c_X10_isWithin _ Γ (d + 0) _ _ _ _ ⟨by omega, by omega⟩ ⟨by omega, by omega⟩ ⟨by omega, by omega⟩) ?_
    refine G_bif_eq (tgt := 25) hk dX10_isTown_18 (by decide) (fun h_18 => ?_) (fun h_18 => ?_)
    · refine G_iconst hk dX10_isTown_25 ?_
      exact G_zret hk hr dX10_isTown_26 (by decide) ⟨by simp only [bz]; split <;> first | rfl | (exfalso; omega), rfl⟩
    · refine G_iconst hk dX10_isTown_21 ?_
      refine G_goto (tgt := 26) hk dX10_isTown_22 (by decide) ?_
      exact G_zret hk hr dX10_isTown_26 (by decide) ⟨by simp only [bz]; split <;> first | rfl | (exfalso; omega), rfl⟩

theorem c_X10_nextSeed (l : Launch) (Γ : Ev) (d : Nat) (S : Sx) (z : Int) : Ctr l Γ d mX10_nextSeed [vI z] S (pP S (lotf z)) := by
  refine Ctr.of (by decide) rfl rfl (Nat.le_of_ble_eq_true rfl) ?_
  intro κ hl hk hr
  subst hl
  refine G_ldcw (z := (1103515245)) hk dX10_nextSeed_0 kcX10_382 (by decide) ?_
  refine G_iload_n hk dX10_nextSeed_3 rfl ?_
  refine G_imul hk dX10_nextSeed_4 ?_
  refine G_sipush hk dX10_nextSeed_5 (by decide) ?_
  refine G_iadd hk dX10_nextSeed_8 ?_
  exact G_iret hk hr dX10_nextSeed_9 ⟨rfl, rfl⟩

theorem c_X10_lotOf (l : Launch) (Γ : Ev) (d : Nat) (S : Sx) (z m : Int) (hm : 0 < m ∧ m < 1000) : Ctr l Γ d mX10_lotOf [vI z, vI m] S (pP S (lotv z m)) := by
  refine Ctr.of (by decide) rfl rfl (Nat.le_of_ble_eq_true rfl) ?_
  intro κ hl hk hr
  subst hl
  refine G_iload_n hk dX10_lotOf_0 rfl ?_
  refine G_if_le (tgt := 13) hk dX10_lotOf_1 (by decide) ⟨by omega, by omega⟩ (fun h_1 => ?_) (fun h_1 => ?_)
  · exact absurd h_1 (by omega)--stop
  · refine G_iload_n hk dX10_lotOf_4 rfl ?_
    refine G_bipush hk dX10_lotOf_5 (by decide) ?_
    refine G_iushr hk dX10_lotOf_7 ?_
    refine G_iload_n hk dX10_lotOf_8 rfl ?_
    refine G_irem hk dX10_lotOf_9 (by omega) (by omega) (by omega) (by omega) ?_
    refine G_goto (tgt := 14) hk dX10_lotOf_10 (by decide) ?_
    exact G_iret hk hr dX10_lotOf_14 ⟨rfl, rfl⟩

theorem c_X10_mix (l : Launch) (Γ : Ev) (d : Nat) (S : Sx) (h v : Int) : Ctr l Γ d mX10_mix [vL h, vL v] S (pL (fun r S2 => r = mz h v ∧ S2 = S)) := by
  refine Ctr.of (by decide) rfl rfl (Nat.le_of_ble_eq_true rfl) ?_
  intro κ hl hk hr
  subst hl
  refine G_ldc2 (z := (31)) hk dX10_mix_0 kcX10_380 (by decide) ?_
  refine G_lload_n hk dX10_mix_3 rfl ?_
  refine G_lmul hk dX10_mix_4 ?_
  refine G_lload_n hk dX10_mix_5 rfl ?_
  refine G_ladd hk dX10_mix_6 ?_
  exact G_lret hk hr dX10_mix_7 ⟨rfl, rfl⟩

theorem c_X10_endOfTown (l : Launch) (Γ : Ev) (d : Nat) (S : Sx) (w t g : Int) (hw : 1 ≤ w ∧ w ≤ 999) (ht : 0 ≤ t ∧ t ≤ 99) (hg : 0 ≤ g ∧ g ≤ 99) : Ctr l Γ (d + 1) mX10_endOfTown [vI w, vI t, vI g] S (pP S (a_townOf w t g)) := by
  refine Ctr.of (by decide) rfl rfl (Nat.le_of_ble_eq_true rfl) ?_
  intro κ hl hk hr
  subst hl
  refine G_iload_n hk dX10_endOfTown_0 rfl ?_
  refine G_istore_n hk dX10_endOfTown_1 (by decide) rfl ?_
  refine G_iconst hk dX10_endOfTown_2 ?_
  refine G_istore hk dX10_endOfTown_3 (by decide) rfl ?_
  have lp := loop_up (P := fun k => (∀ j, j < k → tlc w t g j = false) → GW κ Γ 5 [some (vI w), some (vI t), some (vI g), some (vI (tl w t g k)), some (vI (k : Int))] [] (wl Γ S)) 100 ?_ ?_ 0 (Nat.zero_le _) (fun j hj => absurd hj (by omega))
  · exact lp
  · intro hn
    refine G_iload hk dX10_endOfTown_5 rfl ?_
    refine G_bipush hk dX10_endOfTown_7 (by decide) ?_
    refine G_icmp_gt (tgt := 37) hk dX10_endOfTown_9 (by decide) ⟨by omega, by omega⟩ ⟨by omega, by omega⟩ (fun h_9 => ?_) (fun h_9 => ?_)
    · refine G_iconst hk dX10_endOfTown_37 ?_
      exact G_iret hk hr dX10_endOfTown_38 ⟨by unfold a_townOf; rw [srch_none _ 100 hn]; rfl, rfl⟩
    · exact absurd h_9 (by omega)--stop
  · intro k hk9 ih hn
    have tb := tl_bd (l := t) hw.1 hg.1 k hn
    refine G_iload hk dX10_endOfTown_5 rfl ?_
    refine G_bipush hk dX10_endOfTown_7 (by decide) ?_
    refine G_icmp_gt (tgt := 37) hk dX10_endOfTown_9 (by decide) ⟨by omega, by omega⟩ ⟨by omega, by omega⟩ (fun h_9 => ?_) (fun h_9 => ?_)
    · exact absurd h_9 (by omega)--stop
    · refine G_iload_n hk dX10_endOfTown_12 rfl ?_
      refine G_iload_n hk dX10_endOfTown_13 rfl ?_
      refine G_isub hk dX10_endOfTown_14 ?_
      refine G_istore_n hk dX10_endOfTown_15 (by decide) rfl ?_
      refine G_iload_n hk dX10_endOfTown_16 rfl ?_
      refine G_if_gt (tgt := 23) hk dX10_endOfTown_17 (by decide) ⟨by omega, by omega⟩ (fun h_17 => ?_) (fun h_17 => ?_)
      · refine G_iload_n hk dX10_endOfTown_23 rfl ?_
        refine G_iload_n hk dX10_endOfTown_24 rfl ?_
        refine G_iadd hk dX10_endOfTown_25 ?_
        refine G_iload_n hk dX10_endOfTown_26 rfl ?_
        refine G_cS2P hk dX10_endOfTown_27 msJ9_min_7cf53 mlX10_302 (Nat.le_of_ble_eq_true rfl) (c_J9_min _ Γ (d + 0) _ _ _ ⟨by omega, by omega⟩ ⟨by omega, by omega⟩) ?_
        rw [min_lsr]
        refine G_istore_n hk dX10_endOfTown_30 (by decide) rfl ?_
        refine G_iinc hk dX10_endOfTown_31 rfl (by decide) rfl ?_
        refine G_goto (tgt := 5) hk dX10_endOfTown_34 (by decide) ?_
        refine ih (fun j hj => ?_)
        by_cases e : j = k
        · rw [e]; unfold tlc; simp only [decide_eq_false_iff_not]; omega
        · exact hn j (by omega)
      · refine G_iload hk dX10_endOfTown_20 rfl ?_
        exact G_iret hk hr dX10_endOfTown_22 ⟨by unfold a_townOf; rw [srch_at _ k hn (by unfold tlc; simp only [decide_eq_true_eq]; omega) 100 (by omega), if_pos (by omega)], rfl⟩

theorem c_X10_town (l : Launch) (Γ : Ev) (d : Nat) (S : Sx) (w t g : Int) (h_w : R32 w) (h_t : R32 t) (h_g : R32 g) : Ctr l Γ (d + 2) mX10_town [rf Γ 0, vI w, vI t, vI g] S (pP S (a_town w t g)) := by
  refine Ctr.of (by decide) rfl rfl (Nat.le_of_ble_eq_true rfl) ?_
  intro κ hl hk hr
  subst hl
  refine G_iload_n hk dX10_town_0 rfl ?_
  refine G_iload_n hk dX10_town_1 rfl ?_
  refine G_cS2P hk dX10_town_2 msX10_isTown mlX10_238 (Nat.le_of_ble_eq_true rfl) (c_X10_isTown _ Γ (d + 0) _ _ _ ⟨by omega, by omega⟩ ⟨by omega, by omega⟩) ?_
  refine G_bif_eq (tgt := 19) hk dX10_town_5 (by decide) (fun h_5 => ?_) (fun h_5 => ?_)
  · refine G_bipush hk dX10_town_19 (by decide) ?_
    exact G_iret hk hr dX10_town_21 ⟨by unfold a_town; (repeat' split) <;> first | (exfalso; omega) | rfl, rfl⟩
  · refine G_iload_n hk dX10_town_8 rfl ?_
    refine G_iconst hk dX10_town_9 ?_
    refine G_sipush hk dX10_town_10 (by decide) ?_
    refine G_cS3P hk dX10_town_13 msX10_isWithin mlX10_81 (Nat.le_of_ble_eq_true rfl) (c_X10_isWithin _ Γ (d + 1) _ _ _ _ ⟨by omega, by omega⟩ ⟨by omega, by omega⟩ ⟨by omega, by omega⟩) ?_
    refine G_bif_ne (tgt := 22) hk dX10_town_16 (by decide) (fun h_16 => ?_) (fun h_16 => ?_)
    · refine G_iload_n hk dX10_town_22 rfl ?_
      refine G_iload_n hk dX10_town_23 rfl ?_
      refine G_bipush hk dX10_town_24 (by decide) ?_
      refine G_idiv hk dX10_town_26 (by omega) (by omega) (by omega) (by omega) ?_
      refine G_iload_n hk dX10_town_27 rfl ?_
      refine G_cS3P hk dX10_town_28 msX10_endOfTown mlX10_241 (Nat.le_of_ble_eq_true rfl) (c_X10_endOfTown _ Γ (d + 0) _ _ _ _ ⟨by omega, by omega⟩ ⟨by omega, by omega⟩ ⟨by omega, by omega⟩) ?_
      exact G_iret hk hr dX10_town_31 ⟨by unfold a_town; (repeat' split) <;> first | (exfalso; omega) | rfl, rfl⟩
    · refine G_bipush hk dX10_town_19 (by decide) ?_
      exact G_iret hk hr dX10_town_21 ⟨by unfold a_town; (repeat' split) <;> first | (exfalso; omega) | rfl, rfl⟩

theorem lstF_at {c : Nat → Bool} {t : Nat} (h1 : c t = true) : ∀ n, t < n → (∀ j, t < j → j < n → c j = false) → lstF c n = t
  | 0, h, _ => absurd h (by omega)
  | n + 1, h, h2 => by
    simp only [lstF]
    by_cases e : t = n
    · rw [← e, if_pos h1]
    · rw [if_neg (by rw [h2 n (by omega) (by omega)]; decide)]
      exact lstF_at h1 n (by omega) (fun j a b => h2 j a (by omega))
theorem town_0 {w g : Int} (hw : 1 ≤ w) (hg : 0 ≤ g) : a_townOf w 0 g = -1 := by
  have h : ∀ k j, j < k → tlc w 0 g j = false := by
    intro k
    induction k with
    | zero => intro j hj; exact absurd hj (by omega)
    | succ k ih =>
      intro j hj
      by_cases e : j = k
      · have := tl_bd (l := 0) hw hg k ih
        rw [e]
        unfold tlc
        exact decide_eq_false (by omega)
      · exact ih j (by omega)
  unfold a_townOf
  rw [srch_none _ 100 (fun j hj => h 100 j hj), if_neg (by omega)]
theorem toll_at {w g : Int} {u : Nat} (hu : u ≤ 99) (h1 : a_townOf w (u : Int) g = -1) (h2 : ∀ v : Nat, u < v → v ≤ 99 → ¬ a_townOf w (v : Int) g = -1) : (u : Int) * 10 + 9 = a_tollOf w g := by
  unfold a_tollOf
  rw [lstF_at (t := u * 10 + 9) (by unfold tlt; exact decide_eq_true (by rw [show ((u * 10 + 9 : Nat) : Int) / 10 = (u : Int) by omega]; exact h1)) 1000 (by omega) (fun j a b => by
    unfold tlt
    refine decide_eq_false ?_
    have := h2 (j / 10) (by omega) (by omega)
    rw [show (j : Int) / 10 = ((j / 10 : Nat) : Int) by omega]
    exact this)]
  omega

theorem c_X10_toll (l : Launch) (Γ : Ev) (d : Nat) (S : Sx) (w g : Int) (h_w : R32 w) (h_g : R32 g) : Ctr l Γ (d + 2) mX10_toll [rf Γ 0, vI w, vI g] S (pP S (a_toll w g)) := by
  refine Ctr.of (by decide) rfl rfl (Nat.le_of_ble_eq_true rfl) ?_
  intro κ hl hk hr
  subst hl
  refine G_iload_n hk dX10_toll_0 rfl ?_
  refine G_iload_n hk dX10_toll_1 rfl ?_
  refine G_cS2P hk dX10_toll_2 msX10_isTown mlX10_238 (Nat.le_of_ble_eq_true rfl) (c_X10_isTown _ Γ (d + 0) _ _ _ ⟨by omega, by omega⟩ ⟨by omega, by omega⟩) ?_
  refine G_bif_ne (tgt := 11) hk dX10_toll_5 (by decide) (fun h_5 => ?_) (fun h_5 => ?_)
  · refine G_bipush hk dX10_toll_11 (by decide) ?_
    refine G_istore_n hk dX10_toll_13 (by decide) rfl ?_
    have lp := loop_up (P := fun u => (∀ v : Nat, 99 - u < v → v ≤ 99 → ¬ a_townOf w (v : Int) g = -1) → GW κ Γ 14 [some (rf Γ 0), some (vI w), some (vI g), some (vI (99 - (u : Int)))] [] (wl Γ S)) 99 ?_ ?_ 0 (Nat.zero_le _) (fun v a b => absurd b (by omega))
    · exact lp
    · intro hn
      refine G_iload_n hk dX10_toll_14 rfl ?_
      refine G_if_le (tgt := 42) hk dX10_toll_15 (by decide) ⟨by omega, by omega⟩ (fun h_15 => ?_) (fun h_15 => ?_)
      · refine G_bipush hk dX10_toll_42 (by decide) ?_
        exact G_iret hk hr dX10_toll_44 ⟨by
          have h9 := toll_at (w := w) (g := g) (u := 0) (by omega) (town_0 (by omega) (by omega)) (fun v a b => hn v (by omega) b)
          unfold a_toll
          rw [if_neg (by omega), if_neg (by omega), ← h9]
          rfl, rfl⟩
      · exact absurd h_15 (by omega)--stop
    · intro u hu ih hn
      have tb := a_townOf_r w (99 - (u : Int)) g
      have e99 : (99 - (u : Int)) = ((99 - u : Nat) : Int) := by omega
      refine G_iload_n hk dX10_toll_14 rfl ?_
      refine G_if_le (tgt := 42) hk dX10_toll_15 (by decide) ⟨by omega, by omega⟩ (fun h_15 => ?_) (fun h_15 => ?_)
      · exact absurd h_15 (by omega)--stop
      · refine G_iload_n hk dX10_toll_18 rfl ?_
        refine G_iload_n hk dX10_toll_19 rfl ?_
        refine G_iload_n hk dX10_toll_20 rfl ?_
        refine G_cS3P hk dX10_toll_21 msX10_endOfTown mlX10_241 (Nat.le_of_ble_eq_true rfl) (c_X10_endOfTown _ Γ (d + 0) _ _ _ _ ⟨by omega, by omega⟩ ⟨by omega, by omega⟩ ⟨by omega, by omega⟩) ?_
        refine G_iconst hk dX10_toll_24 ?_
        refine G_icmp_ne (tgt := 36) hk dX10_toll_25 (by decide) ⟨by omega, by omega⟩ ⟨by omega, by omega⟩ (fun h_25 => ?_) (fun h_25 => ?_)
        · refine G_iinc hk dX10_toll_36 rfl (by decide) rfl ?_
          refine G_goto (tgt := 14) hk dX10_toll_39 (by decide) ?_
          have h9 := ih (fun v a b => by
            by_cases e : v = 99 - u
            · rw [e, ← e99]; exact h_25
            · exact hn v (by omega) b)
          rw [show 99 - ((u + 1 : Nat) : Int) = 99 - (u : Int) + -1 by omega] at h9
          exact h9
        · refine G_iload_n hk dX10_toll_28 rfl ?_
          refine G_bipush hk dX10_toll_29 (by decide) ?_
          refine G_imul hk dX10_toll_31 ?_
          refine G_bipush hk dX10_toll_32 (by decide) ?_
          refine G_iadd hk dX10_toll_34 ?_
          exact G_iret hk hr dX10_toll_35 ⟨by
              rw [e99] at h_25
              have h9 := toll_at (w := w) (g := g) (u := 99 - u) (by omega) h_25 (fun v a b => hn v a b)
              unfold a_toll
              rw [if_neg (by omega), if_neg (by omega), ← h9, e99], rfl⟩
  · refine G_bipush hk dX10_toll_8 (by decide) ?_
    exact G_iret hk hr dX10_toll_10 ⟨by unfold a_toll; (repeat' split) <;> first | (exfalso; omega) | rfl, rfl⟩

theorem c_X10_lowestOf (l : Launch) (Γ : Ev) (d : Nat) (S : Sx) (m : Nat) (hm : m < 2147483648) : Ctr l Γ d mX10_lowestOf [vI (m : Int)] S (pP S (srch (fun k => m.testBit k) 7 : Int)) := by
  refine Ctr.of (by decide) rfl rfl (Nat.le_of_ble_eq_true rfl) ?_
  intro κ hl hk hr
  subst hl
  refine G_iconst hk dX10_lowestOf_0 ?_
  refine G_istore_n hk dX10_lowestOf_1 (by decide) rfl ?_
  have lp := loop_up (P := fun k => (∀ j, j < k → m.testBit j = false) → GW κ Γ 2 [some (vI (m : Int)), some (vI (k : Int))] [] (wl Γ S)) 7 ?_ ?_ 0 (Nat.zero_le _) (fun j hj => absurd hj (by omega))
  · exact lp
  · intro hn
    refine G_iload_n hk dX10_lowestOf_2 rfl ?_
    refine G_bipush hk dX10_lowestOf_3 (by decide) ?_
    refine G_icmp_ge (tgt := 22) hk dX10_lowestOf_5 (by decide) ⟨by omega, by omega⟩ ⟨by omega, by omega⟩ (fun h_5 => ?_) (fun h_5 => ?_)
    · refine G_iload_n hk dX10_lowestOf_22 rfl ?_
      exact G_iret hk hr dX10_lowestOf_23 ⟨by rw [srch_none _ 7 hn], rfl⟩
    · exact absurd h_5 (by omega)--stop
  · intro k hk9 ih hn
    refine G_iload_n hk dX10_lowestOf_2 rfl ?_
    refine G_bipush hk dX10_lowestOf_3 (by decide) ?_
    refine G_icmp_ge (tgt := 22) hk dX10_lowestOf_5 (by decide) ⟨by omega, by omega⟩ ⟨by omega, by omega⟩ (fun h_5 => ?_) (fun h_5 => ?_)
    · exact absurd h_5 (by omega)--stop
    · refine G_iload_n hk dX10_lowestOf_8 rfl ?_
      refine G_iload_n hk dX10_lowestOf_9 rfl ?_
      refine G_ishr hk dX10_lowestOf_10 (by omega) (by omega) (by omega) (by omega) ?_
      refine G_iconst hk dX10_lowestOf_11 ?_
      refine G_iand hk dX10_lowestOf_12 ?_
      rw [show ((k : Int)).toNat = k from rfl, bit_v hm]
      refine G_bif_ne (tgt := 22) hk dX10_lowestOf_13 (by decide) (fun h_13 => ?_) (fun h_13 => ?_)
      · refine G_iload_n hk dX10_lowestOf_22 rfl ?_
        exact G_iret hk hr dX10_lowestOf_23 ⟨by rw [srch_at _ k hn h_13 7 (by omega)], rfl⟩
      · refine G_iinc hk dX10_lowestOf_16 rfl (by decide) rfl ?_
        refine G_goto (tgt := 2) hk dX10_lowestOf_19 (by decide) ?_
        refine ih (fun j hj => ?_)
        by_cases e : j = k
        · rw [e]; simpa using h_13
        · exact hn j (by omega)

theorem c_X10_fault (l : Launch) (Γ : Ev) (d : Nat) (S : Sx) (A : Av) (lt : Int) (hQ : CQ S A lt) : Ctr l Γ (d + 1) mX10_fault [rf Γ 0] S (pP S (a_fault A)) := by
  refine Ctr.of (by decide) rfl rfl (Nat.le_of_ble_eq_true rfl) ?_
  intro κ hl hk hr
  subst hl
  obtain ⟨hC, hW, hWt, h09, h010⟩ := hQ
  obtain ⟨h15, n8, h62, n12, h132, m12⟩ := cl_n hC
  have f9 := hC.1.2.2.2.2.2.2.1
  refine G_rload_n hk dX10_fault_0 rfl ?_
  refine G_getR hk dX10_fault_1 flX10_10 (by decide) rfl rfl ?_
  refine G_cV0P hk dX10_fault_4 mvX4_faultPlace mlX10_96 (by decide) rfl rfl (Nat.le_of_ble_eq_true rfl) (c_X4_faultPlace _ Γ (d + 0) _) ?_
  exact G_iret hk hr dX10_fault_7 ⟨hC.2.1.2.1, rfl⟩

theorem c_X10_person (l : Launch) (Γ : Ev) (d : Nat) (S : Sx) (A : Av) (lt : Int) (hQ : CQ S A lt) (p w : Int) (h_p : R32 p) (h_w : R32 w) : Ctr l Γ (d + 2) mX10_person [rf Γ 0, vI p, vI w] S (pP S (a_person A p w)) := by
  refine Ctr.of (by decide) rfl rfl (Nat.le_of_ble_eq_true rfl) ?_
  intro κ hl hk hr
  subst hl
  obtain ⟨hC, hW, hWt, h09, h010⟩ := hQ
  obtain ⟨h15, n8, h62, n12, h132, m12⟩ := cl_n hC
  have f9 := hC.1.2.2.2.2.2.2.1
  refine G_rload_n hk dX10_person_0 rfl ?_
  refine G_getR hk dX10_person_1 flX10_10 (by decide) rfl rfl ?_
  refine G_iload_n hk dX10_person_4 rfl ?_
  refine G_cV1P hk dX10_person_5 mvX4_has mlX10_99 (by decide) rfl rfl (Nat.le_of_ble_eq_true rfl) (c_X4_has _ Γ (d + 1) _ _ ⟨by omega, by omega⟩ ⟨by omega, by omega⟩) ?_
  refine G_bif_eq (tgt := 20) hk dX10_person_8 (by decide) (fun h_8 => ?_) (fun h_8 => ?_)
  · refine G_bipush hk dX10_person_20 (by decide) ?_
    exact G_iret hk hr dX10_person_22 ⟨by unfold a_person; (repeat' split) <;> first | (exfalso; omega) | rfl, rfl⟩
  · refine G_iload_n hk dX10_person_11 rfl ?_
    refine G_iconst hk dX10_person_12 ?_
    refine G_iconst hk dX10_person_13 ?_
    refine G_cS3P hk dX10_person_14 msX10_isWithin mlX10_81 (Nat.le_of_ble_eq_true rfl) (c_X10_isWithin _ Γ (d + 1) _ _ _ _ ⟨by omega, by omega⟩ ⟨by omega, by omega⟩ ⟨by omega, by omega⟩) ?_
    refine G_bif_ne (tgt := 23) hk dX10_person_17 (by decide) (fun h_17 => ?_) (fun h_17 => ?_)
    · refine G_iload_n hk dX10_person_23 rfl ?_
      refine G_if_ne (tgt := 38) hk dX10_person_24 (by decide) ⟨by omega, by omega⟩ (fun h_24 => ?_) (fun h_24 => ?_)
      · refine G_rload_n hk dX10_person_38 rfl ?_
        refine G_getR hk dX10_person_39 flX10_10 (by decide) rfl rfl ?_
        refine G_iload_n hk dX10_person_42 rfl ?_
        refine G_cV1P hk dX10_person_43 mvX4_twinOf mlX10_107 (by decide) rfl rfl (Nat.le_of_ble_eq_true rfl) (c_X4_twinOf _ Γ (d + 0) _ _ ⟨by omega, by omega⟩ ⟨by omega, by omega⟩) ?_
        rw [if_pos (by omega), show S 4 p.toNat = aTw A p.toNat from (hC.2.1.2.2.2 p.toNat (by show p.toNat < aN A; omega)).2]
        exact G_iret hk hr dX10_person_46 ⟨by unfold a_person; (repeat' split) <;> first | (exfalso; omega) | rfl, rfl⟩
      · refine G_rload_n hk dX10_person_27 rfl ?_
        refine G_getR hk dX10_person_28 flX10_10 (by decide) rfl rfl ?_
        refine G_iload_n hk dX10_person_31 rfl ?_
        refine G_cV1P hk dX10_person_32 mvX4_solidAtFirst mlX10_103 (by decide) rfl rfl (Nat.le_of_ble_eq_true rfl) (c_X4_solidAtFirst _ Γ (d + 0) _ _ ⟨by omega, by omega⟩ ⟨by omega, by omega⟩) ?_
        rw [if_pos (by omega), show S 3 p.toNat = a0 A p.toNat from (hC.2.1.2.2.2 p.toNat (by show p.toNat < aN A; omega)).1]
        refine G_goto (tgt := 46) hk dX10_person_35 (by decide) ?_
        exact G_iret hk hr dX10_person_46 ⟨by unfold a_person; (repeat' split) <;> first | (exfalso; omega) | rfl, rfl⟩
    · refine G_bipush hk dX10_person_20 (by decide) ?_
      exact G_iret hk hr dX10_person_22 ⟨by unfold a_person; (repeat' split) <;> first | (exfalso; omega) | rfl, rfl⟩

theorem c_X10_solid (l : Launch) (Γ : Ev) (d : Nat) (S : Sx) (A : Av) (lt : Int) (hQ : CQ S A lt) (y p : Int) (h_y : R32 y) (h_p : R32 p) : Ctr l Γ (d + 5) mX10_solid [rf Γ 0, vI y, vI p] S (pI (fun r S2 => r = a_solid A y p ∧ frK S S2)) := by
  refine Ctr.of (by decide) rfl rfl (Nat.le_of_ble_eq_true rfl) ?_
  intro κ hl hk hr
  subst hl
  obtain ⟨hC, hW, hWt, h09, h010⟩ := hQ
  obtain ⟨h15, n8, h62, n12, h132, m12⟩ := cl_n hC
  have f9 := hC.1.2.2.2.2.2.2.1
  refine G_iload_n hk dX10_solid_0 rfl ?_
  refine G_cS1P hk dX10_solid_1 msX10_isYear mlX10_110 (Nat.le_of_ble_eq_true rfl) (c_X10_isYear _ Γ (d + 3) _ _ ⟨by omega, by omega⟩) ?_
  refine G_bif_eq (tgt := 18) hk dX10_solid_4 (by decide) (fun h_4 => ?_) (fun h_4 => ?_)
  · refine G_bipush hk dX10_solid_18 (by decide) ?_
    exact G_iret hk hr dX10_solid_20 ⟨by unfold a_solid; (repeat' split) <;> first | (exfalso; omega) | rfl, frK_0 S⟩
  · refine G_rload_n hk dX10_solid_7 rfl ?_
    refine G_getR hk dX10_solid_8 flX10_10 (by decide) rfl rfl ?_
    refine G_iload_n hk dX10_solid_11 rfl ?_
    refine G_cV1P hk dX10_solid_12 mvX4_has mlX10_99 (by decide) rfl rfl (Nat.le_of_ble_eq_true rfl) (c_X4_has _ Γ (d + 4) _ _ ⟨by omega, by omega⟩ ⟨by omega, by omega⟩) ?_
    refine G_bif_ne (tgt := 21) hk dX10_solid_15 (by decide) (fun h_15 => ?_) (fun h_15 => ?_)
    · refine G_rload_n hk dX10_solid_21 rfl ?_
      refine G_getR hk dX10_solid_22 flX10_35 (by decide) rfl rfl ?_
      refine G_iload_n hk dX10_solid_25 rfl ?_
      refine G_cV1V hk dX10_solid_26 mvX3_goThrough mlX10_146 (by decide) rfl rfl (Nat.le_of_ble_eq_true rfl) (c_X3_goThrough _ Γ (d + 0) _ A hC _ (y.toNat + 1) (by omega) (by omega)) (fun S_26 hp_26 => ?_)
      obtain ⟨hY, hf⟩ := hp_26
      obtain ⟨q15, -, q62, -, -, -⟩ := cl_n hY.2.1
      have hX := hY.1
      have hso := Yr_so hY (by omega)
      refine G_rload_n hk dX10_solid_29 rfl ?_
      refine G_getR hk dX10_solid_30 flX10_35 (by decide) rfl rfl ?_
      refine G_iload_n hk dX10_solid_33 rfl ?_
      refine G_cV1P hk dX10_solid_34 mvX3_solidOf mlX10_149 (by decide) rfl rfl (Nat.le_of_ble_eq_true rfl) (c_X3_solidOf _ Γ (d + 3) _ _ ⟨by omega, by omega⟩ ⟨by omega, by omega⟩) ?_
      rw [if_pos (by omega), hX.1 p.toNat (by omega)]
      exact G_iret hk hr dX10_solid_37 ⟨by unfold a_solid; (repeat' split) <;> first | (exfalso; omega) | (unfold a_solidOf; rfl), frC_K hf⟩
    · refine G_bipush hk dX10_solid_18 (by decide) ?_
      exact G_iret hk hr dX10_solid_20 ⟨by unfold a_solid; (repeat' split) <;> first | (exfalso; omega) | rfl, frK_0 S⟩

theorem c_X10_behind (l : Launch) (Γ : Ev) (d : Nat) (S : Sx) (A : Av) (lt : Int) (hQ : CQ S A lt) (y w : Int) (h_y : R32 y) (h_w : R32 w) : Ctr l Γ (d + 5) mX10_behind [rf Γ 0, vI y, vI w] S (pI (fun r S2 => r = a_behind A y w ∧ frK S S2)) := by
  refine Ctr.of (by decide) rfl rfl (Nat.le_of_ble_eq_true rfl) ?_
  intro κ hl hk hr
  subst hl
  obtain ⟨hC, hW, hWt, h09, h010⟩ := hQ
  obtain ⟨h15, n8, h62, n12, h132, m12⟩ := cl_n hC
  have f9 := hC.1.2.2.2.2.2.2.1
  refine G_iload_n hk dX10_behind_0 rfl ?_
  refine G_cS1P hk dX10_behind_1 msX10_isYear mlX10_110 (Nat.le_of_ble_eq_true rfl) (c_X10_isYear _ Γ (d + 3) _ _ ⟨by omega, by omega⟩) ?_
  refine G_bif_eq (tgt := 16) hk dX10_behind_4 (by decide) (fun h_4 => ?_) (fun h_4 => ?_)
  · refine G_bipush hk dX10_behind_16 (by decide) ?_
    exact G_iret hk hr dX10_behind_18 ⟨by unfold a_behind; (repeat' split) <;> first | (exfalso; omega) | rfl, frK_0 S⟩
  · refine G_iload_n hk dX10_behind_7 rfl ?_
    refine G_iconst hk dX10_behind_8 ?_
    refine G_iconst hk dX10_behind_9 ?_
    refine G_cS3P hk dX10_behind_10 msX10_isWithin mlX10_81 (Nat.le_of_ble_eq_true rfl) (c_X10_isWithin _ Γ (d + 4) _ _ _ _ ⟨by omega, by omega⟩ ⟨by omega, by omega⟩ ⟨by omega, by omega⟩) ?_
    refine G_bif_ne (tgt := 19) hk dX10_behind_13 (by decide) (fun h_13 => ?_) (fun h_13 => ?_)
    · refine G_rload_n hk dX10_behind_19 rfl ?_
      refine G_getR hk dX10_behind_20 flX10_35 (by decide) rfl rfl ?_
      refine G_iload_n hk dX10_behind_23 rfl ?_
      refine G_cV1V hk dX10_behind_24 mvX3_goThrough mlX10_146 (by decide) rfl rfl (Nat.le_of_ble_eq_true rfl) (c_X3_goThrough _ Γ (d + 0) _ A hC _ (y.toNat + 1) (by omega) (by omega)) (fun S_24 hp_24 => ?_)
      obtain ⟨hY, hf⟩ := hp_24
      obtain ⟨q15, -, q62, -, -, -⟩ := cl_n hY.2.1
      have hX := hY.1
      have hso := Yr_so hY (by omega)
      refine G_iload_n hk dX10_behind_27 rfl ?_
      refine G_if_ne (tgt := 43) hk dX10_behind_28 (by decide) ⟨by omega, by omega⟩ (fun h_28 => ?_) (fun h_28 => ?_)
      · refine G_iload_n hk dX10_behind_43 rfl ?_
        refine G_iconst hk dX10_behind_44 ?_
        refine G_icmp_ne (tgt := 58) hk dX10_behind_45 (by decide) ⟨by omega, by omega⟩ ⟨by omega, by omega⟩ (fun h_45 => ?_) (fun h_45 => ?_)
        · refine G_rload_n hk dX10_behind_58 rfl ?_
          refine G_getR hk dX10_behind_59 flX10_35 (by decide) rfl rfl ?_
          refine G_cV0P hk dX10_behind_62 mvX3_allTogether mlX10_158 (by decide) rfl rfl (Nat.le_of_ble_eq_true rfl) (c_X3_allTogether _ Γ (d + 0) _ A hY.2.1 _ hX (Yr_st hY) (Yr_np hY)) ?_
          exact G_iret hk hr dX10_behind_65 ⟨by unfold a_behind a_behindOf; (repeat' split) <;> first | (exfalso; omega) | rfl, frC_K hf⟩
        · refine G_rload_n hk dX10_behind_48 rfl ?_
          refine G_getR hk dX10_behind_49 flX10_35 (by decide) rfl rfl ?_
          refine G_cV0P hk dX10_behind_52 mvX3_thereBits mlX10_155 (by decide) rfl rfl (Nat.le_of_ble_eq_true rfl) (c_X3_thereBits _ Γ (d + 4) _ _ _ hX (Yr_st hY)) ?_
          rw [there_np n12 (Yr_np hY)]
          refine G_goto (tgt := 65) hk dX10_behind_55 (by decide) ?_
          exact G_iret hk hr dX10_behind_65 ⟨by unfold a_behind a_behindOf; (repeat' split) <;> first | (exfalso; omega) | rfl, frC_K hf⟩
      · refine G_rload_n hk dX10_behind_31 rfl ?_
        refine G_getR hk dX10_behind_32 flX10_35 (by decide) rfl rfl ?_
        refine G_rload_n hk dX10_behind_35 rfl ?_
        refine G_getI hk dX10_behind_36 flX10_73 (by decide) rfl rfl ?_
        rw [hf 0 (by decide) (by decide) (by decide) (by decide), h09]
        refine G_cV1P hk dX10_behind_39 mvX3_unseenBits mlX10_152 (by decide) rfl rfl (Nat.le_of_ble_eq_true rfl) (c_X3_unseenBits _ Γ (d + 3) _ A hY.2.1 _ hX hso _ ⟨by omega, by omega⟩) ?_
        exact G_iret hk hr dX10_behind_42 ⟨by unfold a_behind a_behindOf; (repeat' split) <;> first | (exfalso; omega) | rfl, frC_K hf⟩
    · refine G_bipush hk dX10_behind_16 (by decide) ?_
      exact G_iret hk hr dX10_behind_18 ⟨by unfold a_behind; (repeat' split) <;> first | (exfalso; omega) | rfl, frK_0 S⟩

theorem c_X10_drawer (l : Launch) (Γ : Ev) (d : Nat) (S : Sx) (A : Av) (lt : Int) (hQ : CQ S A lt) (y w : Int) (h_y : R32 y) (h_w : R32 w) : Ctr l Γ (d + 5) mX10_drawer [rf Γ 0, vI y, vI w] S (pI (fun r S2 => r = a_drawer A y w ∧ frK S S2)) := by
  refine Ctr.of (by decide) rfl rfl (Nat.le_of_ble_eq_true rfl) ?_
  intro κ hl hk hr
  subst hl
  obtain ⟨hC, hW, hWt, h09, h010⟩ := hQ
  obtain ⟨h15, n8, h62, n12, h132, m12⟩ := cl_n hC
  have f9 := hC.1.2.2.2.2.2.2.1
  refine G_iload_n hk dX10_drawer_0 rfl ?_
  refine G_cS1P hk dX10_drawer_1 msX10_isYear mlX10_110 (Nat.le_of_ble_eq_true rfl) (c_X10_isYear _ Γ (d + 3) _ _ ⟨by omega, by omega⟩) ?_
  refine G_bif_eq (tgt := 14) hk dX10_drawer_4 (by decide) (fun h_4 => ?_) (fun h_4 => ?_)
  · refine G_bipush hk dX10_drawer_14 (by decide) ?_
    exact G_iret hk hr dX10_drawer_16 ⟨by unfold a_drawer; (repeat' split) <;> first | (exfalso; omega) | rfl, frK_0 S⟩
  · refine G_iload_n hk dX10_drawer_7 rfl ?_
    refine G_cS1P hk dX10_drawer_8 msX10_isDrawer mlX10_116 (Nat.le_of_ble_eq_true rfl) (c_X10_isDrawer _ Γ (d + 3) _ _ ⟨by omega, by omega⟩) ?_
    refine G_bif_ne (tgt := 17) hk dX10_drawer_11 (by decide) (fun h_11 => ?_) (fun h_11 => ?_)
    · refine G_rload_n hk dX10_drawer_17 rfl ?_
      refine G_getR hk dX10_drawer_18 flX10_35 (by decide) rfl rfl ?_
      refine G_iload_n hk dX10_drawer_21 rfl ?_
      refine G_cV1V hk dX10_drawer_22 mvX3_goThrough mlX10_146 (by decide) rfl rfl (Nat.le_of_ble_eq_true rfl) (c_X3_goThrough _ Γ (d + 0) _ A hC _ (y.toNat + 1) (by omega) (by omega)) (fun S_22 hp_22 => ?_)
      obtain ⟨hY, hf⟩ := hp_22
      obtain ⟨q15, -, q62, -, -, -⟩ := cl_n hY.2.1
      have hX := hY.1
      have hso := Yr_so hY (by omega)
      refine G_rload_n hk dX10_drawer_25 rfl ?_
      refine G_getR hk dX10_drawer_26 flX10_35 (by decide) rfl rfl ?_
      refine G_iload_n hk dX10_drawer_29 rfl ?_
      refine G_cV1P hk dX10_drawer_30 mvX3_heldBy mlX10_161 (by decide) rfl rfl (Nat.le_of_ble_eq_true rfl) (c_X3_heldBy _ Γ (d + 1) _ A hY.2.1 _ hX (Yr_st hY) (Yr_np hY) _ ⟨by omega, by omega⟩) ?_
      exact G_iret hk hr dX10_drawer_33 ⟨by unfold a_drawer; (repeat' split) <;> first | (exfalso; omega) | (unfold a_drawerOf; rfl), frC_K hf⟩
    · refine G_bipush hk dX10_drawer_14 (by decide) ?_
      exact G_iret hk hr dX10_drawer_16 ⟨by unfold a_drawer; (repeat' split) <;> first | (exfalso; omega) | rfl, frK_0 S⟩

theorem c_X10_took (l : Launch) (Γ : Ev) (d : Nat) (S : Sx) (A : Av) (lt : Int) (hQ : CQ S A lt) (k w : Int) (h_k : R32 k) (h_w : R32 w) : Ctr l Γ (d + 5) mX10_took [rf Γ 0, vI k, vI w] S (pI (fun r S2 => r = a_took A k w ∧ frK S S2)) := by
  refine Ctr.of (by decide) rfl rfl (Nat.le_of_ble_eq_true rfl) ?_
  intro κ hl hk hr
  subst hl
  obtain ⟨hC, hW, hWt, h09, h010⟩ := hQ
  obtain ⟨h15, n8, h62, n12, h132, m12⟩ := cl_n hC
  have f9 := hC.1.2.2.2.2.2.2.1
  refine G_rload_n hk dX10_took_0 rfl ?_
  refine G_getR hk dX10_took_1 flX10_19 (by decide) rfl rfl ?_
  refine G_iload_n hk dX10_took_4 rfl ?_
  refine G_cV1P hk dX10_took_5 mvX5_has mlX10_164 (by decide) rfl rfl (Nat.le_of_ble_eq_true rfl) (c_X5_has _ Γ (d + 4) _ _ ⟨by omega, by omega⟩ ⟨by omega, by omega⟩) ?_
  refine G_bif_eq (tgt := 20) hk dX10_took_8 (by decide) (fun h_8 => ?_) (fun h_8 => ?_)
  · refine G_bipush hk dX10_took_20 (by decide) ?_
    exact G_iret hk hr dX10_took_22 ⟨by unfold a_took; (repeat' split) <;> first | (exfalso; omega) | rfl, frK_0 S⟩
  · refine G_iload_n hk dX10_took_11 rfl ?_
    refine G_iconst hk dX10_took_12 ?_
    refine G_iconst hk dX10_took_13 ?_
    refine G_cS3P hk dX10_took_14 msX10_isWithin mlX10_81 (Nat.le_of_ble_eq_true rfl) (c_X10_isWithin _ Γ (d + 4) _ _ _ _ ⟨by omega, by omega⟩ ⟨by omega, by omega⟩ ⟨by omega, by omega⟩) ?_
    refine G_bif_ne (tgt := 23) hk dX10_took_17 (by decide) (fun h_17 => ?_) (fun h_17 => ?_)
    · refine G_rload_n hk dX10_took_23 rfl ?_
      refine G_getR hk dX10_took_24 flX10_35 (by decide) rfl rfl ?_
      refine G_bipush hk dX10_took_27 (by decide) ?_
      refine G_cV1V hk dX10_took_29 mvX3_goThrough mlX10_146 (by decide) rfl rfl (Nat.le_of_ble_eq_true rfl) (c_X3_goThrough _ Γ (d + 0) _ A hC _ (30) (by omega) (by omega)) (fun S_29 hp_29 => ?_)
      obtain ⟨hY, hf⟩ := hp_29
      obtain ⟨q15, -, q62, -, -, -⟩ := cl_n hY.2.1
      have hX := hY.1
      have hso := Yr_so hY (by omega)
      refine G_iload_n hk dX10_took_32 rfl ?_
      refine G_if_ne (tgt := 47) hk dX10_took_33 (by decide) ⟨by omega, by omega⟩ (fun h_33 => ?_) (fun h_33 => ?_)
      · refine G_rload_n hk dX10_took_47 rfl ?_
        refine G_getR hk dX10_took_48 flX10_35 (by decide) rfl rfl ?_
        refine G_iload_n hk dX10_took_51 rfl ?_
        refine G_cV1P hk dX10_took_52 mvX3_tookOfTwin mlX10_168 (by decide) rfl rfl (Nat.le_of_ble_eq_true rfl) (c_X3_tookOfTwin _ Γ (d + 3) _ _ ⟨by omega, by omega⟩) ?_
        rw [if_pos (by omega), (hX.2.1 k.toNat (by omega)).2]
        exact G_iret hk hr dX10_took_55 ⟨by unfold a_took; rw [if_neg (by omega), if_neg (by omega)]; unfold a_tookOf; rw [show (2 * k + w).toNat = 2 * k.toNat + 1 by omega], frC_K hf⟩
      · refine G_rload_n hk dX10_took_36 rfl ?_
        refine G_getR hk dX10_took_37 flX10_35 (by decide) rfl rfl ?_
        refine G_iload_n hk dX10_took_40 rfl ?_
        refine G_cV1P hk dX10_took_41 mvX3_tookOfPerson mlX10_165 (by decide) rfl rfl (Nat.le_of_ble_eq_true rfl) (c_X3_tookOfPerson _ Γ (d + 3) _ _ ⟨by omega, by omega⟩) ?_
        rw [if_pos (by omega), (hX.2.1 k.toNat (by omega)).1]
        refine G_goto (tgt := 55) hk dX10_took_44 (by decide) ?_
        exact G_iret hk hr dX10_took_55 ⟨by unfold a_took; rw [if_neg (by omega), if_neg (by omega)]; unfold a_tookOf; rw [show (2 * k + w).toNat = 2 * k.toNat by omega], frC_K hf⟩
    · refine G_bipush hk dX10_took_20 (by decide) ?_
      exact G_iret hk hr dX10_took_22 ⟨by unfold a_took; (repeat' split) <;> first | (exfalso; omega) | rfl, frK_0 S⟩
