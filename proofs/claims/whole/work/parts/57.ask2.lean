theorem frsh_b {A : Av} (h8 : aN A ≤ 8) (y : Nat) : zand (bsm (fun p => decide ((lv A (y + 1)).1 p < aF A)) (aN A) : Int) (zxor (bsm (fun p => decide (a0 A p < aF A)) (aN A) : Int) (-1)) = (bsm (frsh A y) (aN A) : Int) := by
  obtain ⟨m, h1, h2, h3⟩ := zandn (bsm_31 (fun p => decide ((lv A (y + 1)).1 p < aF A)) (n := aN A) (by omega)) (bsm_31 (fun p => decide (a0 A p < aF A)) (n := aN A) (by omega))
  rw [h2]
  congr 1
  apply bsm_eq
  intro k
  rw [h3 k, bsm_tb, bsm_tb]
  unfold frsh
  by_cases hk : k < aN A
  · simp only [hk, decide_true, Bool.true_and]
    by_cases a : (lv A (y + 1)).1 k < aF A <;> by_cases b : a0 A k < aF A <;> simp [a, b]
  · simp [hk]
theorem bsm_some {c : Nat → Bool} {n : Nat} (h : ¬ bsm c n = 0) : srch c n < n := by
  have hle := srch_le c n
  by_cases e : srch c n = n
  · exfalso
    apply h
    rw [bsm_cong (c' := fun _ => false) (fun k hk => srch_no c n k (by omega)), bsm_none]
  · omega
theorem bsm_nil {c : Nat → Bool} {n : Nat} (h : bsm c n = 0) : srch c n = n := by
  refine srch_none c n (fun k hk => ?_)
  have := bsm_tb c n k
  rw [h, Nat.zero_testBit] at this
  simpa [hk] using this.symm
theorem unseen_at {A : Av} {y : Nat} (hn : ∀ j, j < y → srch (frsh A j) (aN A) = aN A) (hy : y < 30) (h1 : srch (frsh A y) (aN A) < aN A) : a_unseenY A = y := by
  unfold a_unseenY
  refine srch_at (fun y => decide (srch (frsh A y) (aN A) < aN A)) y (fun j hj => ?_) ?_ 30 hy
  · simp only [decide_eq_false_iff_not]
    rw [hn j hj]
    omega
  · simp only [decide_eq_true_eq]
    exact h1
theorem low_is {c : Nat → Bool} {n : Nat} (hn : n ≤ 8) (h : srch c n < n) : srch (fun k => (bsm c n).testBit k) 7 = srch c n := by
  have hno : ∀ j, j < srch c n → (bsm c n).testBit j = false := fun j hj => by
    rw [bsm_tb, srch_no c n j hj]
    simp
  by_cases e : srch c n < 7
  · exact srch_at _ _ hno (by rw [bsm_tb, srch_yes c n h]; simp [h]) 7 e
  · have e7 : srch c n = 7 := by omega
    rw [e7]
    exact srch_none _ 7 (fun j hj => hno j (by omega))

theorem c_X10_unseen (l : Launch) (Γ : Ev) (d : Nat) (S : Sx) (A : Av) (lt : Int) (hQ : CQ S A lt) (w : Int) (h_w : R32 w) : Ctr l Γ (d + 5) mX10_unseen [rf Γ 0, vI w] S (pI (fun r S2 => r = a_unseen A w ∧ frK S S2)) := by
  refine Ctr.of (by decide) rfl rfl (Nat.le_of_ble_eq_true rfl) ?_
  intro κ hl hk hr
  subst hl
  obtain ⟨hC, hW, hWt, h09, h010⟩ := hQ
  obtain ⟨h15, n8, h62, n12, h132, m12⟩ := cl_n hC
  have f9 := hC.1.2.2.2.2.2.2.1
  refine G_iload_n hk dX10_unseen_0 rfl ?_
  refine G_iconst hk dX10_unseen_1 ?_
  refine G_iconst hk dX10_unseen_2 ?_
  refine G_cS3P hk dX10_unseen_3 msX10_isWithin mlX10_81 (Nat.le_of_ble_eq_true rfl) (c_X10_isWithin _ Γ (d + 4) _ _ _ _ ⟨by omega, by omega⟩ ⟨by omega, by omega⟩ ⟨by omega, by omega⟩) ?_
  refine G_bif_ne (tgt := 12) hk dX10_unseen_6 (by decide) (fun h_6 => ?_) (fun h_6 => ?_)
  · refine G_rload_n hk dX10_unseen_12 rfl ?_
    refine G_getR hk dX10_unseen_13 flX10_35 (by decide) rfl rfl ?_
    refine G_cV0V hk dX10_unseen_16 mvX3_begin mlX10_171 (by decide) rfl rfl (Nat.le_of_ble_eq_true rfl) (c_bg0 (d + 1) hC) (fun S_16 hp_16 => ?_)
    have hY := hp_16.1
    have hX := hY.1
    have hso := Yr_so hY (by omega)
    refine G_rload_n hk dX10_unseen_19 rfl ?_
    refine G_getR hk dX10_unseen_20 flX10_35 (by decide) rfl rfl ?_
    refine G_rload_n hk dX10_unseen_23 rfl ?_
    refine G_getI hk dX10_unseen_24 flX10_73 (by decide) rfl rfl ?_
    rw [hp_16.2 0 (by decide) (by decide) (by decide) (by decide), h09]
    refine G_cV1P hk dX10_unseen_27 mvX3_unseenBits mlX10_152 (by decide) rfl rfl (Nat.le_of_ble_eq_true rfl) (c_X3_unseenBits _ Γ (d + 3) _ A hY.2.1 _ hX hso _ ⟨by omega, by omega⟩) ?_
    refine G_istore_n hk dX10_unseen_30 (by decide) rfl ?_
    refine G_iconst hk dX10_unseen_31 ?_
    refine G_istore_n hk dX10_unseen_32 (by decide) rfl ?_
    have lp := loop_up (P := fun y => ∀ (S1 : Sx) (q4 : Option Value), (Yr A (-1) 0 (99 + 108 * (y : Int)) (lv A y) y y S1 ∧ frC S S1 ∧ (∀ j, j < y → srch (frsh A j) (aN A) = aN A)) → GW κ Γ 33 [some (rf Γ 0), some (vI w), some (vI (bsm (fun p => decide (a0 A p < aF A)) (aN A) : Int)), some (vI (y : Int)), q4] [] (wl Γ S1)) 30 ?_ ?_ 0 (Nat.zero_le _)
    · exact GW_L rfl (lp S_16 none ⟨hp_16.1, hp_16.2, fun j hj => absurd hj (by omega)⟩)
    · intro S1 q4 ⟨hY1, hf, hn⟩
      refine G_iload_n hk dX10_unseen_33 rfl ?_
      refine G_bipush hk dX10_unseen_34 (by decide) ?_
      refine G_icmp_gt (tgt := 89) hk dX10_unseen_36 (by decide) ⟨by omega, by omega⟩ ⟨by omega, by omega⟩ (fun h_36 => ?_) (fun h_36 => ?_)
      · refine G_iconst hk dX10_unseen_89 ?_
        exact G_iret hk hr dX10_unseen_90 ⟨by
          have e : a_unseenY A = 30 := by
            unfold a_unseenY
            exact srch_none _ 30 (fun j hj => decide_eq_false (by rw [hn j hj]; omega))
          unfold a_unseen a_unseenOf
          rw [if_neg (by omega), if_neg (by omega)], frC_K hf⟩
      · exact absurd h_36 (by omega)--stop
    · intro y hy9 ih S1 q4 ⟨hY1, hf, hn⟩
      have bm := bsm_31 (frsh A y) (n := aN A) (by omega)
      refine G_iload_n hk dX10_unseen_33 rfl ?_
      refine G_bipush hk dX10_unseen_34 (by decide) ?_
      refine G_icmp_gt (tgt := 89) hk dX10_unseen_36 (by decide) ⟨by omega, by omega⟩ ⟨by omega, by omega⟩ (fun h_36 => ?_) (fun h_36 => ?_)
      · exact absurd h_36 (by omega)--stop
      · refine G_rload_n hk dX10_unseen_39 rfl ?_
        refine G_getR hk dX10_unseen_40 flX10_35 (by decide) rfl rfl ?_
        refine G_iload_n hk dX10_unseen_43 rfl ?_
        refine G_cV1V hk dX10_unseen_44 mvX3_pass mlX10_174 (by decide) rfl rfl (Nat.le_of_ble_eq_true rfl) (c_X3_pass _ Γ (d + 0) _ A (-1) 0 _ _ y hY1 (OtOk_m1 hC.1) (by omega) (by omega)) (fun S_44 hp_44 => ?_)
        obtain ⟨hY, hf2⟩ := hp_44
        rw [show 99 + 108 * (y : Int) + 108 = 99 + 108 * ((y + 1 : Nat) : Int) by omega] at hY
        replace hY : Yr A (-1) 0 (99 + 108 * ((y + 1 : Nat) : Int)) (lv A (y + 1)) (y + 1) (y + 1) S_44 := hY
        have hfs := frC_t hf hf2
        have hX := hY.1
        have hso := Yr_so hY (by omega)
        refine G_rload_n hk dX10_unseen_47 rfl ?_
        refine G_getR hk dX10_unseen_48 flX10_35 (by decide) rfl rfl ?_
        refine G_rload_n hk dX10_unseen_51 rfl ?_
        refine G_getI hk dX10_unseen_52 flX10_73 (by decide) rfl rfl ?_
        rw [hfs 0 (by decide) (by decide) (by decide) (by decide), h09]
        refine G_cV1P hk dX10_unseen_55 mvX3_unseenBits mlX10_152 (by decide) rfl rfl (Nat.le_of_ble_eq_true rfl) (c_X3_unseenBits _ Γ (d + 3) _ A hY.2.1 _ hX hso _ ⟨by omega, by omega⟩) ?_
        refine G_iload_n hk dX10_unseen_58 rfl ?_
        refine G_iconst hk dX10_unseen_59 ?_
        refine G_ixor hk dX10_unseen_60 ?_
        refine G_iand hk dX10_unseen_61 ?_
        rw [frsh_b n8 y]
        refine G_istore hk dX10_unseen_62 (by decide) rfl ?_
        refine G_iload hk dX10_unseen_64 rfl ?_
        refine G_if_eq (tgt := 83) hk dX10_unseen_66 (by decide) ⟨by omega, by omega⟩ (fun h_66 => ?_) (fun h_66 => ?_)
        · refine G_iinc hk dX10_unseen_83 rfl (by decide) rfl ?_
          refine G_goto (tgt := 33) hk dX10_unseen_86 (by decide) ?_
          refine ih _ _ ⟨hY, hfs, fun j hj => ?_⟩
          by_cases e : j = y
          · rw [e]; exact bsm_nil (by omega)
          · exact hn j (by omega)
        · have hne : ¬ bsm (frsh A y) (aN A) = 0 := by omega
          have u2 := bsm_some hne
          have u1 := unseen_at hn hy9 u2
          refine G_iload_n hk dX10_unseen_69 rfl ?_
          refine G_if_ne (tgt := 77) hk dX10_unseen_70 (by decide) ⟨by omega, by omega⟩ (fun h_70 => ?_) (fun h_70 => ?_)
          · refine G_iload hk dX10_unseen_77 rfl ?_
            refine G_cS1P hk dX10_unseen_79 msX10_lowestOf mlX10_177 (Nat.le_of_ble_eq_true rfl) (c_X10_lowestOf _ Γ (d + 4) _ _ (by omega)) ?_
            exact G_iret hk hr dX10_unseen_82 ⟨by
                unfold a_unseen a_unseenOf
                rw [if_neg (by omega), u1, if_pos hy9, if_neg (by omega), low_is n8 u2], frC_K hfs⟩
          · refine G_iload_n hk dX10_unseen_73 rfl ?_
            refine G_goto (tgt := 82) hk dX10_unseen_74 (by decide) ?_
            exact G_iret hk hr dX10_unseen_82 ⟨by
                unfold a_unseen a_unseenOf
                rw [if_neg (by omega), u1, if_pos hy9, if_pos (by omega)], frC_K hfs⟩
  · refine G_bipush hk dX10_unseen_9 (by decide) ?_
    exact G_iret hk hr dX10_unseen_11 ⟨by unfold a_unseen; (repeat' split) <;> first | (exfalso; omega) | rfl, frK_0 S⟩

theorem c_X10_whole (l : Launch) (Γ : Ev) (d : Nat) (S : Sx) (A : Av) (lt : Int) (hQ : CQ S A lt) (y p wi sp w : Int) (h_y : R32 y) (h_p : R32 p) (h_wi : R32 wi) (h_sp : R32 sp) (h_w : R32 w) : Ctr l Γ (d + 5) mX10_whole [rf Γ 0, vI y, vI p, vI wi, vI sp, vI w] S (pI (fun r S2 => r = a_whole A y p wi sp w ∧ frK S S2)) := by
  refine Ctr.of (by decide) rfl rfl (Nat.le_of_ble_eq_true rfl) ?_
  intro κ hl hk hr
  subst hl
  obtain ⟨hC, hW, hWt, h09, h010⟩ := hQ
  obtain ⟨h15, n8, h62, n12, h132, m12⟩ := cl_n hC
  have f9 := hC.1.2.2.2.2.2.2.1
  refine G_iload_n hk dX10_whole_0 rfl ?_
  refine G_cS1P hk dX10_whole_1 msX10_isYear mlX10_110 (Nat.le_of_ble_eq_true rfl) (c_X10_isYear _ Γ (d + 3) _ _ ⟨by omega, by omega⟩) ?_
  refine G_bif_eq (tgt := 48) hk dX10_whole_4 (by decide) (fun h_4 => ?_) (fun h_4 => ?_)
  · refine G_bipush hk dX10_whole_48 (by decide) ?_
    exact G_iret hk hr dX10_whole_50 ⟨by unfold a_whole; (repeat' split) <;> first | (exfalso; omega) | rfl, frK_0 S⟩
  · refine G_rload_n hk dX10_whole_7 rfl ?_
    refine G_getR hk dX10_whole_8 flX10_10 (by decide) rfl rfl ?_
    refine G_iload_n hk dX10_whole_11 rfl ?_
    refine G_cV1P hk dX10_whole_12 mvX4_has mlX10_99 (by decide) rfl rfl (Nat.le_of_ble_eq_true rfl) (c_X4_has _ Γ (d + 4) _ _ ⟨by omega, by omega⟩ ⟨by omega, by omega⟩) ?_
    refine G_bif_eq (tgt := 48) hk dX10_whole_15 (by decide) (fun h_15 => ?_) (fun h_15 => ?_)
    · refine G_bipush hk dX10_whole_48 (by decide) ?_
      exact G_iret hk hr dX10_whole_50 ⟨by unfold a_whole; (repeat' split) <;> first | (exfalso; omega) | rfl, frK_0 S⟩
    · refine G_iload_n hk dX10_whole_18 rfl ?_
      refine G_iconst hk dX10_whole_19 ?_
      refine G_bipush hk dX10_whole_20 (by decide) ?_
      refine G_cS3P hk dX10_whole_22 msX10_isWithin mlX10_81 (Nat.le_of_ble_eq_true rfl) (c_X10_isWithin _ Γ (d + 4) _ _ _ _ ⟨by omega, by omega⟩ ⟨by omega, by omega⟩ ⟨by omega, by omega⟩) ?_
      refine G_bif_eq (tgt := 48) hk dX10_whole_25 (by decide) (fun h_25 => ?_) (fun h_25 => ?_)
      · refine G_bipush hk dX10_whole_48 (by decide) ?_
        exact G_iret hk hr dX10_whole_50 ⟨by unfold a_whole; (repeat' split) <;> first | (exfalso; omega) | rfl, frK_0 S⟩
      · refine G_iload hk dX10_whole_28 rfl ?_
        refine G_iconst hk dX10_whole_30 ?_
        refine G_iconst hk dX10_whole_31 ?_
        refine G_cS3P hk dX10_whole_32 msX10_isWithin mlX10_81 (Nat.le_of_ble_eq_true rfl) (c_X10_isWithin _ Γ (d + 4) _ _ _ _ ⟨by omega, by omega⟩ ⟨by omega, by omega⟩ ⟨by omega, by omega⟩) ?_
        refine G_bif_eq (tgt := 48) hk dX10_whole_35 (by decide) (fun h_35 => ?_) (fun h_35 => ?_)
        · refine G_bipush hk dX10_whole_48 (by decide) ?_
          exact G_iret hk hr dX10_whole_50 ⟨by unfold a_whole; (repeat' split) <;> first | (exfalso; omega) | rfl, frK_0 S⟩
        · refine G_iload hk dX10_whole_38 rfl ?_
          refine G_iconst hk dX10_whole_40 ?_
          refine G_iconst hk dX10_whole_41 ?_
          refine G_cS3P hk dX10_whole_42 msX10_isWithin mlX10_81 (Nat.le_of_ble_eq_true rfl) (c_X10_isWithin _ Γ (d + 4) _ _ _ _ ⟨by omega, by omega⟩ ⟨by omega, by omega⟩ ⟨by omega, by omega⟩) ?_
          refine G_bif_ne (tgt := 51) hk dX10_whole_45 (by decide) (fun h_45 => ?_) (fun h_45 => ?_)
          · refine G_rload_n hk dX10_whole_51 rfl ?_
            refine G_getR hk dX10_whole_52 flX10_35 (by decide) rfl rfl ?_
            refine G_iload_n hk dX10_whole_55 rfl ?_
            refine G_cV1V hk dX10_whole_56 mvX3_goThrough mlX10_146 (by decide) rfl rfl (Nat.le_of_ble_eq_true rfl) (c_X3_goThrough _ Γ (d + 0) _ A hC _ (y.toNat + 1) (by omega) (by omega)) (fun S_56 hp_56 => ?_)
            obtain ⟨hY, hf⟩ := hp_56
            obtain ⟨q15, -, q62, -, -, -⟩ := cl_n hY.2.1
            have hX := hY.1
            have hso := Yr_so hY (by omega)
            refine G_rload_n hk dX10_whole_59 rfl ?_
            refine G_getR hk dX10_whole_60 flX10_42 (by decide) rfl rfl ?_
            refine G_rload_n hk dX10_whole_63 rfl ?_
            refine G_getR hk dX10_whole_64 flX10_35 (by decide) rfl rfl ?_
            refine G_iload_n hk dX10_whole_67 rfl ?_
            refine G_iload_n hk dX10_whole_68 rfl ?_
            refine G_iload hk dX10_whole_69 rfl ?_
            refine G_cV4I hk dX10_whole_71 mvX6_plan mlX10_180 (by decide) rfl rfl (Nat.le_of_ble_eq_true rfl) (c_X6_plan _ Γ (d + 1) _ A (-1) 0 _ _ _ _ hY (by omega) p wi sp ⟨by omega, by omega⟩ ⟨by omega, by omega⟩ ⟨by omega, by omega⟩) (fun r_71 S_71 hp_71 => ?_)
            have r01 : 0 ≤ r_71 ∧ r_71 ≤ 1 := by rcases hp_71.1 with ⟨_, g⟩ | ⟨c, m, u, _, _, _, g, _⟩ <;> omega
            refine G_if_ne (tgt := 79) hk dX10_whole_74 (by decide) ⟨by omega, by omega⟩ (fun h_74 => ?_) (fun h_74 => ?_)
            · obtain ⟨c, m, u, g1, g2, g3, hr1, g4, g5⟩ := hp_71.1.resolve_left (fun g => h_74 g.2)
              refine G_iload hk dX10_whole_79 rfl ?_
              refine G_if_ne (tgt := 94) hk dX10_whole_81 (by decide) ⟨by omega, by omega⟩ (fun h_81 => ?_) (fun h_81 => ?_)
              · refine G_rload_n hk dX10_whole_94 rfl ?_
                refine G_getR hk dX10_whole_95 flX10_42 (by decide) rfl rfl ?_
                refine G_cV0P hk dX10_whole_98 mvX6_loss mlX10_187 (by decide) rfl rfl (Nat.le_of_ble_eq_true rfl) (c_X6_loss _ Γ (d + 4) _ c m u g1 g2 g3 g4) ?_
                exact G_iret hk hr dX10_whole_101 ⟨by unfold a_whole a_wholeOf; rw [g5]; (repeat' split) <;> first | (exfalso; omega) | rfl, frK_t (frC_K hf) (fun c a _ _ _ _ => hp_71.2 c (by omega) (by omega))⟩
              · refine G_rload_n hk dX10_whole_84 rfl ?_
                refine G_getR hk dX10_whole_85 flX10_42 (by decide) rfl rfl ?_
                refine G_cV0P hk dX10_whole_88 mvX6_burntBits mlX10_184 (by decide) rfl rfl (Nat.le_of_ble_eq_true rfl) (c_X6_burntBits _ Γ (d + 4) _ c m u g1 g2 g3 g4) ?_
                refine G_goto (tgt := 101) hk dX10_whole_91 (by decide) ?_
                exact G_iret hk hr dX10_whole_101 ⟨by unfold a_whole a_wholeOf; rw [g5]; (repeat' split) <;> first | (exfalso; omega) | rfl, frK_t (frC_K hf) (fun c a _ _ _ _ => hp_71.2 c (by omega) (by omega))⟩
            · have hw1 : wh A (lv A (y.toNat + 1)) p wi sp (2 ^ anp A) = (-1, -1) := by
                rcases hp_71.1 with ⟨g, _⟩ | ⟨c, m, u, _, _, _, g, _⟩
                · exact g
                · exfalso; omega
              refine G_iconst hk dX10_whole_77 ?_
              exact G_iret hk hr dX10_whole_78 ⟨by unfold a_whole a_wholeOf; rw [hw1]; (repeat' split) <;> first | (exfalso; omega) | rfl, frK_t (frC_K hf) (fun c a _ _ _ _ => hp_71.2 c (by omega) (by omega))⟩
          · refine G_bipush hk dX10_whole_48 (by decide) ?_
            exact G_iret hk hr dX10_whole_50 ⟨by unfold a_whole; (repeat' split) <;> first | (exfalso; omega) | rfl, frK_0 S⟩

theorem c_X10_feast (l : Launch) (Γ : Ev) (d : Nat) (S : Sx) (A : Av) (lt : Int) (hQ : CQ S A lt) (y z : Int) (h_y : R32 y) (h_z : R32 z) : Ctr l Γ (d + 5) mX10_feast [rf Γ 0, vI y, vI z] S (pI (fun r S2 => r = a_feast A y z ∧ frK S S2)) := by
  refine Ctr.of (by decide) rfl rfl (Nat.le_of_ble_eq_true rfl) ?_
  intro κ hl hk hr
  subst hl
  obtain ⟨hC, hW, hWt, h09, h010⟩ := hQ
  obtain ⟨h15, n8, h62, n12, h132, m12⟩ := cl_n hC
  have f9 := hC.1.2.2.2.2.2.2.1
  refine G_iload_n hk dX10_feast_0 rfl ?_
  refine G_cS1P hk dX10_feast_1 msX10_isYear mlX10_110 (Nat.le_of_ble_eq_true rfl) (c_X10_isYear _ Γ (d + 3) _ _ ⟨by omega, by omega⟩) ?_
  refine G_bif_eq (tgt := 14) hk dX10_feast_4 (by decide) (fun h_4 => ?_) (fun h_4 => ?_)
  · refine G_bipush hk dX10_feast_14 (by decide) ?_
    exact G_iret hk hr dX10_feast_16 ⟨by unfold a_feast; (repeat' split) <;> first | (exfalso; omega) | rfl, frK_0 S⟩
  · refine G_iload_n hk dX10_feast_7 rfl ?_
    refine G_cS1P hk dX10_feast_8 msX10_isSize mlX10_113 (Nat.le_of_ble_eq_true rfl) (c_X10_isSize _ Γ (d + 3) _ _ ⟨by omega, by omega⟩) ?_
    refine G_bif_ne (tgt := 17) hk dX10_feast_11 (by decide) (fun h_11 => ?_) (fun h_11 => ?_)
    · refine G_rload_n hk dX10_feast_17 rfl ?_
      refine G_getR hk dX10_feast_18 flX10_35 (by decide) rfl rfl ?_
      refine G_iload_n hk dX10_feast_21 rfl ?_
      refine G_cV1V hk dX10_feast_22 mvX3_goThrough mlX10_146 (by decide) rfl rfl (Nat.le_of_ble_eq_true rfl) (c_X3_goThrough _ Γ (d + 0) _ A hC _ (y.toNat + 1) (by omega) (by omega)) (fun S_22 hp_22 => ?_)
      obtain ⟨hY, hf⟩ := hp_22
      obtain ⟨q15, -, q62, -, -, -⟩ := cl_n hY.2.1
      have hX := hY.1
      have hso := Yr_so hY (by omega)
      refine G_iconst hk dX10_feast_25 ?_
      refine G_istore_n hk dX10_feast_26 (by decide) rfl ?_
      refine G_iconst hk dX10_feast_27 ?_
      refine G_istore hk dX10_feast_28 (by decide) rfl ?_
      have lp := loop_up (P := fun k => ∀ q5 : Option Value, GW κ Γ 30 [some (rf Γ 0), some (vI y), some (vI z), some (vI (ssm (fun p => if (lv A (y.toNat + 1)).1 p < aF A then 0 else ((lv A (y.toNat + 1)).1 p - aF A) / z) k)), some (vI (k : Int)), q5] [] (wl Γ S_22)) (aN A) ?_ ?_ 0 (Nat.zero_le _) none
      · exact GW_L rfl lp
      · intro q5
        refine G_iload hk dX10_feast_30 rfl ?_
        refine G_rload_n hk dX10_feast_32 rfl ?_
        refine G_getR hk dX10_feast_33 flX10_10 (by decide) rfl rfl ?_
        refine G_cV0P hk dX10_feast_36 mvX4_howMany mlX10_190 (by decide) rfl rfl (Nat.le_of_ble_eq_true rfl) (c_X4_howMany _ Γ (d + 4) _) ?_
        rw [q15]
        refine G_icmp_ge (tgt := 80) hk dX10_feast_39 (by decide) ⟨by omega, by omega⟩ ⟨by omega, by omega⟩ (fun h_39 => ?_) (fun h_39 => ?_)
        · refine G_iload_n hk dX10_feast_80 rfl ?_
          exact G_iret hk hr dX10_feast_81 ⟨by unfold a_feast; rw [if_neg (by omega), if_neg (by omega)]; rfl, frC_K hf⟩
        · exact absurd h_39 (by omega)--stop
      · intro k hk9 ih q5
        have hx := hso k hk9
        refine G_iload hk dX10_feast_30 rfl ?_
        refine G_rload_n hk dX10_feast_32 rfl ?_
        refine G_getR hk dX10_feast_33 flX10_10 (by decide) rfl rfl ?_
        refine G_cV0P hk dX10_feast_36 mvX4_howMany mlX10_190 (by decide) rfl rfl (Nat.le_of_ble_eq_true rfl) (c_X4_howMany _ Γ (d + 4) _) ?_
        rw [q15]
        refine G_icmp_ge (tgt := 80) hk dX10_feast_39 (by decide) ⟨by omega, by omega⟩ ⟨by omega, by omega⟩ (fun h_39 => ?_) (fun h_39 => ?_)
        · exact absurd h_39 (by omega)--stop
        · refine G_rload_n hk dX10_feast_42 rfl ?_
          refine G_getR hk dX10_feast_43 flX10_35 (by decide) rfl rfl ?_
          refine G_iload hk dX10_feast_46 rfl ?_
          refine G_cV1P hk dX10_feast_48 mvX3_solidOf mlX10_149 (by decide) rfl rfl (Nat.le_of_ble_eq_true rfl) (c_X3_solidOf _ Γ (d + 3) _ _ ⟨by omega, by omega⟩ ⟨by omega, by omega⟩) ?_
          rw [if_pos (by omega), show ((k : Int)).toNat = k from rfl, hX.1 k (by omega)]
          refine G_rload_n hk dX10_feast_51 rfl ?_
          refine G_getI hk dX10_feast_52 flX10_73 (by decide) rfl rfl ?_
          rw [hf 0 (by decide) (by decide) (by decide) (by decide), h09]
          refine G_isub hk dX10_feast_55 ?_
          refine G_istore hk dX10_feast_56 (by decide) rfl ?_
          refine G_iload_n hk dX10_feast_58 rfl ?_
          refine G_iload hk dX10_feast_59 rfl ?_
          refine G_if_le (tgt := 71) hk dX10_feast_61 (by decide) ⟨by omega, by omega⟩ (fun h_61 => ?_) (fun h_61 => ?_)
          · refine G_iconst hk dX10_feast_71 ?_
            refine G_iadd hk dX10_feast_72 ?_
            refine G_istore_n hk dX10_feast_73 (by decide) rfl ?_
            refine G_iinc hk dX10_feast_74 rfl (by decide) rfl ?_
            refine G_goto (tgt := 30) hk dX10_feast_77 (by decide) ?_
            have e9 : ssm (fun p => if (lv A (y.toNat + 1)).1 p < aF A then 0 else ((lv A (y.toNat + 1)).1 p - aF A) / z) k + 0 = ssm (fun p => if (lv A (y.toNat + 1)).1 p < aF A then 0 else ((lv A (y.toNat + 1)).1 p - aF A) / z) (k + 1) := by
              simp only [ssm]
              congr 1
              by_cases q : (lv A (y.toNat + 1)).1 k < aF A
              · rw [if_pos q]
              · rw [if_neg q, show (lv A (y.toNat + 1)).1 k - aF A = 0 by omega, Int.zero_ediv]
            rw [← e9] at ih
            exact ih _
          · refine G_iload hk dX10_feast_64 rfl ?_
            refine G_iload_n hk dX10_feast_66 rfl ?_
            refine G_idiv hk dX10_feast_67 (by omega) (by omega) (by omega) (by omega) ?_
            refine G_goto (tgt := 72) hk dX10_feast_68 (by decide) ?_
            refine G_iadd hk dX10_feast_72 ?_
            refine G_istore_n hk dX10_feast_73 (by decide) rfl ?_
            refine G_iinc hk dX10_feast_74 rfl (by decide) rfl ?_
            refine G_goto (tgt := 30) hk dX10_feast_77 (by decide) ?_
            have e9 : ssm (fun p => if (lv A (y.toNat + 1)).1 p < aF A then 0 else ((lv A (y.toNat + 1)).1 p - aF A) / z) k + ((lv A (y.toNat + 1)).1 k - aF A) / z = ssm (fun p => if (lv A (y.toNat + 1)).1 p < aF A then 0 else ((lv A (y.toNat + 1)).1 p - aF A) / z) (k + 1) := by
              simp only [ssm]
              congr 1
              rw [if_neg (by omega)]
            rw [← e9] at ih
            exact ih _
    · refine G_bipush hk dX10_feast_14 (by decide) ?_
      exact G_iret hk hr dX10_feast_16 ⟨by unfold a_feast; (repeat' split) <;> first | (exfalso; omega) | rfl, frK_0 S⟩

/-- what burnings give does not rest on how solid one is -/
theorem burn_add {np : Nat} {tw P B : Nat → Int} {y : Int} {X X' : Sim} (h : X'.2 = X.2) : ∀ m, (itN (burn1 np tw P B y) m X').2 = (itN (burn1 np tw P B y) m X).2 ∧ ∀ j, (itN (burn1 np tw P B y) m X').1 j - X'.1 j = (itN (burn1 np tw P B y) m X).1 j - X.1 j
  | 0 => ⟨h, fun j => by show X'.1 j - X'.1 j = X.1 j - X.1 j; omega⟩
  | m + 1 => by
    obtain ⟨i1, i2⟩ := burn_add (np := np) (tw := tw) (P := P) (B := B) (y := y) h m
    have e1 : itN (burn1 np tw P B y) (m + 1) X = burn1 np tw P B y m (itN (burn1 np tw P B y) m X) := rfl
    have e2 : itN (burn1 np tw P B y) (m + 1) X' = burn1 np tw P B y m (itN (burn1 np tw P B y) m X') := rfl
    rw [e1, e2]
    generalize itN (burn1 np tw P B y) m X = Z at *
    generalize itN (burn1 np tw P B y) m X' = Z' at *
    have s1 : Z'.2.2 = Z.2.2 := by rw [i1]
    have s2 : Z'.2.1 = Z.2.1 := by rw [i1]
    unfold burn1
    rw [s1]
    split
    · refine ⟨?_, fun j => ?_⟩
      · show (Z'.2.1, upf Z'.2.2 _ 2) = (Z.2.1, upf Z.2.2 _ 2)
        rw [s1, s2]
      · have := i2 j
        show sBu tw _ (Z'.2.1 _) (Z'.2.1 _) Z'.1 j - _ = sBu tw _ (Z.2.1 _) (Z.2.1 _) Z.1 j - _
        rw [s2]
        unfold sBu
        (repeat' split) <;> omega
    · exact ⟨i1, i2⟩
theorem spy_is {A : Av} {y p : Nat} {t B G : Int} (ht : 0 ≤ t) (hB : B = (takeN (aN A) (anp A) (aTw A) (aP A) (-1) 0 (y : Int) (lv A y)).1 p) (hB0 : 0 ≤ B) (hG : G = (lv A (y + 1)).1 p - B) : (spyX A y p t).1 p = (if B - t < 0 then 0 else B - t) + G := by
  have eL : lv A (y + 1) = burnN (anp A) (anb A) (aTw A) (aP A) (aB A) (y : Int) (takeN (aN A) (anp A) (aTw A) (aP A) (-1) 0 (y : Int) (lv A y)) := rfl
  rw [eL] at hG
  unfold spyX
  generalize takeN (aN A) (anp A) (aTw A) (aP A) (-1) 0 (y : Int) (lv A y) = Z at *
  by_cases q : 0 < t
  · rw [if_pos q]
    have h := (burn_add (np := anp A) (tw := aTw A) (P := aP A) (B := aB A) (y := (y : Int)) (X := Z) (X' := spy1 p t Z) rfl (anb A)).2 p
    have e : (spy1 p t Z).1 p = Z.1 p - lsr t (Z.1 p) := by simp [spy1, upf]
    rw [e] at h
    unfold burnN at hG ⊢
    rw [← hB] at h
    unfold lsr at h
    split at h <;> split <;> omega
  · rw [if_neg q]
    split <;> omega

theorem c_X10_spy (l : Launch) (Γ : Ev) (d : Nat) (S : Sx) (A : Av) (lt : Int) (hQ : CQ S A lt) (y p z : Int) (h_y : R32 y) (h_p : R32 p) (h_z : R32 z) : Ctr l Γ (d + 5) mX10_spy [rf Γ 0, vI y, vI p, vI z] S (pI (fun r S2 => r = a_spy A y p z ∧ frK S S2)) := by
  refine Ctr.of (by decide) rfl rfl (Nat.le_of_ble_eq_true rfl) ?_
  intro κ hl hk hr
  subst hl
  obtain ⟨hC, hW, hWt, h09, h010⟩ := hQ
  obtain ⟨h15, n8, h62, n12, h132, m12⟩ := cl_n hC
  have f9 := hC.1.2.2.2.2.2.2.1
  refine G_iload_n hk dX10_spy_0 rfl ?_
  refine G_cS1P hk dX10_spy_1 msX10_isYear mlX10_110 (Nat.le_of_ble_eq_true rfl) (c_X10_isYear _ Γ (d + 3) _ _ ⟨by omega, by omega⟩) ?_
  refine G_bif_eq (tgt := 25) hk dX10_spy_4 (by decide) (fun h_4 => ?_) (fun h_4 => ?_)
  · refine G_bipush hk dX10_spy_25 (by decide) ?_
    exact G_iret hk hr dX10_spy_27 ⟨by unfold a_spy; (repeat' split) <;> first | (exfalso; omega) | rfl, frK_0 S⟩
  · refine G_rload_n hk dX10_spy_7 rfl ?_
    refine G_getR hk dX10_spy_8 flX10_10 (by decide) rfl rfl ?_
    refine G_iload_n hk dX10_spy_11 rfl ?_
    refine G_cV1P hk dX10_spy_12 mvX4_has mlX10_99 (by decide) rfl rfl (Nat.le_of_ble_eq_true rfl) (c_X4_has _ Γ (d + 4) _ _ ⟨by omega, by omega⟩ ⟨by omega, by omega⟩) ?_
    refine G_bif_eq (tgt := 25) hk dX10_spy_15 (by decide) (fun h_15 => ?_) (fun h_15 => ?_)
    · refine G_bipush hk dX10_spy_25 (by decide) ?_
      exact G_iret hk hr dX10_spy_27 ⟨by unfold a_spy; (repeat' split) <;> first | (exfalso; omega) | rfl, frK_0 S⟩
    · refine G_iload_n hk dX10_spy_18 rfl ?_
      refine G_cS1P hk dX10_spy_19 msX10_isSize mlX10_113 (Nat.le_of_ble_eq_true rfl) (c_X10_isSize _ Γ (d + 3) _ _ ⟨by omega, by omega⟩) ?_
      refine G_bif_ne (tgt := 28) hk dX10_spy_22 (by decide) (fun h_22 => ?_) (fun h_22 => ?_)
      · obtain ⟨yy, rfl⟩ : ∃ yy : Nat, y = (yy : Int) := ⟨y.toNat, by omega⟩
        refine G_rload_n hk dX10_spy_28 rfl ?_
        refine G_getR hk dX10_spy_29 flX10_35 (by decide) rfl rfl ?_
        refine G_iload_n hk dX10_spy_32 rfl ?_
        refine G_iconst hk dX10_spy_33 ?_
        refine G_isub hk dX10_spy_34 ?_
        refine G_cV1V hk dX10_spy_35 mvX3_goThrough mlX10_146 (by decide) rfl rfl (Nat.le_of_ble_eq_true rfl) (c_X3_goThrough _ Γ (d + 0) _ A hC _ yy (by omega) (by omega)) (fun S_35 hp_35 => ?_)
        refine G_rload_n hk dX10_spy_38 rfl ?_
        refine G_getR hk dX10_spy_39 flX10_35 (by decide) rfl rfl ?_
        refine G_iload_n hk dX10_spy_42 rfl ?_
        refine G_cV1V hk dX10_spy_43 mvX3_takeAllOf mlX10_191 (by decide) rfl rfl (Nat.le_of_ble_eq_true rfl) (c_ta (d + 1) hp_35.1 (OtOk_m1 hC.1) (by omega) (by omega)) (fun S_43 hp_43 => ?_)
        obtain ⟨hY, hf1⟩ := hp_43
        obtain ⟨q15, -, -, -, -, -⟩ := cl_n hY.2.1
        have hX := hY.1
        have hso := Yr_so hY (by omega)
        refine G_rload_n hk dX10_spy_46 rfl ?_
        refine G_getR hk dX10_spy_47 flX10_35 (by decide) rfl rfl ?_
        refine G_iload_n hk dX10_spy_50 rfl ?_
        refine G_cV1P hk dX10_spy_51 mvX3_solidOf mlX10_149 (by decide) rfl rfl (Nat.le_of_ble_eq_true rfl) (c_X3_solidOf _ Γ (d + 3) _ _ ⟨by omega, by omega⟩ ⟨by omega, by omega⟩) ?_
        rw [if_pos (by omega), hX.1 p.toNat (by omega)]
        have b1 := hso p.toNat (by omega)
        obtain ⟨B, hBe⟩ : ∃ B, B = (takeN (aN A) (anp A) (aTw A) (aP A) (-1) 0 (yy : Int) (lv A yy)).1 p.toNat := ⟨_, rfl⟩
        rw [← hBe] at b1 ⊢
        refine G_istore hk dX10_spy_54 (by decide) rfl ?_
        refine G_rload_n hk dX10_spy_56 rfl ?_
        refine G_getR hk dX10_spy_57 flX10_35 (by decide) rfl rfl ?_
        refine G_iload_n hk dX10_spy_60 rfl ?_
        refine G_cV1V hk dX10_spy_61 mvX3_burnAllOf mlX10_194 (by decide) rfl rfl (Nat.le_of_ble_eq_true rfl) (c_ba (d + 1) hY (by omega)) (fun S_61 hp_61 => ?_)
        obtain ⟨hZ, hf2⟩ := hp_61
        replace hZ : Yr A (-1) 0 (99 + 108 * (yy : Int) + 108) (lv A (yy + 1)) (yy + 1) (yy + 1) S_61 := hZ
        obtain ⟨z15, -, -, -, -, -⟩ := cl_n hZ.2.1
        have hZX := hZ.1
        have hso2 := Yr_so hZ (by omega)
        have hfs := frC_t hp_35.2 (frC_t hf1 hf2)
        refine G_rload_n hk dX10_spy_64 rfl ?_
        refine G_getR hk dX10_spy_65 flX10_35 (by decide) rfl rfl ?_
        refine G_iload_n hk dX10_spy_68 rfl ?_
        refine G_cV1P hk dX10_spy_69 mvX3_solidOf mlX10_149 (by decide) rfl rfl (Nat.le_of_ble_eq_true rfl) (c_X3_solidOf _ Γ (d + 3) _ _ ⟨by omega, by omega⟩ ⟨by omega, by omega⟩) ?_
        rw [if_pos (by omega), hZX.1 p.toNat (by omega)]
        have b2 := hso2 p.toNat (by omega)
        obtain ⟨L, hLe⟩ : ∃ L, L = (lv A (yy + 1)).1 p.toNat := ⟨_, rfl⟩
        rw [← hLe] at b2 ⊢
        refine G_iload hk dX10_spy_72 rfl ?_
        refine G_isub hk dX10_spy_74 ?_
        refine G_istore hk dX10_spy_75 (by decide) rfl ?_
        refine G_iconst hk dX10_spy_77 ?_
        refine G_istore hk dX10_spy_78 (by decide) rfl ?_
        have lp := loop_up (P := fun n => (∀ j, j < n → spc A (yy : Int) p z j = false) → GW κ Γ 80 [some (rf Γ 0), some (vI (yy : Int)), some (vI p), some (vI z), some (vI B), some (vI (L - B)), some (vI (n : Int))] [] (wl Γ S_61)) 100 ?_ ?_ 0 (Nat.zero_le _) (fun j hj => absurd hj (by omega))
        · exact lp
        · intro hn
          refine G_iload hk dX10_spy_80 rfl ?_
          refine G_bipush hk dX10_spy_82 (by decide) ?_
          refine G_icmp_gt (tgt := 117) hk dX10_spy_84 (by decide) ⟨by omega, by omega⟩ ⟨by omega, by omega⟩ (fun h_84 => ?_) (fun h_84 => ?_)
          · refine G_iconst hk dX10_spy_117 ?_
            exact G_iret hk hr dX10_spy_118 ⟨by unfold a_spy; rw [if_neg (by omega), if_neg (by omega), if_neg (by omega)]; unfold a_spyOf; rw [srch_none _ 100 hn, if_neg (by omega)], frC_K hfs⟩
          · exact absurd h_84 (by omega)--stop
        · intro n hn9 ih hn
          have hnz : 0 ≤ (n : Int) * z ∧ (n : Int) * z ≤ 891 := ⟨Int.mul_nonneg (by omega) (by omega), by have := Int.mul_le_mul (show (n : Int) ≤ 99 by omega) (show z ≤ 9 by omega) (by omega) (by omega); omega⟩
          have hsp := spy_is (A := A) (y := yy) (p := p.toNat) (t := (n : Int) * z) (B := B) (G := L - B) hnz.1 hBe (by omega) (by rw [hLe])
          have mx : 0 ≤ (if B - (n : Int) * z < 0 then 0 else B - (n : Int) * z) ∧ (if B - (n : Int) * z < 0 then 0 else B - (n : Int) * z) ≤ B := by split <;> omega
          refine G_iload hk dX10_spy_80 rfl ?_
          refine G_bipush hk dX10_spy_82 (by decide) ?_
          refine G_icmp_gt (tgt := 117) hk dX10_spy_84 (by decide) ⟨by omega, by omega⟩ ⟨by omega, by omega⟩ (fun h_84 => ?_) (fun h_84 => ?_)
          · exact absurd h_84 (by omega)--stop
          · refine G_iload hk dX10_spy_87 rfl ?_
            refine G_iload hk dX10_spy_89 rfl ?_
            refine G_iload_n hk dX10_spy_91 rfl ?_
            refine G_imul hk dX10_spy_92 ?_
            refine G_isub hk dX10_spy_93 ?_
            refine G_iconst hk dX10_spy_94 ?_
            refine G_cS2P hk dX10_spy_95 msJ9_max_7cf53 mlX10_197 (Nat.le_of_ble_eq_true rfl) (c_J9_max _ Γ (d + 4) _ _ _ ⟨by omega, by omega⟩ ⟨by omega, by omega⟩) ?_
            refine G_iload hk dX10_spy_98 rfl ?_
            refine G_iadd hk dX10_spy_100 ?_
            refine G_rload_n hk dX10_spy_101 rfl ?_
            refine G_getI hk dX10_spy_102 flX10_73 (by decide) rfl rfl ?_
            rw [hfs 0 (by decide) (by decide) (by decide) (by decide), h09]
            refine G_icmp_ge (tgt := 111) hk dX10_spy_105 (by decide) ⟨by omega, by omega⟩ ⟨by omega, by omega⟩ (fun h_105 => ?_) (fun h_105 => ?_)
            · refine G_iinc hk dX10_spy_111 rfl (by decide) rfl ?_
              refine G_goto (tgt := 80) hk dX10_spy_114 (by decide) ?_
              refine ih (fun j hj => ?_)
              by_cases e : j = n
              · rw [e]; unfold spc; rw [show ((yy : Int)).toNat = yy from rfl, hsp]; exact decide_eq_false (by omega)
              · exact hn j (by omega)
            · refine G_iload hk dX10_spy_108 rfl ?_
              exact G_iret hk hr dX10_spy_110 ⟨by
              have e : srch (spc A (yy : Int) p z) 100 = n := srch_at _ n hn (by unfold spc; rw [show ((yy : Int)).toNat = yy from rfl, hsp]; exact decide_eq_true (by omega)) 100 hn9
              unfold a_spy
              rw [if_neg (by omega), if_neg (by omega), if_neg (by omega)]
              unfold a_spyOf
              rw [e, if_pos hn9], frC_K hfs⟩
      · refine G_bipush hk dX10_spy_25 (by decide) ?_
        exact G_iret hk hr dX10_spy_27 ⟨by unfold a_spy; (repeat' split) <;> first | (exfalso; omega) | rfl, frK_0 S⟩

theorem fsw_sw (c : Nat → Bool) (W P : Nat → Int) {n : Nat} (hn : n ≤ 12) (li : Nat → Int) : (fsw c W P n li = -1 ∧ sw1 c W P n li = -1 ∧ sw2 c W P n li = -1) ∨ (0 ≤ fsw c W P n li ∧ fsw c W P n li < 144 ∧ fsw c W P n li / 12 = sw1 c W P n li ∧ fsw c W P n li % 12 = sw2 c W P n li) := by
  unfold fsw sw1 sw2
  by_cases h : pJ c W P n li < n
  · obtain ⟨p1, p2, _⟩ := pair_in h
    rw [if_pos h, if_pos h, if_pos h]
    right
    omega
  · rw [if_neg h, if_neg h, if_neg h]
    left
    exact ⟨rfl, rfl, rfl⟩

theorem c_X10_swap (l : Launch) (Γ : Ev) (d : Nat) (S : Sx) (A : Av) (lt : Int) (hQ : CQ S A lt) (y w : Int) (h_y : R32 y) (h_w : R32 w) : Ctr l Γ (d + 5) mX10_swap [rf Γ 0, vI y, vI w] S (pI (fun r S2 => r = a_swap A y w ∧ frK S S2)) := by
  refine Ctr.of (by decide) rfl rfl (Nat.le_of_ble_eq_true rfl) ?_
  intro κ hl hk hr
  subst hl
  obtain ⟨hC, hW, hWt, h09, h010⟩ := hQ
  obtain ⟨h15, n8, h62, n12, h132, m12⟩ := cl_n hC
  have f9 := hC.1.2.2.2.2.2.2.1
  refine G_iload_n hk dX10_swap_0 rfl ?_
  refine G_cS1P hk dX10_swap_1 msX10_isYear mlX10_110 (Nat.le_of_ble_eq_true rfl) (c_X10_isYear _ Γ (d + 3) _ _ ⟨by omega, by omega⟩) ?_
  refine G_bif_eq (tgt := 16) hk dX10_swap_4 (by decide) (fun h_4 => ?_) (fun h_4 => ?_)
  · refine G_bipush hk dX10_swap_16 (by decide) ?_
    exact G_iret hk hr dX10_swap_18 ⟨by unfold a_swap; (repeat' split) <;> first | (exfalso; omega) | rfl, frK_0 S⟩
  · refine G_iload_n hk dX10_swap_7 rfl ?_
    refine G_iconst hk dX10_swap_8 ?_
    refine G_iconst hk dX10_swap_9 ?_
    refine G_cS3P hk dX10_swap_10 msX10_isWithin mlX10_81 (Nat.le_of_ble_eq_true rfl) (c_X10_isWithin _ Γ (d + 4) _ _ _ _ ⟨by omega, by omega⟩ ⟨by omega, by omega⟩ ⟨by omega, by omega⟩) ?_
    refine G_bif_ne (tgt := 19) hk dX10_swap_13 (by decide) (fun h_13 => ?_) (fun h_13 => ?_)
    · refine G_rload_n hk dX10_swap_19 rfl ?_
      refine G_getR hk dX10_swap_20 flX10_35 (by decide) rfl rfl ?_
      refine G_iload_n hk dX10_swap_23 rfl ?_
      refine G_cV1V hk dX10_swap_24 mvX3_goThrough mlX10_146 (by decide) rfl rfl (Nat.le_of_ble_eq_true rfl) (c_X3_goThrough _ Γ (d + 0) _ A hC _ (y.toNat + 1) (by omega) (by omega)) (fun S_24 hp_24 => ?_)
      obtain ⟨hY, hf⟩ := hp_24
      obtain ⟨q15, -, q62, -, -, -⟩ := cl_n hY.2.1
      have hX := hY.1
      have hso := Yr_so hY (by omega)
      have hcn : ∀ k, k < 12 → a_swc A y k = true → k < anp A := fun k hk h => Yr_np hY k hk (by unfold a_swc at h; simp only [decide_eq_true_eq] at h; rw [h]; decide)
      have hcc : CcO A (a_swc A y) (a_li A) := ⟨hC.1, hcn, fun k hk => (hC.1.2.2.2.1 k hk).2.2.2⟩
      refine G_rload_n hk dX10_swap_27 rfl ?_
      refine G_getR hk dX10_swap_28 flX10_49 (by decide) rfl rfl ?_
      refine G_rload_n hk dX10_swap_31 rfl ?_
      refine G_getR hk dX10_swap_32 flX10_19 (by decide) rfl rfl ?_
      refine G_rload_n hk dX10_swap_35 rfl ?_
      refine G_getR hk dX10_swap_36 flX10_35 (by decide) rfl rfl ?_
      refine G_cV0P hk dX10_swap_39 mvX3_thereBits mlX10_155 (by decide) rfl rfl (Nat.le_of_ble_eq_true rfl) (c_X3_thereBits _ Γ (d + 4) _ _ _ hX (Yr_st hY)) ?_
      refine G_cV2V hk dX10_swap_42 mvX2_gather mlX10_202 (by decide) rfl rfl (Nat.le_of_ble_eq_true rfl) (c_X2_gather _ Γ (d + 2) _ A hY.2.1 (fun w hw => by rw [hf 24 (by decide) (by decide) (by decide) (by decide)]; exact hWt w hw) (a_swc A y) hcn) (fun S_42 hp_42 => ?_)
      have fs := fsw_sw (a_swc A y) (aW A) (aP A) n12 (a_li A)
      refine G_iload_n hk dX10_swap_45 rfl ?_
      refine G_iconst hk dX10_swap_46 ?_
      refine G_icmp_ne (tgt := 58) hk dX10_swap_47 (by decide) ⟨by omega, by omega⟩ ⟨by omega, by omega⟩ (fun h_47 => ?_) (fun h_47 => ?_)
      · refine G_rload_n hk dX10_swap_58 rfl ?_
        refine G_getR hk dX10_swap_59 flX10_49 (by decide) rfl rfl ?_
        refine G_cV0P hk dX10_swap_62 mvX2_findSwap mlX10_209 (by decide) rfl rfl (Nat.le_of_ble_eq_true rfl) (c_X2_findSwap _ Γ (d + 3) _ A _ _ hp_42.1 hcc) ?_
        refine G_istore_n hk dX10_swap_65 (by decide) rfl ?_
        refine G_iload_n hk dX10_swap_66 rfl ?_
        refine G_iconst hk dX10_swap_67 ?_
        refine G_icmp_ne (tgt := 73) hk dX10_swap_68 (by decide) ⟨by omega, by omega⟩ ⟨by omega, by omega⟩ (fun h_68 => ?_) (fun h_68 => ?_)
        · refine G_iload_n hk dX10_swap_73 rfl ?_
          refine G_if_ne (tgt := 84) hk dX10_swap_74 (by decide) ⟨by omega, by omega⟩ (fun h_74 => ?_) (fun h_74 => ?_)
          · refine G_iload_n hk dX10_swap_84 rfl ?_
            refine G_bipush hk dX10_swap_85 (by decide) ?_
            refine G_irem hk dX10_swap_87 (by omega) (by omega) (by omega) (by omega) ?_
            exact G_iret hk hr dX10_swap_88 ⟨by unfold a_swap; rw [if_neg (by omega), if_neg (by omega)]; unfold a_swapOf; rw [if_neg (by omega), if_neg (by omega)]; omega, frK_t (frC_K hf) (fun c _ a b _ _ => hp_42.2 c a b)⟩
          · refine G_iload_n hk dX10_swap_77 rfl ?_
            refine G_bipush hk dX10_swap_78 (by decide) ?_
            refine G_idiv hk dX10_swap_80 (by omega) (by omega) (by omega) (by omega) ?_
            refine G_goto (tgt := 88) hk dX10_swap_81 (by decide) ?_
            exact G_iret hk hr dX10_swap_88 ⟨by unfold a_swap; rw [if_neg (by omega), if_neg (by omega)]; unfold a_swapOf; rw [if_neg (by omega), if_pos (by omega)]; omega, frK_t (frC_K hf) (fun c _ a b _ _ => hp_42.2 c a b)⟩
        · refine G_iconst hk dX10_swap_71 ?_
          exact G_iret hk hr dX10_swap_72 ⟨by unfold a_swap; rw [if_neg (by omega), if_neg (by omega)]; unfold a_swapOf; rw [if_neg (by omega)]; split <;> omega, frK_t (frC_K hf) (fun c _ a b _ _ => hp_42.2 c a b)⟩
      · refine G_rload_n hk dX10_swap_50 rfl ?_
        refine G_getR hk dX10_swap_51 flX10_49 (by decide) rfl rfl ?_
        refine G_cV0I hk dX10_swap_54 mvX2_swapTillRest mlX10_206 (by decide) rfl rfl (Nat.le_of_ble_eq_true rfl) (c_X2_swapTillRest _ Γ (d + 2) _ A _ _ hp_42.1 hcc) (fun r_54 S_54 hp_54 => ?_)
        exact G_iret hk hr dX10_swap_57 ⟨by unfold a_swap; rw [if_neg (by omega), if_neg (by omega)]; unfold a_swapOf; rw [if_pos (by omega)]; exact hp_54.1, frK_t (frK_t (frC_K hf) (fun c _ a b _ _ => hp_42.2 c a b)) (fun c _ _ a _ _ => hp_54.2 c a)⟩
    · refine G_bipush hk dX10_swap_16 (by decide) ?_
      exact G_iret hk hr dX10_swap_18 ⟨by unfold a_swap; (repeat' split) <;> first | (exfalso; omega) | rfl, frK_0 S⟩
