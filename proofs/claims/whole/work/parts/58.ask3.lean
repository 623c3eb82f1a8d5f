theorem c_X10_never (l : Launch) (Γ : Ev) (d : Nat) (S : Sx) (A : Av) (lt : Int) (hQ : CQ S A lt) : Ctr l Γ (d + 6) mX10_never [rf Γ 0] S (pI (fun r S2 => r = a_neverNow A ∧ frK S S2)) := by
  refine Ctr.of (by decide) rfl rfl (Nat.le_of_ble_eq_true rfl) ?_
  intro κ hl hk hr
  subst hl
  obtain ⟨hC, hW, hWt, h09, h010⟩ := hQ
  obtain ⟨h15, n8, h62, n12, h132, m12⟩ := cl_n hC
  have f9 := hC.1.2.2.2.2.2.2.1
  refine G_iconst hk dX10_never_0 ?_
  refine G_istore_n hk dX10_never_1 (by decide) rfl ?_
  refine G_iconst hk dX10_never_2 ?_
  refine G_istore_n hk dX10_never_3 (by decide) rfl ?_
  have lp := loop_up (P := fun k => ∀ S1 : Sx, frC S S1 → GW κ Γ 4 [some (rf Γ 0), some (vI (bsm (fun k => a_isSeen A (k : Int) 0) k : Int)), some (vI (k : Int))] [] (wl Γ S1)) (anp A) ?_ ?_ 0 (Nat.zero_le _) S (fun _ _ _ _ _ => rfl)
  · exact lp
  · intro S1 hf
    have e62 : S1 6 2 = (anp A : Int) := by rw [hf 6 (by decide) (by decide) (by decide) (by decide)]; exact h62
    refine G_iload_n hk dX10_never_4 rfl ?_
    refine G_rload_n hk dX10_never_5 rfl ?_
    refine G_getR hk dX10_never_6 flX10_19 (by decide) rfl rfl ?_
    refine G_cV0P hk dX10_never_9 mvX5_howMany mlX10_123 (by decide) rfl rfl (Nat.le_of_ble_eq_true rfl) (c_X5_howMany _ Γ (d + 4) _) ?_
    rw [e62]
    refine G_icmp_ge (tgt := 43) hk dX10_never_12 (by decide) ⟨by omega, by omega⟩ ⟨by omega, by omega⟩ (fun h_12 => ?_) (fun h_12 => ?_)
    · refine G_iload_n hk dX10_never_43 rfl ?_
      exact G_iret hk hr dX10_never_44 ⟨rfl, frC_K hf⟩
    · exact absurd h_12 (by omega)--stop
  · intro k hk9 ih S1 hf
    have e62 : S1 6 2 = (anp A : Int) := by rw [hf 6 (by decide) (by decide) (by decide) (by decide)]; exact h62
    refine G_iload_n hk dX10_never_4 rfl ?_
    refine G_rload_n hk dX10_never_5 rfl ?_
    refine G_getR hk dX10_never_6 flX10_19 (by decide) rfl rfl ?_
    refine G_cV0P hk dX10_never_9 mvX5_howMany mlX10_123 (by decide) rfl rfl (Nat.le_of_ble_eq_true rfl) (c_X5_howMany _ Γ (d + 4) _) ?_
    rw [e62]
    refine G_icmp_ge (tgt := 43) hk dX10_never_12 (by decide) ⟨by omega, by omega⟩ ⟨by omega, by omega⟩ (fun h_12 => ?_) (fun h_12 => ?_)
    · exact absurd h_12 (by omega)--stop
    · refine G_rload_n hk dX10_never_15 rfl ?_
      refine G_getR hk dX10_never_16 flX10_56 (by decide) rfl rfl ?_
      refine G_rload_n hk dX10_never_19 rfl ?_
      refine G_getR hk dX10_never_20 flX10_35 (by decide) rfl rfl ?_
      refine G_iload_n hk dX10_never_23 rfl ?_
      refine G_iconst hk dX10_never_24 ?_
      refine G_cV3I hk dX10_never_25 mvX9_isBorneOut mlX10_234 (by decide) rfl rfl (Nat.le_of_ble_eq_true rfl) (c_X9_isBorneOut _ Γ (d + 0) _ A (ClE_fr hC hf) (WiR_cong hW (fun c a b => hf c (by omega) (by omega) (by omega) (by omega))) _ _ ⟨by omega, by omega⟩ ⟨by omega, by omega⟩) (fun r_25 S_25 hp_25 => ?_)
      obtain ⟨hr9, hf2⟩ := hp_25
      rw [hr9]
      refine G_bif_eq (tgt := 37) hk dX10_never_28 (by decide) (fun h_28 => ?_) (fun h_28 => ?_)
      · refine G_iinc hk dX10_never_37 rfl (by decide) rfl ?_
        refine G_goto (tgt := 4) hk dX10_never_40 (by decide) ?_
        rw [show bsm (fun k => a_isSeen A (k : Int) 0) (k + 1) = bsm (fun k => a_isSeen A (k : Int) 0) k by simp only [bsm]; rw [if_neg h_28]; rfl] at ih
        exact ih _ (frC_t hf hf2)
      · refine G_iload_n hk dX10_never_31 rfl ?_
        refine G_iconst hk dX10_never_32 ?_
        refine G_iload_n hk dX10_never_33 rfl ?_
        refine G_ishl hk dX10_never_34 (by omega) (shl_ok (by omega)) (by omega) (by omega) ?_
        refine G_ior hk dX10_never_35 ?_
        rw [bsm_or1 (fun k => a_isSeen A (k : Int) 0) (by omega) h_28]
        refine G_istore_n hk dX10_never_36 (by decide) rfl ?_
        refine G_iinc hk dX10_never_37 rfl (by decide) rfl ?_
        refine G_goto (tgt := 4) hk dX10_never_40 (by decide) ?_
        exact ih _ (frC_t hf hf2)

theorem c_X10_sizes (l : Launch) (Γ : Ev) (d : Nat) (S : Sx) (A : Av) (lt : Int) (hQ : CQ S A lt) (k : Int) (h_k : R32 k) : Ctr l Γ (d + 6) mX10_sizes [rf Γ 0, vI k] S (pI (fun r S2 => r = a_sizes A k ∧ frK S S2)) := by
  refine Ctr.of (by decide) rfl rfl (Nat.le_of_ble_eq_true rfl) ?_
  intro κ hl hk hr
  subst hl
  obtain ⟨hC, hW, hWt, h09, h010⟩ := hQ
  obtain ⟨h15, n8, h62, n12, h132, m12⟩ := cl_n hC
  have f9 := hC.1.2.2.2.2.2.2.1
  refine G_rload_n hk dX10_sizes_0 rfl ?_
  refine G_getR hk dX10_sizes_1 flX10_19 (by decide) rfl rfl ?_
  refine G_iload_n hk dX10_sizes_4 rfl ?_
  refine G_cV1P hk dX10_sizes_5 mvX5_has mlX10_164 (by decide) rfl rfl (Nat.le_of_ble_eq_true rfl) (c_X5_has _ Γ (d + 5) _ _ ⟨by omega, by omega⟩ ⟨by omega, by omega⟩) ?_
  refine G_bif_ne (tgt := 14) hk dX10_sizes_8 (by decide) (fun h_8 => ?_) (fun h_8 => ?_)
  · refine G_iconst hk dX10_sizes_14 ?_
    refine G_istore_n hk dX10_sizes_15 (by decide) rfl ?_
    refine G_iconst hk dX10_sizes_16 ?_
    refine G_istore_n hk dX10_sizes_17 (by decide) rfl ?_
    have lp := loop_up (P := fun i => ∀ S1 : Sx, frC S S1 → GW κ Γ 18 [some (rf Γ 0), some (vI k), some (vI (bsm (fun i => a_isSeen A k ((i : Int) + 1)) i : Int)), some (vI ((i : Int) + 1))] [] (wl Γ S1)) 9 ?_ ?_ 0 (Nat.zero_le _) S (fun _ _ _ _ _ => rfl)
    · exact lp
    · intro S1 hf
      refine G_iload_n hk dX10_sizes_18 rfl ?_
      refine G_bipush hk dX10_sizes_19 (by decide) ?_
      refine G_icmp_gt (tgt := 54) hk dX10_sizes_21 (by decide) ⟨by omega, by omega⟩ ⟨by omega, by omega⟩ (fun h_21 => ?_) (fun h_21 => ?_)
      · refine G_iload_n hk dX10_sizes_54 rfl ?_
        exact G_iret hk hr dX10_sizes_55 ⟨by unfold a_sizes; rw [if_neg (by omega)]; rfl, frC_K hf⟩
      · exact absurd h_21 (by omega)--stop
    · intro i hi9 ih S1 hf
      refine G_iload_n hk dX10_sizes_18 rfl ?_
      refine G_bipush hk dX10_sizes_19 (by decide) ?_
      refine G_icmp_gt (tgt := 54) hk dX10_sizes_21 (by decide) ⟨by omega, by omega⟩ ⟨by omega, by omega⟩ (fun h_21 => ?_) (fun h_21 => ?_)
      · exact absurd h_21 (by omega)--stop
      · refine G_rload_n hk dX10_sizes_24 rfl ?_
        refine G_getR hk dX10_sizes_25 flX10_56 (by decide) rfl rfl ?_
        refine G_rload_n hk dX10_sizes_28 rfl ?_
        refine G_getR hk dX10_sizes_29 flX10_35 (by decide) rfl rfl ?_
        refine G_iload_n hk dX10_sizes_32 rfl ?_
        refine G_iload_n hk dX10_sizes_33 rfl ?_
        refine G_cV3I hk dX10_sizes_34 mvX9_isBorneOut mlX10_234 (by decide) rfl rfl (Nat.le_of_ble_eq_true rfl) (c_X9_isBorneOut _ Γ (d + 0) _ A (ClE_fr hC hf) (WiR_cong hW (fun c a b => hf c (by omega) (by omega) (by omega) (by omega))) _ _ ⟨by omega, by omega⟩ ⟨by omega, by omega⟩) (fun r_34 S_34 hp_34 => ?_)
        obtain ⟨hr9, hf2⟩ := hp_34
        rw [hr9]
        refine G_bif_eq (tgt := 48) hk dX10_sizes_37 (by decide) (fun h_37 => ?_) (fun h_37 => ?_)
        · refine G_iinc hk dX10_sizes_48 rfl (by decide) rfl ?_
          refine G_goto (tgt := 18) hk dX10_sizes_51 (by decide) ?_
          rw [show bsm (fun i => a_isSeen A k ((i : Int) + 1)) (i + 1) = bsm (fun i => a_isSeen A k ((i : Int) + 1)) i by simp only [bsm]; rw [if_neg h_37]; rfl] at ih
          rw [show ((i + 1 : Nat) : Int) + 1 = (i : Int) + 1 + 1 by omega] at ih
          exact ih _ (frC_t hf hf2)
        · refine G_iload_n hk dX10_sizes_40 rfl ?_
          refine G_iconst hk dX10_sizes_41 ?_
          refine G_iload_n hk dX10_sizes_42 rfl ?_
          refine G_iconst hk dX10_sizes_43 ?_
          refine G_isub hk dX10_sizes_44 ?_
          rw [show (i : Int) + 1 - 1 = (i : Int) by omega]
          refine G_ishl hk dX10_sizes_45 (by omega) (shl_ok (by omega)) (by omega) (by omega) ?_
          refine G_ior hk dX10_sizes_46 ?_
          rw [bsm_or1 (fun i => a_isSeen A k ((i : Int) + 1)) (by omega) h_37]
          refine G_istore_n hk dX10_sizes_47 (by decide) rfl ?_
          refine G_iinc hk dX10_sizes_48 rfl (by decide) rfl ?_
          refine G_goto (tgt := 18) hk dX10_sizes_51 (by decide) ?_
          rw [show ((i + 1 : Nat) : Int) + 1 = (i : Int) + 1 + 1 by omega] at ih
          exact ih _ (frC_t hf hf2)
  · refine G_bipush hk dX10_sizes_11 (by decide) ?_
    exact G_iret hk hr dX10_sizes_13 ⟨by unfold a_sizes; (repeat' split) <;> first | (exfalso; omega) | rfl, frK_0 S⟩

theorem c_X10_shots (l : Launch) (Γ : Ev) (d : Nat) (S : Sx) (A : Av) (lt : Int) (hQ : CQ S A lt) (c y n p z w : Int) (h_c : R32 c) (h_y : R32 y) (h_n : R32 n) (h_p : R32 p) (h_z : R32 z) (h_w : R32 w) : Ctr l Γ (d + 5) mX10_shots [rf Γ 0, vI c, vI y, vI n, vI p, vI z, vI w] S (pL (fun r S2 => r = a_shots A c y n p z w ∧ frK S S2)) := by
  refine Ctr.of (by decide) rfl rfl (Nat.le_of_ble_eq_true rfl) ?_
  intro κ hl hk hr
  subst hl
  obtain ⟨hC, hW, hWt, h09, h010⟩ := hQ
  obtain ⟨h15, n8, h62, n12, h132, m12⟩ := cl_n hC
  have f9 := hC.1.2.2.2.2.2.2.1
  refine G_iload_n hk dX10_shots_0 rfl ?_
  refine G_iconst hk dX10_shots_1 ?_
  refine G_bipush hk dX10_shots_2 (by decide) ?_
  refine G_cS3P hk dX10_shots_4 msX10_isWithin mlX10_81 (Nat.le_of_ble_eq_true rfl) (c_X10_isWithin _ Γ (d + 4) _ _ _ _ ⟨by omega, by omega⟩ ⟨by omega, by omega⟩ ⟨by omega, by omega⟩) ?_
  refine G_bif_eq (tgt := 57) hk dX10_shots_7 (by decide) (fun h_7 => ?_) (fun h_7 => ?_)
  · refine G_ldc2 (z := (-9223372036854775806)) hk dX10_shots_57 kcX10_247 (by decide) ?_
    exact G_lret hk hr dX10_shots_60 ⟨by unfold a_shots; (repeat' split) <;> first | (exfalso; omega) | rfl, frK_0 S⟩
  · refine G_iload_n hk dX10_shots_10 rfl ?_
    refine G_cS1P hk dX10_shots_11 msX10_isYear mlX10_110 (Nat.le_of_ble_eq_true rfl) (c_X10_isYear _ Γ (d + 3) _ _ ⟨by omega, by omega⟩) ?_
    refine G_bif_eq (tgt := 57) hk dX10_shots_14 (by decide) (fun h_14 => ?_) (fun h_14 => ?_)
    · refine G_ldc2 (z := (-9223372036854775806)) hk dX10_shots_57 kcX10_247 (by decide) ?_
      exact G_lret hk hr dX10_shots_60 ⟨by unfold a_shots; (repeat' split) <;> first | (exfalso; omega) | rfl, frK_0 S⟩
    · refine G_iload_n hk dX10_shots_17 rfl ?_
      refine G_iconst hk dX10_shots_18 ?_
      refine G_bipush hk dX10_shots_19 (by decide) ?_
      refine G_cS3P hk dX10_shots_21 msX10_isWithin mlX10_81 (Nat.le_of_ble_eq_true rfl) (c_X10_isWithin _ Γ (d + 4) _ _ _ _ ⟨by omega, by omega⟩ ⟨by omega, by omega⟩ ⟨by omega, by omega⟩) ?_
      refine G_bif_eq (tgt := 57) hk dX10_shots_24 (by decide) (fun h_24 => ?_) (fun h_24 => ?_)
      · refine G_ldc2 (z := (-9223372036854775806)) hk dX10_shots_57 kcX10_247 (by decide) ?_
        exact G_lret hk hr dX10_shots_60 ⟨by unfold a_shots; (repeat' split) <;> first | (exfalso; omega) | rfl, frK_0 S⟩
      · refine G_rload_n hk dX10_shots_27 rfl ?_
        refine G_getR hk dX10_shots_28 flX10_10 (by decide) rfl rfl ?_
        refine G_iload hk dX10_shots_31 rfl ?_
        refine G_cV1P hk dX10_shots_33 mvX4_has mlX10_99 (by decide) rfl rfl (Nat.le_of_ble_eq_true rfl) (c_X4_has _ Γ (d + 4) _ _ ⟨by omega, by omega⟩ ⟨by omega, by omega⟩) ?_
        refine G_bif_eq (tgt := 57) hk dX10_shots_36 (by decide) (fun h_36 => ?_) (fun h_36 => ?_)
        · refine G_ldc2 (z := (-9223372036854775806)) hk dX10_shots_57 kcX10_247 (by decide) ?_
          exact G_lret hk hr dX10_shots_60 ⟨by unfold a_shots; (repeat' split) <;> first | (exfalso; omega) | rfl, frK_0 S⟩
        · refine G_iload hk dX10_shots_39 rfl ?_
          refine G_cS1P hk dX10_shots_41 msX10_isSize mlX10_113 (Nat.le_of_ble_eq_true rfl) (c_X10_isSize _ Γ (d + 3) _ _ ⟨by omega, by omega⟩) ?_
          refine G_bif_eq (tgt := 57) hk dX10_shots_44 (by decide) (fun h_44 => ?_) (fun h_44 => ?_)
          · refine G_ldc2 (z := (-9223372036854775806)) hk dX10_shots_57 kcX10_247 (by decide) ?_
            exact G_lret hk hr dX10_shots_60 ⟨by unfold a_shots; (repeat' split) <;> first | (exfalso; omega) | rfl, frK_0 S⟩
          · refine G_iload hk dX10_shots_47 rfl ?_
            refine G_iconst hk dX10_shots_49 ?_
            refine G_iconst hk dX10_shots_50 ?_
            refine G_cS3P hk dX10_shots_51 msX10_isWithin mlX10_81 (Nat.le_of_ble_eq_true rfl) (c_X10_isWithin _ Γ (d + 4) _ _ _ _ ⟨by omega, by omega⟩ ⟨by omega, by omega⟩ ⟨by omega, by omega⟩) ?_
            refine G_bif_ne (tgt := 61) hk dX10_shots_54 (by decide) (fun h_54 => ?_) (fun h_54 => ?_)
            · obtain ⟨nn, rfl⟩ : ∃ nn : Nat, n = (nn : Int) := ⟨n.toNat, by omega⟩
              refine G_rload_n hk dX10_shots_61 rfl ?_
              refine G_getR hk dX10_shots_62 flX10_35 (by decide) rfl rfl ?_
              refine G_iload_n hk dX10_shots_65 rfl ?_
              refine G_cV1V hk dX10_shots_66 mvX3_goThrough mlX10_146 (by decide) rfl rfl (Nat.le_of_ble_eq_true rfl) (c_X3_goThrough _ Γ (d + 0) _ A hC _ (y.toNat + 1) (by omega) (by omega)) (fun S_66 hp_66 => ?_)
              obtain ⟨hY, hf⟩ := hp_66
              obtain ⟨q15, -, q62, -, -, -⟩ := cl_n hY.2.1
              have hX := hY.1
              have hso := Yr_so hY (by omega)
              refine G_rload_n hk dX10_shots_69 rfl ?_
              refine G_getR hk dX10_shots_70 flX10_63 (by decide) rfl rfl ?_
              refine G_iload_n hk dX10_shots_73 rfl ?_
              refine G_iload_n hk dX10_shots_74 rfl ?_
              refine G_cV2V hk dX10_shots_75 mvX1_countWays mlX10_249 (by decide) rfl rfl (Nat.le_of_ble_eq_true rfl) (c_X1_countWays _ Γ (d + 3) _ c nn ⟨by omega, by omega⟩ (by omega)) (fun S_75 hp_75 => ?_)
              have hY2 := Yr_lo hY (fun c hc => hp_75.2 c (by omega))
              obtain ⟨z15, -, -, -, -, -⟩ := cl_n hY2.2.1
              have sx := (lv_bd0 hC.1 (y.toNat + 1)).1 p.toNat (by omega)
              refine G_rload_n hk dX10_shots_78 rfl ?_
              refine G_getR hk dX10_shots_79 flX10_63 (by decide) rfl rfl ?_
              refine G_rload_n hk dX10_shots_82 rfl ?_
              refine G_getR hk dX10_shots_83 flX10_35 (by decide) rfl rfl ?_
              refine G_iload hk dX10_shots_86 rfl ?_
              refine G_cV1P hk dX10_shots_88 mvX3_solidOf mlX10_149 (by decide) rfl rfl (Nat.le_of_ble_eq_true rfl) (c_X3_solidOf _ Γ (d + 3) _ _ ⟨by omega, by omega⟩ ⟨by omega, by omega⟩) ?_
              rw [if_pos (by omega), hY2.1.1 p.toNat (by omega)]
              refine G_iload hk dX10_shots_91 rfl ?_
              refine G_iload_n hk dX10_shots_93 rfl ?_
              refine G_rload_n hk dX10_shots_94 rfl ?_
              refine G_getI hk dX10_shots_95 flX10_73 (by decide) rfl rfl ?_
              rw [hp_75.2 0 (by decide), hf 0 (by decide) (by decide) (by decide) (by decide), h09]
              refine G_cV4V hk dX10_shots_98 mvX1_weighUnseen mlX10_253 (by decide) rfl rfl (Nat.le_of_ble_eq_true rfl) (c_X1_weighUnseen _ Γ (d + 3) _ c nn ⟨by omega, by omega⟩ (by omega) hp_75.1 _ _ _ ⟨by omega, by omega⟩ ⟨by omega, by omega⟩ ⟨by omega, by omega⟩) (fun S_98 hp_98 => ?_)
              refine G_iload hk dX10_shots_101 rfl ?_
              refine G_if_ne (tgt := 116) hk dX10_shots_103 (by decide) ⟨by omega, by omega⟩ (fun h_103 => ?_) (fun h_103 => ?_)
              · refine G_rload_n hk dX10_shots_116 rfl ?_
                refine G_getR hk dX10_shots_117 flX10_63 (by decide) rfl rfl ?_
                refine G_cV0J hk dX10_shots_120 mvX1_below mlX10_261 (by decide) rfl rfl (Nat.le_of_ble_eq_true rfl) (c_X1_below _ Γ (d + 4) _) (fun r_120 S_120 hp_120 => ?_)
                exact G_lret hk hr dX10_shots_123 ⟨by rw [hp_120.1, hp_98.2.1]; unfold a_shots; rw [if_neg (by omega), if_neg (by omega), if_neg (by omega), if_neg (by omega), if_neg (by omega), if_neg (by omega)]; unfold a_shotsOf; rw [show w = 1 by omega]; rfl, by rw [hp_120.2]; exact frK_t (frC_K hf) (fun c _ _ _ a b => by rw [hp_98.2.2 c a, hp_75.2 c b])⟩
              · refine G_rload_n hk dX10_shots_106 rfl ?_
                refine G_getR hk dX10_shots_107 flX10_63 (by decide) rfl rfl ?_
                refine G_cV0J hk dX10_shots_110 mvX1_above mlX10_257 (by decide) rfl rfl (Nat.le_of_ble_eq_true rfl) (c_X1_above _ Γ (d + 4) _) (fun r_110 S_110 hp_110 => ?_)
                refine G_goto (tgt := 123) hk dX10_shots_113 (by decide) ?_
                exact G_lret hk hr dX10_shots_123 ⟨by rw [hp_110.1, hp_98.1]; unfold a_shots; rw [if_neg (by omega), if_neg (by omega), if_neg (by omega), if_neg (by omega), if_neg (by omega), if_neg (by omega)]; unfold a_shotsOf; rw [show w = 0 by omega]; rfl, by rw [hp_110.2]; exact frK_t (frC_K hf) (fun c _ _ _ a b => by rw [hp_98.2.2 c a, hp_75.2 c b])⟩
            · refine G_ldc2 (z := (-9223372036854775806)) hk dX10_shots_57 kcX10_247 (by decide) ?_
              exact G_lret hk hr dX10_shots_60 ⟨by unfold a_shots; (repeat' split) <;> first | (exfalso; omega) | rfl, frK_0 S⟩

theorem pls_s {A : Av} (hn : 0 < aN A) (s : Int) (k : Nat) : pls A s (k + 1) = (burnN (anp A) (anb A) (aTw A) (aP A) (aB A) (k : Int) (sTk (aTw A) (lotv (lotf (pls A s k).2) (aN A)).toNat (lotv (lotf (lotf (pls A s k).2)) 9 + 1) (takeN (aN A) (anp A) (aTw A) (aP A) (-1) 0 (k : Int) (pls A s k).1).1, (takeN (aN A) (anp A) (aTw A) (aP A) (-1) 0 (k : Int) (pls A s k).1).2), lotf (lotf (pls A s k).2)) := by
  have e : pls A s (k + 1) = goes (aE A) (-1, 0, 0, 0, 0, 0) (k : Int) (pls A s k) := rfl
  rw [e]
  unfold goes
  rw [g2_y ⟨by show (0 : Int) ≠ -1; decide, by show 0 < ((aN A : Nat) : Int); omega⟩, g3_n (fun h => absurd h.1 (by show ¬ (0 : Int) < 0; decide))]
  rfl

theorem c_X10_plates (l : Launch) (Γ : Ev) (d : Nat) (S : Sx) (A : Av) (lt : Int) (hQ : CQ S A lt) (s y p : Int) (h_s : R32 s) (h_y : R32 y) (h_p : R32 p) : Ctr l Γ (d + 5) mX10_plates [rf Γ 0, vI s, vI y, vI p] S (pI (fun r S2 => r = a_plates A s y p ∧ frK S S2)) := by
  refine Ctr.of (by decide) rfl rfl (Nat.le_of_ble_eq_true rfl) ?_
  intro κ hl hk hr
  subst hl
  obtain ⟨hC, hW, hWt, h09, h010⟩ := hQ
  obtain ⟨h15, n8, h62, n12, h132, m12⟩ := cl_n hC
  have f9 := hC.1.2.2.2.2.2.2.1
  refine G_iload_n hk dX10_plates_0 rfl ?_
  refine G_cS1P hk dX10_plates_1 msX10_isYear mlX10_110 (Nat.le_of_ble_eq_true rfl) (c_X10_isYear _ Γ (d + 3) _ _ ⟨by omega, by omega⟩) ?_
  refine G_bif_eq (tgt := 18) hk dX10_plates_4 (by decide) (fun h_4 => ?_) (fun h_4 => ?_)
  · refine G_bipush hk dX10_plates_18 (by decide) ?_
    exact G_iret hk hr dX10_plates_20 ⟨by unfold a_plates; (repeat' split) <;> first | (exfalso; omega) | rfl, frK_0 S⟩
  · refine G_rload_n hk dX10_plates_7 rfl ?_
    refine G_getR hk dX10_plates_8 flX10_10 (by decide) rfl rfl ?_
    refine G_iload_n hk dX10_plates_11 rfl ?_
    refine G_cV1P hk dX10_plates_12 mvX4_has mlX10_99 (by decide) rfl rfl (Nat.le_of_ble_eq_true rfl) (c_X4_has _ Γ (d + 4) _ _ ⟨by omega, by omega⟩ ⟨by omega, by omega⟩) ?_
    refine G_bif_ne (tgt := 21) hk dX10_plates_15 (by decide) (fun h_15 => ?_) (fun h_15 => ?_)
    · refine G_rload_n hk dX10_plates_21 rfl ?_
      refine G_getR hk dX10_plates_22 flX10_35 (by decide) rfl rfl ?_
      refine G_cV0V hk dX10_plates_25 mvX3_begin mlX10_171 (by decide) rfl rfl (Nat.le_of_ble_eq_true rfl) (c_bg0 (d + 1) hC) (fun S_25 hp_25 => ?_)
      refine G_iload_n hk dX10_plates_28 rfl ?_
      refine G_istore hk dX10_plates_29 (by decide) rfl ?_
      refine G_iconst hk dX10_plates_31 ?_
      refine G_istore hk dX10_plates_32 (by decide) rfl ?_
      have lp := loop_up (P := fun k => ∀ (S1 : Sx) (q6 : Option Value), (Yr A (-1) 0 (99 + 108 * (k : Int)) (pls A s k).1 k k S1 ∧ frC S S1) → GW κ Γ 34 [some (rf Γ 0), some (vI s), some (vI y), some (vI p), some (vI (pls A s k).2), some (vI (k : Int)), q6] [] (wl Γ S1)) (y.toNat + 1) ?_ ?_ 0 (Nat.zero_le _)
      · exact GW_L rfl (lp S_25 none ⟨hp_25.1, hp_25.2⟩)
      · intro S1 q6 ⟨hY, hf⟩
        obtain ⟨q15, -, -, -, -, -⟩ := cl_n hY.2.1
        have hX := hY.1
        refine G_iload hk dX10_plates_34 rfl ?_
        refine G_iload_n hk dX10_plates_36 rfl ?_
        refine G_icmp_gt (tgt := 110) hk dX10_plates_37 (by decide) ⟨by omega, by omega⟩ ⟨by omega, by omega⟩ (fun h_37 => ?_) (fun h_37 => ?_)
        · refine G_rload_n hk dX10_plates_110 rfl ?_
          refine G_getR hk dX10_plates_111 flX10_35 (by decide) rfl rfl ?_
          refine G_iload_n hk dX10_plates_114 rfl ?_
          refine G_cV1P hk dX10_plates_115 mvX3_solidOf mlX10_149 (by decide) rfl rfl (Nat.le_of_ble_eq_true rfl) (c_X3_solidOf _ Γ (d + 3) _ _ ⟨by omega, by omega⟩ ⟨by omega, by omega⟩) ?_
          rw [if_pos (by omega), hX.1 p.toNat (by omega)]
          exact G_iret hk hr dX10_plates_118 ⟨by unfold a_plates; rw [if_neg (by omega), if_neg (by omega)]; rfl, frC_K hf⟩
        · exact absurd h_37 (by omega)--stop
      · intro k hk9 ih S1 q6 ⟨hY, hf⟩
        have el := pls_s (A := A) (by omega) s k
        have l1 := lotv_in (lotf (pls A s k).2) (show (0 : Int) < (aN A : Int) by omega)
        have l2 := lotv_in (lotf (lotf (pls A s k).2)) (show (0 : Int) < 9 by decide)
        obtain ⟨wh9, hwh⟩ : ∃ wh9 : Nat, lotv (lotf (pls A s k).2) (aN A) = (wh9 : Int) := ⟨(lotv (lotf (pls A s k).2) (aN A)).toNat, by omega⟩
        rw [hwh] at l1 el
        refine G_iload hk dX10_plates_34 rfl ?_
        refine G_iload_n hk dX10_plates_36 rfl ?_
        refine G_icmp_gt (tgt := 110) hk dX10_plates_37 (by decide) ⟨by omega, by omega⟩ ⟨by omega, by omega⟩ (fun h_37 => ?_) (fun h_37 => ?_)
        · exact absurd h_37 (by omega)--stop
        · refine G_rload_n hk dX10_plates_40 rfl ?_
          refine G_getR hk dX10_plates_41 flX10_35 (by decide) rfl rfl ?_
          refine G_iload hk dX10_plates_44 rfl ?_
          refine G_cV1V hk dX10_plates_46 mvX3_takeAllOf mlX10_191 (by decide) rfl rfl (Nat.le_of_ble_eq_true rfl) (c_ta (d + 1) hY (OtOk_m1 hC.1) (by omega) (by omega)) (fun S_46 hp_46 => ?_)
          obtain ⟨hY2, hf2⟩ := hp_46
          obtain ⟨q15, -, -, -, -, -⟩ := cl_n hY2.2.1
          refine G_iload hk dX10_plates_49 rfl ?_
          refine G_cS1P hk dX10_plates_51 msX10_nextSeed mlX10_264 (Nat.le_of_ble_eq_true rfl) (c_X10_nextSeed _ Γ (d + 4) _ _) ?_
          refine G_istore hk dX10_plates_54 (by decide) rfl ?_
          refine G_iload hk dX10_plates_56 rfl ?_
          refine G_rload_n hk dX10_plates_58 rfl ?_
          refine G_getR hk dX10_plates_59 flX10_10 (by decide) rfl rfl ?_
          refine G_cV0P hk dX10_plates_62 mvX4_howMany mlX10_190 (by decide) rfl rfl (Nat.le_of_ble_eq_true rfl) (c_X4_howMany _ Γ (d + 4) _) ?_
          rw [q15]
          refine G_cS2P hk dX10_plates_65 msX10_lotOf mlX10_267 (Nat.le_of_ble_eq_true rfl) (c_X10_lotOf _ Γ (d + 4) _ _ _ ⟨by omega, by omega⟩) ?_
          rw [hwh]
          refine G_istore hk dX10_plates_68 (by decide) rfl ?_
          refine G_iload hk dX10_plates_70 rfl ?_
          refine G_cS1P hk dX10_plates_72 msX10_nextSeed mlX10_264 (Nat.le_of_ble_eq_true rfl) (c_X10_nextSeed _ Γ (d + 4) _ _) ?_
          refine G_istore hk dX10_plates_75 (by decide) rfl ?_
          refine G_rload_n hk dX10_plates_77 rfl ?_
          refine G_getR hk dX10_plates_78 flX10_35 (by decide) rfl rfl ?_
          refine G_iload hk dX10_plates_81 rfl ?_
          refine G_iload hk dX10_plates_83 rfl ?_
          refine G_bipush hk dX10_plates_85 (by decide) ?_
          refine G_cS2P hk dX10_plates_87 msX10_lotOf mlX10_267 (Nat.le_of_ble_eq_true rfl) (c_X10_lotOf _ Γ (d + 4) _ _ _ ⟨by omega, by omega⟩) ?_
          refine G_iconst hk dX10_plates_90 ?_
          refine G_iadd hk dX10_plates_91 ?_
          refine G_cV2V hk dX10_plates_92 mvX3_takeUncounted mlX10_270 (by decide) rfl rfl (Nat.le_of_ble_eq_true rfl) (c_X3_takeUncounted _ Γ (d + 2) _ A _ _ _ _ _ _ hY2 (by omega) wh9 (by omega) _ ⟨by omega, by omega⟩) (fun S_92 hp_92 => ?_)
          obtain ⟨hY3, hf3⟩ := hp_92
          refine G_rload_n hk dX10_plates_95 rfl ?_
          refine G_getR hk dX10_plates_96 flX10_35 (by decide) rfl rfl ?_
          refine G_iload hk dX10_plates_99 rfl ?_
          refine G_cV1V hk dX10_plates_101 mvX3_burnAllOf mlX10_194 (by decide) rfl rfl (Nat.le_of_ble_eq_true rfl) (c_ba (d + 1) hY3 (by omega)) (fun S_101 hp_101 => ?_)
          obtain ⟨hY4, hf4⟩ := hp_101
          refine G_iinc hk dX10_plates_104 rfl (by decide) rfl ?_
          refine G_goto (tgt := 34) hk dX10_plates_107 (by decide) ?_
          rw [show 99 + 108 * (k : Int) + 108 = 99 + 108 * ((k + 1 : Nat) : Int) by omega] at hY4
          have h9 := ih S_101 (some (vI (wh9 : Int))) ⟨by rw [el]; exact hY4, frC_t hf (frC_t hf2 (frC_t hf3 hf4))⟩
          rw [el] at h9
          exact h9
    · refine G_bipush hk dX10_plates_18 (by decide) ?_
      exact G_iret hk hr dX10_plates_20 ⟨by unfold a_plates; (repeat' split) <;> first | (exfalso; omega) | rfl, frK_0 S⟩

theorem c_X10_count (l : Launch) (Γ : Ev) (d : Nat) (S : Sx) (A : Av) (lt : Int) (hQ : CQ S A lt) (w : Int) (h_w : R32 w) : Ctr l Γ (d + 2) mX10_count [rf Γ 0, vI w] S (pP S (a_count A lt w)) := by
  refine Ctr.of (by decide) rfl rfl (Nat.le_of_ble_eq_true rfl) ?_
  intro κ hl hk hr
  subst hl
  obtain ⟨hC, hW, hWt, h09, h010⟩ := hQ
  obtain ⟨h15, n8, h62, n12, h132, m12⟩ := cl_n hC
  have f9 := hC.1.2.2.2.2.2.2.1
  refine G_iload_n hk dX10_count_0 rfl ?_
  by_cases hr9 : w < 0 ∨ 8 < w
  · refine G_tabOut (tgt := 118) hk dX10_count_1 h_w hr9 (by decide) ?_
    refine G_bipush hk dX10_count_118 (by decide) ?_
    exact G_iret hk hr dX10_count_120 ⟨by unfold a_count; (repeat' split) <;> first | (exfalso; omega) | rfl, rfl⟩
  have hw9 : w = 0 ∨ w = 1 ∨ w = 2 ∨ w = 3 ∨ w = 4 ∨ w = 5 ∨ w = 6 ∨ w = 7 ∨ w = 8 := by omega
  rcases hw9 with rfl | rfl | rfl | rfl | rfl | rfl | rfl | rfl | rfl
  · refine G_tabIn (tgt := 52) hk dX10_count_1 (by decide) (by decide) (by decide) rfl (by decide) ?_
    refine G_rload_n hk dX10_count_52 rfl ?_
    refine G_getR hk dX10_count_53 flX10_10 (by decide) rfl rfl ?_
    refine G_cV0P hk dX10_count_56 mvX4_howMany mlX10_190 (by decide) rfl rfl (Nat.le_of_ble_eq_true rfl) (c_X4_howMany _ Γ (d + 1) _) ?_
    exact G_iret hk hr dX10_count_59 ⟨by rw [h15]; rfl, rfl⟩
  · refine G_tabIn (tgt := 60) hk dX10_count_1 (by decide) (by decide) (by decide) rfl (by decide) ?_
    refine G_rload_n hk dX10_count_60 rfl ?_
    refine G_getR hk dX10_count_61 flX10_10 (by decide) rfl rfl ?_
    refine G_cV0P hk dX10_count_64 mvX4_length mlX10_85 (by decide) rfl rfl (Nat.le_of_ble_eq_true rfl) (c_X4_length _ Γ (d + 1) _) ?_
    exact G_iret hk hr dX10_count_67 ⟨by rw [hC.2.1.1.1]; rfl, rfl⟩
  · refine G_tabIn (tgt := 68) hk dX10_count_1 (by decide) (by decide) (by decide) rfl (by decide) ?_
    refine G_rload_n hk dX10_count_68 rfl ?_
    refine G_getR hk dX10_count_69 flX10_19 (by decide) rfl rfl ?_
    refine G_cV0P hk dX10_count_72 mvX5_howMany mlX10_123 (by decide) rfl rfl (Nat.le_of_ble_eq_true rfl) (c_X5_howMany _ Γ (d + 0) _) ?_
    exact G_iret hk hr dX10_count_75 ⟨by rw [h62]; rfl, rfl⟩
  · refine G_tabIn (tgt := 76) hk dX10_count_1 (by decide) (by decide) (by decide) rfl (by decide) ?_
    refine G_rload_n hk dX10_count_76 rfl ?_
    refine G_getR hk dX10_count_77 flX10_26 (by decide) rfl rfl ?_
    refine G_cV0P hk dX10_count_80 mvX0_howMany mlX10_129 (by decide) rfl rfl (Nat.le_of_ble_eq_true rfl) (c_X0_howMany _ Γ (d + 0) _) ?_
    exact G_iret hk hr dX10_count_83 ⟨by rw [h132]; rfl, rfl⟩
  · refine G_tabIn (tgt := 84) hk dX10_count_1 (by decide) (by decide) (by decide) rfl (by decide) ?_
    refine G_rload_n hk dX10_count_84 rfl ?_
    refine G_getR hk dX10_count_85 flX10_56 (by decide) rfl rfl ?_
    refine G_cV0P hk dX10_count_88 mvX9_howMany mlX10_217 (by decide) rfl rfl (Nat.le_of_ble_eq_true rfl) (c_X9_howMany _ Γ (d + 0) _) ?_
    exact G_iret hk hr dX10_count_91 ⟨by rw [hW.1.1]; rfl, rfl⟩
  · refine G_tabIn (tgt := 92) hk dX10_count_1 (by decide) (by decide) (by decide) rfl (by decide) ?_
    refine G_rload_n hk dX10_count_92 rfl ?_
    refine G_getI hk dX10_count_93 flX10_73 (by decide) rfl rfl ?_
    exact G_iret hk hr dX10_count_96 ⟨by rw [h09]; rfl, rfl⟩
  · refine G_tabIn (tgt := 97) hk dX10_count_1 (by decide) (by decide) (by decide) rfl (by decide) ?_
    refine G_rload_n hk dX10_count_97 rfl ?_
    refine G_getR hk dX10_count_98 flX10_10 (by decide) rfl rfl ?_
    refine G_cV0P hk dX10_count_101 mvX4_allAtFirst mlX10_305 (by decide) rfl rfl (Nat.le_of_ble_eq_true rfl) (c_X4_allAtFirst _ Γ (d + 1) _ (aN A) h15 n8 (fun p hp => by rw [show S 3 p = a0 A p from (hC.2.1.2.2.2 p hp).1]; have := a0_99 (A := A) p hp; exact ⟨by omega, by omega⟩)) ?_
    exact G_iret hk hr dX10_count_104 ⟨ssm_cong (fun p hp => (hC.2.1.2.2.2 p hp).1), rfl⟩
  · refine G_tabIn (tgt := 105) hk dX10_count_1 (by decide) (by decide) (by decide) rfl (by decide) ?_
    refine G_rload_n hk dX10_count_105 rfl ?_
    refine G_getR hk dX10_count_106 flX10_10 (by decide) rfl rfl ?_
    refine G_cV0P hk dX10_count_109 mvX4_howManyTwins mlX10_308 (by decide) rfl rfl (Nat.le_of_ble_eq_true rfl) (c_X4_howManyTwins _ Γ (d + 1) _ (aN A) h15 n8 (fun p hp => by rw [show S 4 p = aTw A p from (hC.2.1.2.2.2 p hp).2]; have := aTw_ok (A := A) p hp; exact ⟨by omega, by omega⟩)) ?_
    exact G_iret hk hr dX10_count_112 ⟨ssm_cong (fun p hp => by rw [show S 4 p = aTw A p from (hC.2.1.2.2.2 p hp).2]), rfl⟩
  · refine G_tabIn (tgt := 113) hk dX10_count_1 (by decide) (by decide) (by decide) rfl (by decide) ?_
    refine G_rload_n hk dX10_count_113 rfl ?_
    refine G_getI hk dX10_count_114 flX10_77 (by decide) rfl rfl ?_
    exact G_iret hk hr dX10_count_117 ⟨by rw [h010]; rfl, rfl⟩
  
