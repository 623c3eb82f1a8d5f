theorem c_X3_allTogether (l : Launch) (Γ : Ev) (d : Nat) (S : Sx) (A : Av) (hC : ClE S A) (X : Sim) (hX : CrS (aN A) X S) (hst : ∀ k, k < 12 → 0 ≤ X.2.2 k ∧ X.2.2 k ≤ 2) (hnp : ∀ k, k < 12 → X.2.2 k ≠ 0 → k < anp A) : Ctr l Γ (d + 4) mX3_allTogether [rf Γ 17] S (pP S (allf A X)) := by
  refine Ctr.of (by decide) rfl rfl (Nat.le_of_ble_eq_true rfl) ?_
  intro κ hl hk hr
  subst hl
  obtain ⟨h15, n8, h62, n12, -, -⟩ := cl_n hC
  refine G_iconst hk dX3_allTogether_0 ?_
  refine G_istore_n hk dX3_allTogether_1 (by decide) rfl ?_
  refine G_iconst hk dX3_allTogether_2 ?_
  refine G_istore_n hk dX3_allTogether_3 (by decide) rfl ?_
  have lp := loop_up (P := fun k => GW κ Γ 4 [some (rf Γ 17), some (vI (ssm X.1 k)), some (vI k)] [] (wl Γ S)) (aN A) ?_ ?_ 0 (Nat.zero_le _)
  · exact lp
  · refine G_iload_n hk dX3_allTogether_4 rfl ?_
    refine G_rload_n hk dX3_allTogether_5 rfl ?_
    refine G_getR hk dX3_allTogether_6 flX3_25 (by decide) rfl rfl ?_
    refine G_cV0P hk dX3_allTogether_9 mvX4_howMany mlX3_155 (by decide) rfl rfl (Nat.le_of_ble_eq_true rfl) (c_X4_howMany _ Γ (d + 3) _) ?_
    refine G_icmp_ge (tgt := 30) hk dX3_allTogether_12 (by decide) ⟨by omega, by omega⟩ ⟨by omega, by omega⟩ (fun h_12 => ?_) (fun h_12 => ?_)
    · refine G_iconst hk dX3_allTogether_30 ?_
      refine G_istore_n hk dX3_allTogether_31 (by decide) rfl ?_
      have lp2 := loop_up (P := fun k => GW κ Γ 32 [some (rf Γ 17), some (vI (ssm X.1 (aN A) + ssm (fun w => hol A X (w : Int)) k)), some (vI k)] [] (wl Γ S)) 4 ?_ ?_ 0 (Nat.zero_le _)
      · have e0 : ssm X.1 (aN A) + ssm (fun w => hol A X (w : Int)) 0 = ssm X.1 (aN A) := by simp only [ssm]; omega
        rw [e0] at lp2
        exact lp2
      · refine G_iload_n hk dX3_allTogether_32 rfl ?_
        refine G_iconst hk dX3_allTogether_33 ?_
        refine G_icmp_ge (tgt := 51) hk dX3_allTogether_34 (by decide) ⟨by omega, by omega⟩ ⟨by omega, by omega⟩ (fun h_34 => ?_) (fun h_34 => ?_)
        · refine G_iload_n hk dX3_allTogether_51 rfl ?_
          exact G_iret hk hr dX3_allTogether_52 ⟨rfl, rfl⟩
        · exact absurd h_34 (by omega)--stop
      · intro k hk9 ih
        refine G_iload_n hk dX3_allTogether_32 rfl ?_
        refine G_iconst hk dX3_allTogether_33 ?_
        refine G_icmp_ge (tgt := 51) hk dX3_allTogether_34 (by decide) ⟨by omega, by omega⟩ ⟨by omega, by omega⟩ (fun h_34 => ?_) (fun h_34 => ?_)
        · exact absurd h_34 (by omega)--stop
        · refine G_iload_n hk dX3_allTogether_37 rfl ?_
          refine G_rload_n hk dX3_allTogether_38 rfl ?_
          refine G_iload_n hk dX3_allTogether_39 rfl ?_
          refine G_cV1P hk dX3_allTogether_40 mvX3_heldBy mlX3_156 (by decide) rfl rfl (Nat.le_of_ble_eq_true rfl) (c_X3_heldBy _ Γ (d + 0) _ A hC X hX hst hnp _ ⟨by omega, by omega⟩) ?_
          refine G_iadd hk dX3_allTogether_43 ?_
          refine G_istore_n hk dX3_allTogether_44 (by decide) rfl ?_
          refine G_iinc hk dX3_allTogether_45 rfl (by decide) rfl ?_
          refine G_goto (tgt := 32) hk dX3_allTogether_48 (by decide) ?_
          simp only [ssm] at ih
          rw [← Int.add_assoc] at ih
          exact ih
    · exact absurd h_12 (by omega)--stop
  · intro k hk9 ih
    refine G_iload_n hk dX3_allTogether_4 rfl ?_
    refine G_rload_n hk dX3_allTogether_5 rfl ?_
    refine G_getR hk dX3_allTogether_6 flX3_25 (by decide) rfl rfl ?_
    refine G_cV0P hk dX3_allTogether_9 mvX4_howMany mlX3_155 (by decide) rfl rfl (Nat.le_of_ble_eq_true rfl) (c_X4_howMany _ Γ (d + 3) _) ?_
    refine G_icmp_ge (tgt := 30) hk dX3_allTogether_12 (by decide) ⟨by omega, by omega⟩ ⟨by omega, by omega⟩ (fun h_12 => ?_) (fun h_12 => ?_)
    · exact absurd h_12 (by omega)--stop
    · refine G_iload_n hk dX3_allTogether_15 rfl ?_
      refine G_rload_n hk dX3_allTogether_16 rfl ?_
      refine G_getR hk dX3_allTogether_17 flX3_9 (by decide) rfl rfl ?_
      refine G_iload_n hk dX3_allTogether_20 rfl ?_
      refine G_iald hk dX3_allTogether_21 (by decide) rfl (by decide) (by omega) (by omega) ?_
      rw [show ((k : Int)).toNat = k from rfl, hX.1 k hk9]
      refine G_iadd hk dX3_allTogether_22 ?_
      refine G_istore_n hk dX3_allTogether_23 (by decide) rfl ?_
      refine G_iinc hk dX3_allTogether_24 rfl (by decide) rfl ?_
      refine G_goto (tgt := 4) hk dX3_allTogether_27 (by decide) ?_
      exact ih

theorem c_X3_unseenBits (l : Launch) (Γ : Ev) (d : Nat) (S : Sx) (A : Av) (hC : ClE S A) (X : Sim) (hX : CrS (aN A) X S) (hb18 : ∀ p, p < aN A → 0 ≤ X.1 p ∧ X.1 p ≤ 1000000000) (f : Int) (hf : R32 f) : Ctr l Γ (d + 1) mX3_unseenBits [rf Γ 17, vI f] S (pP S (bsm (fun p => decide (X.1 p < f)) (aN A) : Int)) := by
  refine Ctr.of (by decide) rfl rfl (Nat.le_of_ble_eq_true rfl) ?_
  intro κ hl hk hr
  subst hl
  obtain ⟨h15, n8, h62, n12, -, -⟩ := cl_n hC
  refine G_iconst hk dX3_unseenBits_0 ?_
  refine G_istore_n hk dX3_unseenBits_1 (by decide) rfl ?_
  refine G_iconst hk dX3_unseenBits_2 ?_
  refine G_istore_n hk dX3_unseenBits_3 (by decide) rfl ?_
  have lp := loop_up (P := fun k => GW κ Γ 4 [some (rf Γ 17), some (vI f), some (vI (bsm (fun p => decide (X.1 p < f)) k : Int)), some (vI k)] [] (wl Γ S)) (aN A) ?_ ?_ 0 (Nat.zero_le _)
  · exact lp
  · refine G_iload_n hk dX3_unseenBits_4 rfl ?_
    refine G_rload_n hk dX3_unseenBits_5 rfl ?_
    refine G_getR hk dX3_unseenBits_6 flX3_25 (by decide) rfl rfl ?_
    refine G_cV0P hk dX3_unseenBits_9 mvX4_howMany mlX3_155 (by decide) rfl rfl (Nat.le_of_ble_eq_true rfl) (c_X4_howMany _ Γ (d + 0) _) ?_
    refine G_icmp_ge (tgt := 37) hk dX3_unseenBits_12 (by decide) ⟨by omega, by omega⟩ ⟨by omega, by omega⟩ (fun h_12 => ?_) (fun h_12 => ?_)
    · refine G_iload_n hk dX3_unseenBits_37 rfl ?_
      exact G_iret hk hr dX3_unseenBits_38 ⟨rfl, rfl⟩
    · exact absurd h_12 (by omega)--stop
  · intro k hk9 ih
    have hx := hb18 k hk9
    refine G_iload_n hk dX3_unseenBits_4 rfl ?_
    refine G_rload_n hk dX3_unseenBits_5 rfl ?_
    refine G_getR hk dX3_unseenBits_6 flX3_25 (by decide) rfl rfl ?_
    refine G_cV0P hk dX3_unseenBits_9 mvX4_howMany mlX3_155 (by decide) rfl rfl (Nat.le_of_ble_eq_true rfl) (c_X4_howMany _ Γ (d + 0) _) ?_
    refine G_icmp_ge (tgt := 37) hk dX3_unseenBits_12 (by decide) ⟨by omega, by omega⟩ ⟨by omega, by omega⟩ (fun h_12 => ?_) (fun h_12 => ?_)
    · exact absurd h_12 (by omega)--stop
    · refine G_rload_n hk dX3_unseenBits_15 rfl ?_
      refine G_getR hk dX3_unseenBits_16 flX3_9 (by decide) rfl rfl ?_
      refine G_iload_n hk dX3_unseenBits_19 rfl ?_
      refine G_iald hk dX3_unseenBits_20 (by decide) rfl (by decide) (by omega) (by omega) ?_
      rw [show ((k : Int)).toNat = k from rfl, hX.1 k hk9]
      refine G_iload_n hk dX3_unseenBits_21 rfl ?_
      refine G_icmp_ge (tgt := 31) hk dX3_unseenBits_22 (by decide) ⟨by omega, by omega⟩ hf (fun h_22 => ?_) (fun h_22 => ?_)
      · refine G_iinc hk dX3_unseenBits_31 rfl (by decide) rfl ?_
        refine G_goto (tgt := 4) hk dX3_unseenBits_34 (by decide) ?_
        rw [show bsm (fun p => decide (X.1 p < f)) (k + 1) = bsm (fun p => decide (X.1 p < f)) k by simp only [bsm]; rw [if_neg (by simp; omega)]; rfl] at ih
        exact ih
      · refine G_iload_n hk dX3_unseenBits_25 rfl ?_
        refine G_iconst hk dX3_unseenBits_26 ?_
        refine G_iload_n hk dX3_unseenBits_27 rfl ?_
        refine G_ishl hk dX3_unseenBits_28 (by omega) (shl_ok (by omega)) (by omega) (by omega) ?_
        refine G_ior hk dX3_unseenBits_29 ?_
        rw [bsm_or1 (fun p => decide (X.1 p < f)) (by omega) (decide_eq_true (by omega))]
        refine G_istore_n hk dX3_unseenBits_30 (by decide) rfl ?_
        refine G_iinc hk dX3_unseenBits_31 rfl (by decide) rfl ?_
        refine G_goto (tgt := 4) hk dX3_unseenBits_34 (by decide) ?_
        exact ih
