theorem c_X3_giftTo (l : Launch) (Γ : Ev) (d : Nat) (S : Sx) (A : Av) (hC : ClE S A) (p : Int) (hp : R32 p) (v : Int) (k : Nat) (hv : v = (k : Int)) (hk9 : k < anp A) (hh : aP A (4 * k + 1) ≤ (aN A : Int) - 1) : Ctr l Γ (d + 2) mX3_giftTo [rf Γ 17, vI p, vI v] S (pP S (if aP A (4 * k + 1) = p then S 19 k else if aTw A (aP A (4 * k + 1)).toNat = p then S 20 k else 0)) := by
  refine Ctr.of (by decide) rfl rfl (Nat.le_of_ble_eq_true rfl) ?_
  intro κ hl hk hr
  subst hl
  subst hv
  obtain ⟨h15, n8, h62, n12, -, -⟩ := cl_n hC
  have p7 := (hC.1.2.2.2.1 k hk9).2.1
  refine G_rload_n hk dX3_giftTo_0 rfl ?_
  refine G_getR hk dX3_giftTo_1 flX3_29 (by decide) rfl rfl ?_
  refine G_iload_n hk dX3_giftTo_4 rfl ?_
  refine G_cV1P hk dX3_giftTo_5 mvX5_personOn mlX3_116 (by decide) rfl rfl (Nat.le_of_ble_eq_true rfl) (c_X5_personOn _ Γ (d + 0) _ _ ⟨by omega, by omega⟩ ⟨by omega, by omega⟩) ?_
  rw [if_pos (by omega), show ((k : Int)).toNat = k from rfl, (hC.2.2.1.2 k hk9).1]
  refine G_istore_n hk dX3_giftTo_8 (by decide) rfl ?_
  refine G_iload_n hk dX3_giftTo_9 rfl ?_
  refine G_iload_n hk dX3_giftTo_10 rfl ?_
  refine G_icmp_ne (tgt := 20) hk dX3_giftTo_11 (by decide) ⟨by omega, by omega⟩ ⟨by omega, by omega⟩ (fun h_11 => ?_) (fun h_11 => ?_)
  · refine G_rload_n hk dX3_giftTo_20 rfl ?_
    refine G_getR hk dX3_giftTo_21 flX3_25 (by decide) rfl rfl ?_
    refine G_iload_n hk dX3_giftTo_24 rfl ?_
    refine G_cV1P hk dX3_giftTo_25 mvX4_twinOf mlX3_113 (by decide) rfl rfl (Nat.le_of_ble_eq_true rfl) (c_X4_twinOf _ Γ (d + 0) _ _ ⟨by omega, by omega⟩ ⟨by omega, by omega⟩) ?_
    rw [if_pos (by omega), show S 4 (aP A (4 * k + 1)).toNat = aTw A (aP A (4 * k + 1)).toNat from (hC.2.1.2.2.2 _ (by show (aP A (4 * k + 1)).toNat < aN A; omega)).2]
    have t9 := aTw_ok (A := A) (aP A (4 * k + 1)).toNat (by omega)
    refine G_iload_n hk dX3_giftTo_28 rfl ?_
    refine G_icmp_ne (tgt := 40) hk dX3_giftTo_29 (by decide) ⟨by omega, by omega⟩ ⟨by omega, by omega⟩ (fun h_29 => ?_) (fun h_29 => ?_)
    · refine G_iconst hk dX3_giftTo_40 ?_
      exact G_iret hk hr dX3_giftTo_41 ⟨by rw [if_neg (by omega), if_neg (by omega)], rfl⟩
    · refine G_rload_n hk dX3_giftTo_32 rfl ?_
      refine G_iload_n hk dX3_giftTo_33 rfl ?_
      refine G_cV1P hk dX3_giftTo_34 mvX3_tookOfTwin mlX3_146 (by decide) rfl rfl (Nat.le_of_ble_eq_true rfl) (c_X3_tookOfTwin _ Γ (d + 0) _ _ ⟨by omega, by omega⟩) ?_
      rw [if_pos (by omega), show ((k : Int)).toNat = k from rfl]
      refine G_goto (tgt := 41) hk dX3_giftTo_37 (by decide) ?_
      exact G_iret hk hr dX3_giftTo_41 ⟨by rw [if_neg (by omega), if_pos (by omega)], rfl⟩
  · refine G_rload_n hk dX3_giftTo_14 rfl ?_
    refine G_iload_n hk dX3_giftTo_15 rfl ?_
    refine G_cV1P hk dX3_giftTo_16 mvX3_tookOfPerson mlX3_143 (by decide) rfl rfl (Nat.le_of_ble_eq_true rfl) (c_X3_tookOfPerson _ Γ (d + 0) _ _ ⟨by omega, by omega⟩) ?_
    rw [if_pos (by omega), show ((k : Int)).toNat = k from rfl]
    exact G_iret hk hr dX3_giftTo_19 ⟨by rw [if_pos (by omega)], rfl⟩

theorem hol_12 {A : Av} {X : Sim} {w : Int} (h12 : anp A ≤ 12) (hnp : ∀ k, k < 12 → X.2.2 k ≠ 0 → k < anp A) : ssm (fun k => if X.2.2 k = 1 ∧ aP A (4 * k + 3) = w then X.2.1 (2 * k) + X.2.1 (2 * k + 1) else 0) 12 = hol A X w := by
  have g : ∀ n, anp A ≤ n → n ≤ 12 → ssm (fun k => if X.2.2 k = 1 ∧ aP A (4 * k + 3) = w then X.2.1 (2 * k) + X.2.1 (2 * k + 1) else 0) n = hol A X w := by
    intro n
    induction n with
    | zero => intro h _; unfold hol; rw [show anp A = 0 by omega]
    | succ n ih =>
      intro h h2
      by_cases e : anp A = n + 1
      · unfold hol; rw [e]
      · rw [← ih (by omega) (by omega)]
        simp only [ssm]
        rw [if_neg (fun c => by have := hnp n (by omega) (by rw [c.1]; decide); omega)]
        omega
  exact g 12 h12 (Nat.le_refl 12)

theorem c_X3_heldBy (l : Launch) (Γ : Ev) (d : Nat) (S : Sx) (A : Av) (hC : ClE S A) (X : Sim) (hX : CrS (aN A) X S) (hst : ∀ k, k < 12 → 0 ≤ X.2.2 k ∧ X.2.2 k ≤ 2) (hnp : ∀ k, k < 12 → X.2.2 k ≠ 0 → k < anp A) (w : Int) (hw : R32 w) : Ctr l Γ (d + 3) mX3_heldBy [rf Γ 17, vI w] S (pP S (hol A X w)) := by
  refine Ctr.of (by decide) rfl rfl (Nat.le_of_ble_eq_true rfl) ?_
  intro κ hl hk hr
  subst hl
  obtain ⟨h15, n8, h62, n12, -, -⟩ := cl_n hC
  refine G_iconst hk dX3_heldBy_0 ?_
  refine G_istore_n hk dX3_heldBy_1 (by decide) rfl ?_
  refine G_iconst hk dX3_heldBy_2 ?_
  refine G_istore_n hk dX3_heldBy_3 (by decide) rfl ?_
  have lp := loop_up (P := fun k => GW κ Γ 4 [some (rf Γ 17), some (vI w), some (vI (ssm (fun k => if X.2.2 k = 1 ∧ aP A (4 * k + 3) = w then X.2.1 (2 * k) + X.2.1 (2 * k + 1) else 0) k)), some (vI k)] [] (wl Γ S)) 12 ?_ ?_ 0 (Nat.zero_le _)
  · exact lp
  · refine G_iload_n hk dX3_heldBy_4 rfl ?_
    refine G_bipush hk dX3_heldBy_5 (by decide) ?_
    refine G_icmp_ge (tgt := 44) hk dX3_heldBy_7 (by decide) ⟨by omega, by omega⟩ ⟨by omega, by omega⟩ (fun h_7 => ?_) (fun h_7 => ?_)
    · refine G_iload_n hk dX3_heldBy_44 rfl ?_
      exact G_iret hk hr dX3_heldBy_45 ⟨hol_12 n12 hnp, rfl⟩
    · exact absurd h_7 (by omega)--stop
  · intro k hk9 ih
    refine G_iload_n hk dX3_heldBy_4 rfl ?_
    refine G_bipush hk dX3_heldBy_5 (by decide) ?_
    refine G_icmp_ge (tgt := 44) hk dX3_heldBy_7 (by decide) ⟨by omega, by omega⟩ ⟨by omega, by omega⟩ (fun h_7 => ?_) (fun h_7 => ?_)
    · exact absurd h_7 (by omega)--stop
    · refine G_rload_n hk dX3_heldBy_10 rfl ?_
      refine G_iload_n hk dX3_heldBy_11 rfl ?_
      refine G_cV1P hk dX3_heldBy_12 mvX3_isThere mlX3_134 (by decide) rfl rfl (Nat.le_of_ble_eq_true rfl) (c_X3_isThere _ Γ (d + 1) _ _ X hX hst _ ⟨by omega, by omega⟩) ?_
      refine G_bif_eq (tgt := 38) hk dX3_heldBy_15 (by decide) (fun h_15 => ?_) (fun h_15 => ?_)
      · refine G_iinc hk dX3_heldBy_38 rfl (by decide) rfl ?_
        refine G_goto (tgt := 4) hk dX3_heldBy_41 (by decide) ?_
        have e9 : ssm (fun k => if X.2.2 k = 1 ∧ aP A (4 * k + 3) = w then X.2.1 (2 * k) + X.2.1 (2 * k + 1) else 0) k = ssm (fun k => if X.2.2 k = 1 ∧ aP A (4 * k + 3) = w then X.2.1 (2 * k) + X.2.1 (2 * k + 1) else 0) (k + 1) := by
          simp only [ssm]
          rw [if_neg (fun c => h_15 ⟨by omega, by omega, c.1⟩)]; omega
        rw [← e9] at ih
        exact ih
      · have h1k : X.2.2 k = 1 := h_15.2.2
        have h1n := hnp k hk9 (by rw [h1k]; decide)
        have d3 := (hC.1.2.2.2.1 k h1n).2.2.2
        refine G_rload_n hk dX3_heldBy_18 rfl ?_
        refine G_getR hk dX3_heldBy_19 flX3_29 (by decide) rfl rfl ?_
        refine G_iload_n hk dX3_heldBy_22 rfl ?_
        refine G_cV1P hk dX3_heldBy_23 mvX5_drawerOf mlX3_149 (by decide) rfl rfl (Nat.le_of_ble_eq_true rfl) (c_X5_drawerOf _ Γ (d + 1) _ _ ⟨by omega, by omega⟩ ⟨by omega, by omega⟩) ?_
        rw [if_pos (by omega), show ((k : Int)).toNat = k from rfl, (hC.2.2.1.2 k h1n).2.2]
        refine G_iload_n hk dX3_heldBy_26 rfl ?_
        refine G_icmp_ne (tgt := 38) hk dX3_heldBy_27 (by decide) ⟨by omega, by omega⟩ ⟨by omega, by omega⟩ (fun h_27 => ?_) (fun h_27 => ?_)
        · refine G_iinc hk dX3_heldBy_38 rfl (by decide) rfl ?_
          refine G_goto (tgt := 4) hk dX3_heldBy_41 (by decide) ?_
          have e9 : ssm (fun k => if X.2.2 k = 1 ∧ aP A (4 * k + 3) = w then X.2.1 (2 * k) + X.2.1 (2 * k + 1) else 0) k = ssm (fun k => if X.2.2 k = 1 ∧ aP A (4 * k + 3) = w then X.2.1 (2 * k) + X.2.1 (2 * k + 1) else 0) (k + 1) := by
            simp only [ssm]
            rw [if_neg (fun c => h_27 c.2)]; omega
          rw [← e9] at ih
          exact ih
        · refine G_iload_n hk dX3_heldBy_30 rfl ?_
          refine G_rload_n hk dX3_heldBy_31 rfl ?_
          refine G_iload_n hk dX3_heldBy_32 rfl ?_
          refine G_cV1P hk dX3_heldBy_33 mvX3_tookOfBoth mlX3_152 (by decide) rfl rfl (Nat.le_of_ble_eq_true rfl) (c_X3_tookOfBoth _ Γ (d + 0) _ _ ⟨by omega, by omega⟩) ?_
          rw [show ((k : Int)).toNat = k from rfl, (hX.2.1 k hk9).1, (hX.2.1 k hk9).2]
          refine G_iadd hk dX3_heldBy_36 ?_
          refine G_istore_n hk dX3_heldBy_37 (by decide) rfl ?_
          refine G_iinc hk dX3_heldBy_38 rfl (by decide) rfl ?_
          refine G_goto (tgt := 4) hk dX3_heldBy_41 (by decide) ?_
          have e9 : ssm (fun k => if X.2.2 k = 1 ∧ aP A (4 * k + 3) = w then X.2.1 (2 * k) + X.2.1 (2 * k + 1) else 0) k + (X.2.1 (2 * k) + X.2.1 (2 * k + 1)) = ssm (fun k => if X.2.2 k = 1 ∧ aP A (4 * k + 3) = w then X.2.1 (2 * k) + X.2.1 (2 * k + 1) else 0) (k + 1) := by
            simp only [ssm]
            rw [if_pos ⟨h1k, by omega⟩]
          rw [← e9] at ih
          exact ih
