theorem c_X3_giftTo (l : Launch) (Γ : Ev) (d : Nat) (S : Sx) (A : Av) (hC : ClE S A) (p : Int) (hp : R32 p) (v : Int) (k : Nat) (hv : v = (k : Int)) (hk9 : k < anp A) (hh : aP A (4 * k + 1) ≤ (aN A : Int) - 1) : Ctr l Γ (d + 2) mX3_giftTo [rf Γ 17, vI p, vI v] S (pP S (if aP A (4 * k + 1) = p then S 19 k else if aTw A (aP A (4 * k + 1)).toNat = p then S 20 k else 0)) := by
  refine Ctr.of (by decide) rfl rfl (Nat.le_of_ble_eq_true rfl) ?_
  intro κ hl hk hr
  subst hl
  subst hv
  obtain ⟨h15, n8, h62, n12, -, -⟩ := cl_n hC
  have p7 := (hC.1.2.2.2.1 k hk9).2.1
  refine G_rload_n hk dX3_giftTo_0 rfl ?_
  refine G_getR hk dX3_giftTo_1 flX3_29 (by decide) rfl rfl ?_
  refine G_iload_n hk dX3_giftTo_4 rfl ?_
  refine G_cV1P hk dX3_giftTo_5 mvX5_personOn mlX3_116 (by decide) rfl rfl (Nat.le_of_ble_eq_true rfl) (c_X5_personOn _ Γ (d + 0) _ _ ⟨by omega, by omega⟩ ⟨by omega, by omega⟩) ?_
  rw [if_pos (by omega), show ((k : Int)).toNat = k from rfl, (hC.2.2.1.2 k hk9).1]
  refine G_istore_n hk dX3_giftTo_8 (by decide) rfl ?_
  refine G_iload_n hk dX3_giftTo_9 rfl ?_
  refine G_iload_n hk dX3_giftTo_10 rfl ?_
  refine G_icmp_ne (tgt := 20) hk dX3_giftTo_11 (by decide) ⟨by omega, by omega⟩ ⟨by omega, by omega⟩ (fun h_11 => ?_) (fun h_11 => ?_)
  · refine G_rload_n hk dX3_giftTo_20 rfl ?_
    refine G_getR hk dX3_giftTo_21 flX3_25 (by decide) rfl rfl ?_
    refine G_iload_n hk dX3_giftTo_24 rfl ?_
    refine G_cV1P hk dX3_giftTo_25 mvX4_twinOf mlX3_113 (by decide) rfl rfl (Nat.le_of_ble_eq_true rfl) (c_X4_twinOf _ Γ (d + 0) _ _ ⟨by omega, by omega⟩ ⟨by omega, by omega⟩) ?_
    rw [if_pos (by omega), show S 4 (aP A (4 * k + 1)).toNat = aTw A (aP A (4 * k + 1)).toNat from (hC.2.1.2.2.2 _ (by show (aP A (4 * k + 1)).toNat < aN A; omega)).2]
    have t9 := aTw_ok (A := A) (aP A (4 * k + 1)).toNat (by omega)
    refine G_iload_n hk dX3_giftTo_28 rfl ?_
    refine G_icmp_ne (tgt := 40) hk dX3_giftTo_29 (by decide) ⟨by omega, by omega⟩ ⟨by omega, by omega⟩ (fun h_29 => ?_) (fun h_29 => ?_)
    · refine G_iconst hk dX3_giftTo_40 ?_
      exact G_iret hk hr dX3_giftTo_41 ⟨by rw [if_neg (by omega), if_neg (by omega)], rfl⟩
    · refine G_rload_n hk dX3_giftTo_32 rfl ?_
      refine G_iload_n hk dX3_giftTo_33 rfl ?_
      refine G_cV1P hk dX3_giftTo_34 mvX3_tookOfTwin mlX3_146 (by decide) rfl rfl (Nat.le_of_ble_eq_true rfl) (c_X3_tookOfTwin _ Γ (d + 0) _ _ ⟨by omega, by omega⟩) ?_
      rw [if_pos (by omega), show ((k : Int)).toNat = k from rfl]
      refine G_goto (tgt := 41) hk dX3_giftTo_37 (by decide) ?_
      exact G_iret hk hr dX3_giftTo_41 ⟨by rw [if_neg (by omega), if_pos (by omega)], rfl⟩
  · refine G_rload_n hk dX3_giftTo_14 rfl ?_
    refine G_iload_n hk dX3_giftTo_15 rfl ?_
    refine G_cV1P hk dX3_giftTo_16 mvX3_tookOfPerson mlX3_143 (by decide) rfl rfl (Nat.le_of_ble_eq_true rfl) (c_X3_tookOfPerson _ Γ (d + 0) _ _ ⟨by omega, by omega⟩) ?_
    rw [if_pos (by omega), show ((k : Int)).toNat = k from rfl]
    exact G_iret hk hr dX3_giftTo_19 ⟨by rw [if_pos (by omega)], rfl⟩

theorem hol_12 {A : Av} {X : Sim} {w : Int} (h12 : anp A ≤ 12) (hnp : ∀ k, k < 12 → X.2.2 k ≠ 0 → k < anp A) : ssm (fun k => if X.2.2 k = 1 ∧ aP A (4 * k + 3) = w then X.2.1 (2 * k) + X.2.1 (2 * k + 1) else 0) 12 = hol A X w := by
  have g : ∀ n, anp A ≤ n → n ≤ 12 → ssm (fun k => if X.2.2 k = 1 ∧ aP A (4 * k + 3) = w then X.2.1 (2 * k) + X.2.1 (2 * k + 1) else 0) n = hol A X w := by
    intro n
    induction n with
    | zero => intro h _; unfold hol; rw [show anp A = 0 by omega]
    | succ n ih =>
      intro h h2
      by_cases e : anp A = n + 1
      · unfold hol; rw [e]
      · rw [← ih (by omega) (by omega)]
        simp only [ssm]
        rw [if_neg (fun c => by have := hnp n (by omega) (by rw [c.1]; decide); omega)]
        omega
  exact g 12 h12 (Nat.le_refl 12)
