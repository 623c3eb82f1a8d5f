def frB9 (S S2 : Sx) : Prop := frC S S2 ∧ ∀ k, k ≠ 7 → k ≠ 9 → S2 17 k = S 17 k
theorem burnN_st {np : Nat} {tw P B : Nat → Int} {y : Int} {X : Sim} {k : Nat} : ∀ m, (itN (burn1 np tw P B y) m X).2.2 k ≠ 0 → X.2.2 k ≠ 0 := by
  intro m
  induction m with
  | zero => exact id
  | succ m ih =>
    intro h
    have e1 : itN (burn1 np tw P B y) (m + 1) X = burn1 np tw P B y m (itN (burn1 np tw P B y) m X) := rfl
    rw [e1] at h
    refine ih (fun c => h ?_)
    clear h e1
    revert c
    generalize itN (burn1 np tw P B y) m X = Z
    intro c
    unfold burn1
    split
    · next g =>
      by_cases e : k = (B (2 * m + 1)).toNat
      · rw [← e, c] at g; omega
      · simp only [bur, upf, if_neg e]; exact c
    · exact c

theorem b1_is {np : Nat} {tw P B : Nat → Int} {y : Int} {j : Nat} {X : Sim} (hy : B (2 * j) = y) (h0 : 0 ≤ B (2 * j + 1)) (hn : X.2.2 (B (2 * j + 1)).toNat = 1 → (B (2 * j + 1)).toNat < np) : burn1 np tw P B y j X = if X.2.2 (B (2 * j + 1)).toNat = 1 then bur tw (P (4 * (B (2 * j + 1)).toNat + 1)).toNat (B (2 * j + 1)).toNat X else X := by
  unfold burn1
  by_cases c : X.2.2 (B (2 * j + 1)).toNat = 1
  · rw [if_pos ⟨hy, by have := hn c; omega, c⟩, if_pos c]
  · rw [if_neg (fun g => c g.2.2), if_neg c]

theorem c_X3_burnAllOf (l : Launch) (Γ : Ev) (d : Nat) (S : Sx) (A : Av) (hC : ClE S A) (X : Sim) (hX : CrS (aN A) X S) (b : Int) (hB : SB (aN A) (aP A) b X) (y : Int) (hy9 : R32 y) (i : Nat) (h8 : S 17 9 = (i : Int)) (hN : Nx (anb A) (fun k => aB A (2 * k)) (S 15) i y) (hnp : ∀ k, k < 12 → X.2.2 k ≠ 0 → k < anp A) : Ctr l Γ (d + 3) mX3_burnAllOf [rf Γ 17, vI y] S (pV (fun S2 => CrS (aN A) (burnN (anp A) (anb A) (aTw A) (aP A) (aB A) y X) S2 ∧ frB9 S S2 ∧ ∃ i2 : Nat, S2 17 9 = (i2 : Int) ∧ Nx (anb A) (fun k => aB A (2 * k)) (S 15) i2 (y + 1))) := by
  refine Ctr.of (by decide) rfl rfl (Nat.le_of_ble_eq_true rfl) ?_
  intro κ hl hk hr
  subst hl
  obtain ⟨h15, n8, h62, n12, h132, m12⟩ := cl_n hC
  have hO := hC.2.2.2.1.2.2.2.2
  have lp : ∀ u i m (S1 : Sx), u = anb A - i → CrS (aN A) (itN (burn1 (anp A) (aTw A) (aP A) (aB A) y) m X) S1 → frB9 S S1 → S1 17 9 = (i : Int) → Cut (anb A) (fun k => aB A (2 * k)) (S 15) i m y → GW κ Γ 0 [some (rf Γ 17), some (vI y)] [] (wl Γ S1) := by
    intro u
    induction u with
    | zero =>
      intro i m S1 hu hX1 hf h8 hc
      have hC1 := ClE_fr hC hf.1
      have e62 : S1 13 2 = (anb A : Int) := (cl_n hC1).2.2.2.2.1
      have e8 : S1 15 = S 15 := hf.1 15 (by decide) (by decide) (by decide) (by decide)
      have ci := hc.1
      refine G_rload_n hk dX3_burnAllOf_0 rfl ?_
      refine G_getI hk dX3_burnAllOf_1 flX3_65 (by decide) rfl rfl ?_
      refine G_rload_n hk dX3_burnAllOf_4 rfl ?_
      refine G_getR hk dX3_burnAllOf_5 flX3_33 (by decide) rfl rfl ?_
      refine G_cV0P hk dX3_burnAllOf_8 mvX0_howMany mlX3_99 (by decide) rfl rfl (Nat.le_of_ble_eq_true rfl) (c_X0_howMany _ Γ (d + 1) _) ?_
      refine G_icmp_ge (tgt := 70) hk dX3_burnAllOf_11 (by decide) ⟨by omega, by omega⟩ ⟨by omega, by omega⟩ (fun h_11 => ?_) (fun h_11 => ?_)
      · exact G_vret hk hr dX3_burnAllOf_70 ⟨by unfold burnN; rw [itN_skip (m := m) _ hc.2.1 (fun k6 a b Z => burn1_no ((Cut_end hO hc (fun h => absurd h (by omega))).2 k6 a b) Z)]; exact hX1, hf, i, h8, (Cut_end hO hc (fun h => absurd h (by omega))).1⟩
      · exact absurd h_11 (by omega)--stop
    | succ u ih =>
      intro i m S1 hu hX1 hf h8 hc
      have hC1 := ClE_fr hC hf.1
      have e62 : S1 13 2 = (anb A : Int) := (cl_n hC1).2.2.2.2.1
      have e8 : S1 15 = S 15 := hf.1 15 (by decide) (by decide) (by decide) (by decide)
      have ci := hc.1
      have oi := hO.1 i (by omega)
      obtain ⟨k, hk5⟩ : ∃ k : Nat, S 15 i = (k : Int) := ⟨(S 15 i).toNat, by omega⟩
      have y29 := hC.1.2.2.2.2.2.1 k (by omega)
      have hB1 := SB_burnN (np := anp A) (tw := aTw A) (y := y) hB m (fun j h5 => (hC.1.2.2.2.2.2.1 j (by have := hc.2.1; omega)).2)
      refine G_rload_n hk dX3_burnAllOf_0 rfl ?_
      refine G_getI hk dX3_burnAllOf_1 flX3_65 (by decide) rfl rfl ?_
      refine G_rload_n hk dX3_burnAllOf_4 rfl ?_
      refine G_getR hk dX3_burnAllOf_5 flX3_33 (by decide) rfl rfl ?_
      refine G_cV0P hk dX3_burnAllOf_8 mvX0_howMany mlX3_99 (by decide) rfl rfl (Nat.le_of_ble_eq_true rfl) (c_X0_howMany _ Γ (d + 1) _) ?_
      refine G_icmp_ge (tgt := 70) hk dX3_burnAllOf_11 (by decide) ⟨by omega, by omega⟩ ⟨by omega, by omega⟩ (fun h_11 => ?_) (fun h_11 => ?_)
      · exact absurd h_11 (by omega)--stop
      · refine G_rload_n hk dX3_burnAllOf_14 rfl ?_
        refine G_getR hk dX3_burnAllOf_15 flX3_33 (by decide) rfl rfl ?_
        refine G_getR hk dX3_burnAllOf_18 flX3_102 (by decide) rfl rfl ?_
        refine G_rload_n hk dX3_burnAllOf_21 rfl ?_
        refine G_getI hk dX3_burnAllOf_22 flX3_65 (by decide) rfl rfl ?_
        refine G_cV1P hk dX3_burnAllOf_25 mvX7_yearAt mlX3_88 (by decide) rfl rfl (Nat.le_of_ble_eq_true rfl) (c_ryB _ Γ (d + 2) _ _ i (anb A) k (aB A (2 * k)) h8 e62 (by omega) (by omega) (by rw [e8]; exact hk5) (by omega) (hC1.2.2.2.1.2.2.1 k (by omega))) ?_
        refine G_iload_n hk dX3_burnAllOf_28 rfl ?_
        refine G_icmp_ne (tgt := 70) hk dX3_burnAllOf_29 (by decide) ⟨by omega, by omega⟩ ⟨by omega, by omega⟩ (fun h_29 => ?_) (fun h_29 => ?_)
        · exact G_vret hk hr dX3_burnAllOf_70 ⟨by unfold burnN; rw [itN_skip (m := m) _ hc.2.1 (fun k6 a b Z => burn1_no ((Cut_end hO hc (fun _ => by rw [hk5, show ((k : Int)).toNat = k from rfl]; exact h_29)).2 k6 a b) Z)]; exact hX1, hf, i, h8, (Cut_end hO hc (fun _ => by rw [hk5, show ((k : Int)).toNat = k from rfl]; exact h_29)).1⟩
        · have hy : aB A (2 * k) = y := by omega
          obtain ⟨hc2, hmk, hkn, hsk⟩ := Cut_step hO hc (by omega) hk5 hy
          refine G_rload_n hk dX3_burnAllOf_32 rfl ?_
          refine G_rload_n hk dX3_burnAllOf_33 rfl ?_
          refine G_getR hk dX3_burnAllOf_34 flX3_33 (by decide) rfl rfl ?_
          refine G_rload_n hk dX3_burnAllOf_37 rfl ?_
          refine G_getR hk dX3_burnAllOf_38 flX3_33 (by decide) rfl rfl ?_
          refine G_getR hk dX3_burnAllOf_41 flX3_102 (by decide) rfl rfl ?_
          refine G_rload_n hk dX3_burnAllOf_44 rfl ?_
          refine G_getI hk dX3_burnAllOf_45 flX3_65 (by decide) rfl rfl ?_
          refine G_cV1P hk dX3_burnAllOf_48 mvX7_numberAt mlX3_93 (by decide) rfl rfl (Nat.le_of_ble_eq_true rfl) (c_rnB _ Γ (d + 2) _ _ i (anb A) h8 e62 (by omega) (by omega)) ?_
          rw [e8, hk5]
          refine G_cV1P hk dX3_burnAllOf_51 mvX0_pictureOf mlX3_103 (by decide) rfl rfl (Nat.le_of_ble_eq_true rfl) (c_X0_pictureOf _ Γ (d + 2) _ _ ⟨by omega, by omega⟩ ⟨by omega, by omega⟩) ?_
          rw [if_pos (by omega), show ((k : Int)).toNat = k from rfl, hC1.2.2.2.2 k (by omega)]
          refine G_cV1V hk dX3_burnAllOf_54 mvX3_burnPicture mlX3_106 (by decide) rfl rfl (Nat.le_of_ble_eq_true rfl) (c_X3_burnPicture _ Γ (d + 0) _ A hC1 _ hX1 hB1.2.2 _ (aB A (2 * k + 1)).toNat (by omega) (by omega) (fun h => hnp _ (by omega) (burnN_st m (by rw [h]; decide)))) (fun S_54 hp_54 => ?_)
          obtain ⟨hX2, hf2⟩ := hp_54
          rw [← b1_is hy y29.2.1 (fun h => hnp _ (by omega) (burnN_st m (by rw [h]; decide))), ← itN_skip (m := m) k hmk (fun k' a b Z => burn1_no (hsk k' a b) Z)] at hX2
          have g8 : S_54 17 9 = (i : Int) := by rw [hf2.2 9 (by decide)]; exact h8
          refine G_rload_n hk dX3_burnAllOf_57 rfl ?_
          refine G_dup hk dX3_burnAllOf_58 rfl ?_
          refine G_getI hk dX3_burnAllOf_59 flX3_65 (by decide) rfl rfl ?_
          refine G_iconst hk dX3_burnAllOf_62 ?_
          refine G_iadd hk dX3_burnAllOf_63 ?_
          refine G_putI hk dX3_burnAllOf_64 flX3_65 fpX3_9 (by decide) rfl rfl ?_
          refine G_goto (tgt := 0) hk dX3_burnAllOf_67 (by decide) ?_
          refine ih (i + 1) (k + 1) _ (by omega) ?_ ⟨?_, ?_⟩ ?_ hc2
          · refine ⟨fun p hp => ?_, fun j hj => ?_, ?_, ?_⟩
            · rw [su_ne _ (by decide)]; exact hX2.1 p hp
            · rw [su_ne _ (by decide), su_ne _ (by decide)]; exact hX2.2.1 j hj
            · rw [su_nk _ _ _ (by decide)]; exact hX2.2.2.1
            · rw [su_nk _ _ _ (by decide)]; exact hX2.2.2.2
          · intro c a b e f
            rw [su_ne _ a, hf2.1 c a b e f]; exact hf.1 c a b e f
          · intro j a b
            rw [su_nk _ _ _ b, hf2.2 j a]; exact hf.2 j a b
          · rw [su_at, g8]; omega
  exact lp _ i 0 S rfl hX ⟨fun _ _ _ _ _ => rfl, fun _ _ _ => rfl⟩ h8 (Cut_0 hO hN)
