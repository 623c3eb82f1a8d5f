def frT8 (S S2 : Sx) : Prop := frC S S2 ∧ ∀ k, k ≠ 6 → k ≠ 8 → S2 17 k = S 17 k

theorem c_X3_takeAllOf (l : Launch) (Γ : Ev) (d : Nat) (S : Sx) (A : Av) (hC : ClE S A) (X : Sim) (hX : CrS (aN A) X S) (b : Int) (hB : SB (aN A) (aP A) b X) (hb9 : b ≤ 1000000000) (y : Int) (hy9 : R32 y) (i : Nat) (h8 : S 17 8 = (i : Int)) (hN : Nx (anp A) (fun k => aP A (4 * k)) (S 8) i y) (h10 : R32 (S 17 10)) (hz : ∀ k, k < anp A → 0 ≤ szf (aP A) (S 17 10) (S 17 11) k ∧ szf (aP A) (S 17 10) (S 17 11) k ≤ 9) (hst : ∀ k, k < 12 → X.2.2 k ≠ 0 → k < anp A ∧ aP A (4 * k) < y) : Ctr l Γ (d + 3) mX3_takeAllOf [rf Γ 17, vI y] S (pV (fun S2 => CrS (aN A) (takeN (aN A) (anp A) (aTw A) (aP A) (S 17 10) (S 17 11) y X) S2 ∧ frT8 S S2 ∧ ∃ i2 : Nat, S2 17 8 = (i2 : Int) ∧ Nx (anp A) (fun k => aP A (4 * k)) (S 8) i2 (y + 1))) := by
  refine Ctr.of (by decide) rfl rfl (Nat.le_of_ble_eq_true rfl) ?_
  intro κ hl hk hr
  subst hl
  obtain ⟨h15, n8, h62, n12, -, -⟩ := cl_n hC
  have hO := hC.2.2.1.1.2.2.2.2
  have lp : ∀ u i m (S1 : Sx), u = anp A - i → CrS (aN A) (itN (take1 (aN A) (aTw A) (aP A) (S 17 10) (S 17 11) y) m X) S1 → frT8 S S1 → S1 17 8 = (i : Int) → Cut (anp A) (fun k => aP A (4 * k)) (S 8) i m y → GW κ Γ 0 [some (rf Γ 17), some (vI y)] [] (wl Γ S1) := by
    intro u
    induction u with
    | zero =>
      intro i m S1 hu hX1 hf h8 hc
      have hC1 := ClE_fr hC hf.1
      have e62 : S1 6 2 = (anp A : Int) := (cl_n hC1).2.2.1
      have e8 : S1 8 = S 8 := hf.1 8 (by decide) (by decide) (by decide) (by decide)
      have ci := hc.1
      refine G_rload_n hk dX3_takeAllOf_0 rfl ?_
      refine G_getI hk dX3_takeAllOf_1 flX3_62 (by decide) rfl rfl ?_
      refine G_rload_n hk dX3_takeAllOf_4 rfl ?_
      refine G_getR hk dX3_takeAllOf_5 flX3_29 (by decide) rfl rfl ?_
      refine G_cV0P hk dX3_takeAllOf_8 mvX5_howMany mlX3_78 (by decide) rfl rfl (Nat.le_of_ble_eq_true rfl) (c_X5_howMany _ Γ (d + 1) _) ?_
      refine G_icmp_ge (tgt := 63) hk dX3_takeAllOf_11 (by decide) ⟨by omega, by omega⟩ ⟨by omega, by omega⟩ (fun h_11 => ?_) (fun h_11 => ?_)
      · exact G_vret hk hr dX3_takeAllOf_63 ⟨by unfold takeN; rw [itN_skip (m := m) _ hc.2.1 (fun k6 a b Z => take1_no ((Cut_end hO hc (fun h => absurd h (by omega))).2 k6 a b) Z)]; exact hX1, hf, i, h8, (Cut_end hO hc (fun h => absurd h (by omega))).1⟩
      · exact absurd h_11 (by omega)--stop
    | succ u ih =>
      intro i m S1 hu hX1 hf h8 hc
      have hC1 := ClE_fr hC hf.1
      have e62 : S1 6 2 = (anp A : Int) := (cl_n hC1).2.2.1
      have e8 : S1 8 = S 8 := hf.1 8 (by decide) (by decide) (by decide) (by decide)
      have ci := hc.1
      have oi := hO.1 i (by omega)
      obtain ⟨k, hk5⟩ : ∃ k : Nat, S 8 i = (k : Int) := ⟨(S 8 i).toNat, by omega⟩
      have y29 := hC.1.2.2.2.1 k (by omega)
      have hB1 := SB_takeN (y := y) (ot := S 17 10) (os := S 17 11) aTw_ok hB m (fun k h5 => hz k (by have := hc.2.1; omega))
      have e10 : S1 17 10 = S 17 10 := hf.2 10 (by decide) (by decide)
      have e11 : S1 17 11 = S 17 11 := hf.2 11 (by decide) (by decide)
      refine G_rload_n hk dX3_takeAllOf_0 rfl ?_
      refine G_getI hk dX3_takeAllOf_1 flX3_62 (by decide) rfl rfl ?_
      refine G_rload_n hk dX3_takeAllOf_4 rfl ?_
      refine G_getR hk dX3_takeAllOf_5 flX3_29 (by decide) rfl rfl ?_
      refine G_cV0P hk dX3_takeAllOf_8 mvX5_howMany mlX3_78 (by decide) rfl rfl (Nat.le_of_ble_eq_true rfl) (c_X5_howMany _ Γ (d + 1) _) ?_
      refine G_icmp_ge (tgt := 63) hk dX3_takeAllOf_11 (by decide) ⟨by omega, by omega⟩ ⟨by omega, by omega⟩ (fun h_11 => ?_) (fun h_11 => ?_)
      · exact absurd h_11 (by omega)--stop
      · refine G_rload_n hk dX3_takeAllOf_14 rfl ?_
        refine G_getR hk dX3_takeAllOf_15 flX3_29 (by decide) rfl rfl ?_
        refine G_getR hk dX3_takeAllOf_18 flX3_84 (by decide) rfl rfl ?_
        refine G_rload_n hk dX3_takeAllOf_21 rfl ?_
        refine G_getI hk dX3_takeAllOf_22 flX3_62 (by decide) rfl rfl ?_
        refine G_cV1P hk dX3_takeAllOf_25 mvX7_yearAt mlX3_88 (by decide) rfl rfl (Nat.le_of_ble_eq_true rfl) (c_ryP _ Γ (d + 2) _ _ i (anp A) k (aP A (4 * k)) h8 e62 (by omega) (by omega) (by rw [e8]; exact hk5) (by omega) (hC1.2.2.1.1.2.2.1 k (by omega))) ?_
        refine G_iload_n hk dX3_takeAllOf_28 rfl ?_
        refine G_icmp_ne (tgt := 63) hk dX3_takeAllOf_29 (by decide) ⟨by omega, by omega⟩ ⟨by omega, by omega⟩ (fun h_29 => ?_) (fun h_29 => ?_)
        · exact G_vret hk hr dX3_takeAllOf_63 ⟨by unfold takeN; rw [itN_skip (m := m) _ hc.2.1 (fun k6 a b Z => take1_no ((Cut_end hO hc (fun _ => by rw [hk5, show ((k : Int)).toNat = k from rfl]; exact h_29)).2 k6 a b) Z)]; exact hX1, hf, i, h8, (Cut_end hO hc (fun _ => by rw [hk5, show ((k : Int)).toNat = k from rfl]; exact h_29)).1⟩
        · have hy : aP A (4 * k) = y := by omega
          obtain ⟨hc2, hmk, hkn, hsk⟩ := Cut_step hO hc (by omega) hk5 hy
          have hb2 : (itN (take1 (aN A) (aTw A) (aP A) (S 17 10) (S 17 11) y) m X).2.2 k ≠ 2 := fun h => by
            by_cases c : (itN (take1 (aN A) (aTw A) (aP A) (S 17 10) (S 17 11) y) m X).2.2 k = X.2.2 k
            · have := hst k (by omega) (by rw [← c, h]; decide); omega
            · have := takeN_st m c; omega
          refine G_rload_n hk dX3_takeAllOf_32 rfl ?_
          refine G_rload_n hk dX3_takeAllOf_33 rfl ?_
          refine G_getR hk dX3_takeAllOf_34 flX3_29 (by decide) rfl rfl ?_
          refine G_getR hk dX3_takeAllOf_37 flX3_84 (by decide) rfl rfl ?_
          refine G_rload_n hk dX3_takeAllOf_40 rfl ?_
          refine G_getI hk dX3_takeAllOf_41 flX3_62 (by decide) rfl rfl ?_
          refine G_cV1P hk dX3_takeAllOf_44 mvX7_numberAt mlX3_93 (by decide) rfl rfl (Nat.le_of_ble_eq_true rfl) (c_rnP _ Γ (d + 2) _ _ i (anp A) h8 e62 (by omega) (by omega)) ?_
          rw [e8, hk5]
          refine G_cV1V hk dX3_takeAllOf_47 mvX3_takePicture mlX3_96 (by decide) rfl rfl (Nat.le_of_ble_eq_true rfl) (c_X3_takePicture _ Γ (d + 0) _ A hC1 _ hX1 (fun p hp => ⟨(hB1.1 p hp).1, Int.le_trans (hB1.1 p hp).2 hb9⟩) (by rw [e10]; exact h10) k hkn hb2 (by rw [e10, e11]; exact hz k hkn) y hy) (fun S_47 hp_47 => ?_)
          obtain ⟨hX2, hf2⟩ := hp_47
          rw [e10, e11, ← itN_skip (m := m) k hmk (fun k' a b Z => take1_no (hsk k' a b) Z)] at hX2
          have g8 : S_47 17 8 = (i : Int) := by rw [hf2.2 8 (by decide)]; exact h8
          refine G_rload_n hk dX3_takeAllOf_50 rfl ?_
          refine G_dup hk dX3_takeAllOf_51 rfl ?_
          refine G_getI hk dX3_takeAllOf_52 flX3_62 (by decide) rfl rfl ?_
          refine G_iconst hk dX3_takeAllOf_55 ?_
          refine G_iadd hk dX3_takeAllOf_56 ?_
          refine G_putI hk dX3_takeAllOf_57 flX3_62 fpX3_8 (by decide) rfl rfl ?_
          refine G_goto (tgt := 0) hk dX3_takeAllOf_60 (by decide) ?_
          refine ih (i + 1) (k + 1) _ (by omega) ?_ ⟨?_, ?_⟩ ?_ hc2
          · refine ⟨fun p hp => ?_, fun j hj => ?_, ?_, ?_⟩
            · rw [su_ne _ (by decide)]; exact hX2.1 p hp
            · rw [su_ne _ (by decide), su_ne _ (by decide)]; exact hX2.2.1 j hj
            · rw [su_nk _ _ _ (by decide)]; exact hX2.2.2.1
            · rw [su_nk _ _ _ (by decide)]; exact hX2.2.2.2
          · intro c a b e f
            rw [su_ne _ a, hf2.1 c a b e f]; exact hf.1 c a b e f
          · intro j a b
            rw [su_nk _ _ _ b, hf2.2 j a]; exact hf.2 j a b
          · rw [su_at, g8]; omega
  exact lp _ i 0 S rfl hX ⟨fun _ _ _ _ _ => rfl, fun _ _ _ => rfl⟩ h8 (Cut_0 hO hN)
