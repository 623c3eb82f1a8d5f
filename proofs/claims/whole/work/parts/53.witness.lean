/-! what was seen -/
def WG (A : Av) (k z : Int) (n : Nat) : Prop := okB A k z (aV A (3 * n)).toNat n = true
theorem seen_all {A : Av} (hA : AvOk A) {k z : Int} (h : ∀ n, n < ans A → WG A k z n) : a_isSeen A k z = true := by
  unfold a_isSeen
  rw [allB_iff]
  intro y _
  rw [allB_iff]
  intro n hn
  have g := h n hn
  unfold WG at g
  by_cases e : aV A (3 * n) = (y : Int)
  · rw [e] at g
    exact g
  · unfold okB
    exact decide_eq_true (fun q => absurd q e)
theorem seen_no {A : Av} (hA : AvOk A) {k z : Int} {n : Nat} (hn : n < ans A) (h : ¬ WG A k z n) : ¬ a_isSeen A k z = true := by
  intro g
  unfold a_isSeen at g
  rw [allB_iff] at g
  have y9 := (hA.2.2.2.2.2.2.2.2.2 n hn).1
  have g1 := g (aV A (3 * n)).toNat (by omega)
  rw [allB_iff] at g1
  exact h (g1 n hn)
theorem WG_iff {A : Av} {k z : Int} {n y : Nat} (e : aV A (3 * n) = (y : Int)) : WG A k z n ↔ (aV A (3 * n + 1) ≤ (aN A : Int) - 1 ∧ (lvs A k z (y + 1)).1 (aV A (3 * n + 1)).toNat = aV A (3 * n + 2)) := by
  unfold WG okB
  rw [e, show ((y : Int)).toNat = y from rfl, decide_eq_true_iff]
  constructor
  · intro h; exact h rfl
  · intro h _; exact h

theorem c_X9_agrees (l : Launch) (Γ : Ev) (d : Nat) (S : Sx) (A : Av) (ot os b : Int) (X : Sim) (y8 y9 : Nat) (hY : Yr A ot os b X y8 y9 S) (hb : b ≤ 1000000) (hW : WiR S (ans A) (aV A)) (n : Nat) (hn : n < ans A) : Ctr l Γ (d + 2) mX9_agrees [rf Γ 27, rf Γ 17, vI (n : Int)] S (pP S (bz (aV A (3 * n + 1) ≤ (aN A : Int) - 1 ∧ X.1 (aV A (3 * n + 1)).toNat = aV A (3 * n + 2)))) := by
  refine Ctr.of (by decide) rfl rfl (Nat.le_of_ble_eq_true rfl) ?_
  intro κ hl hk hr
  subst hl
  have hC := hY.2.1
  have hX := hY.1
  have hB := hY.2.2.2.2.2.1
  have hnp : ∀ k, k < 12 → X.2.2 k ≠ 0 → k < anp A := fun k h5 h6 => (hY.2.2.2.2.2.2 k h5 h6).1
  have hst : ∀ k, k < 12 → 0 ≤ X.2.2 k ∧ X.2.2 k ≤ 2 := fun k h5 => ⟨(hB.2.2 k h5).1, (hB.2.2 k h5).2.1⟩
  obtain ⟨h15, n8, h62, n12, -, -⟩ := cl_n hC
  have s8 := hW.1.2.1
  have hw := hW.2 n hn
  have hv := hC.1.2.2.2.2.2.2.2.2.2 n hn
  have sb : aV A (3 * n + 1) ≤ (aN A : Int) - 1 → 0 ≤ X.1 (aV A (3 * n + 1)).toNat ∧ X.1 (aV A (3 * n + 1)).toNat ≤ b := fun q => hB.1 _ (by omega)
  refine G_iload_n hk dX9_agrees_0 rfl ?_
  refine G_if_lt (tgt := 33) hk dX9_agrees_1 (by decide) ⟨by omega, by omega⟩ (fun h_1 => ?_) (fun h_1 => ?_)
  · refine G_iconst hk dX9_agrees_33 ?_
    exact G_zret hk hr dX9_agrees_34 (by decide) ⟨by exfalso; omega, rfl⟩
  · refine G_iload_n hk dX9_agrees_4 rfl ?_
    refine G_bipush hk dX9_agrees_5 (by decide) ?_
    refine G_icmp_ge (tgt := 33) hk dX9_agrees_7 (by decide) ⟨by omega, by omega⟩ ⟨by omega, by omega⟩ (fun h_7 => ?_) (fun h_7 => ?_)
    · refine G_iconst hk dX9_agrees_33 ?_
      exact G_zret hk hr dX9_agrees_34 (by decide) ⟨by exfalso; omega, rfl⟩
    · refine G_rload_n hk dX9_agrees_10 rfl ?_
      refine G_rload_n hk dX9_agrees_11 rfl ?_
      refine G_getR hk dX9_agrees_12 flX9_20 (by decide) rfl rfl ?_
      refine G_iload_n hk dX9_agrees_15 rfl ?_
      refine G_iald hk dX9_agrees_16 (by decide) rfl (by decide) (by omega) (by omega) ?_
      rw [show ((n : Int)).toNat = n from rfl, hw.1]
      refine G_cV1P hk dX9_agrees_17 mvX3_solidOf mlX9_57 (by decide) rfl rfl (Nat.le_of_ble_eq_true rfl) (c_X3_solidOf _ Γ (d + 0) _ _ ⟨by omega, by omega⟩ ⟨by omega, by omega⟩) ?_
      rw [show (if 0 ≤ aV A (3 * n + 1) ∧ aV A (3 * n + 1) < S 1 5 then S 18 (aV A (3 * n + 1)).toNat else -1) = (if aV A (3 * n + 1) ≤ (aN A : Int) - 1 then X.1 (aV A (3 * n + 1)).toNat else -1) by
          by_cases q : aV A (3 * n + 1) ≤ (aN A : Int) - 1
          · rw [if_pos q, if_pos (by omega), hX.1 _ (by omega)]
          · rw [if_neg q, if_neg (by omega)]]
      refine G_rload_n hk dX9_agrees_20 rfl ?_
      refine G_getR hk dX9_agrees_21 flX9_24 (by decide) rfl rfl ?_
      refine G_iload_n hk dX9_agrees_24 rfl ?_
      refine G_iald hk dX9_agrees_25 (by decide) rfl (by decide) (by omega) (by omega) ?_
      rw [show ((n : Int)).toNat = n from rfl, hw.2]
      refine G_icmp_ne (tgt := 33) hk dX9_agrees_26 (by decide) (by split <;> exact ⟨by omega, by omega⟩) ⟨by omega, by omega⟩ (fun h_26 => ?_) (fun h_26 => ?_)
      · refine G_iconst hk dX9_agrees_33 ?_
        exact G_zret hk hr dX9_agrees_34 (by decide) ⟨by
  by_cases q : aV A (3 * n + 1) ≤ (aN A : Int) - 1
  · rw [if_pos q] at h_26
    exact bz_f (fun g => h_26 g.2)
  · exact bz_f (fun g => q g.1), rfl⟩
      · refine G_iconst hk dX9_agrees_29 ?_
        refine G_goto (tgt := 34) hk dX9_agrees_30 (by decide) ?_
        exact G_zret hk hr dX9_agrees_34 (by decide) ⟨by
  by_cases q : aV A (3 * n + 1) ≤ (aN A : Int) - 1
  · rw [if_pos q] at h_26
    exact bz_t ⟨q, by omega⟩
  · rw [if_neg q] at h_26
    exfalso; omega, rfl⟩

theorem c_X9_isBorneOut (l : Launch) (Γ : Ev) (d : Nat) (S : Sx) (A : Av) (hC : ClE S A) (hW : WiR S (ans A) (aV A)) (k z : Int) (h_k : R32 k) (hz : 0 ≤ z ∧ z ≤ 9) : Ctr l Γ (d + 5) mX9_isBorneOut [rf Γ 27, rf Γ 17, vI k, vI z] S (pI (fun r S2 => r = bz (a_isSeen A k z = true) ∧ frC S S2)) := by
  refine Ctr.of (by decide) rfl rfl (Nat.le_of_ble_eq_true rfl) ?_
  intro κ hl hk hr
  subst hl
  have hO := hW.1.2.2.2.2
  have s8 := hW.1.2.1
  have ho := OtOk_k hC.1 h_k hz
  refine G_rload_n hk dX9_isBorneOut_0 rfl ?_
  refine G_iload_n hk dX9_isBorneOut_1 rfl ?_
  refine G_iload_n hk dX9_isBorneOut_2 rfl ?_
  refine G_cV2V hk dX9_isBorneOut_3 mvX3_beginAltered mlX9_37 (by decide) rfl rfl (Nat.le_of_ble_eq_true rfl) (c_bA (d + 2) hC k z) (fun S_3 hp_3 => ?_)
  refine G_iconst hk dX9_isBorneOut_6 ?_
  refine G_istore hk dX9_isBorneOut_7 (by decide) rfl ?_
  refine G_iconst hk dX9_isBorneOut_9 ?_
  refine G_istore hk dX9_isBorneOut_10 (by decide) rfl ?_
  have lp := loop_up (P := fun y => ∀ (S1 : Sx) (i : Nat), (Yr A k z (99 + 108 * (y : Int)) (lvs A k z y) y y S1 ∧ frC S S1 ∧ Nx (ans A) (fun j => aV A (3 * j)) (S 30) i (y : Int) ∧ (∀ j, j < i → WG A k z (S 30 j).toNat)) → GW κ Γ 12 [some (rf Γ 27), some (rf Γ 17), some (vI k), some (vI z), some (vI (i : Int)), some (vI (y : Int))] [] (wl Γ S1)) 30 ?_ ?_ 0 (Nat.zero_le _) S_3 0 ⟨hp_3.1, hp_3.2, Nx_0 hO (fun j hj => ((hC.1.2.2.2.2.2.2.2.2.2 j hj).1).1), fun j hj => absurd hj (by omega)⟩
  · exact lp
  · intro S1 i ⟨hY1, hf, hN, hG⟩
    have hi : ∀ j, j < ans A → j < i := fun j hj => by
      by_cases e : j < i
      · exact e
      · have h5 := hN.2.2 j (by omega) hj
        have h6 := hO.1 j hj
        have h7 := (hC.1.2.2.2.2.2.2.2.2.2 (S 30 j).toNat (by omega)).1
        have h8 : ((30 : Nat) : Int) ≤ aV A (3 * (S 30 j).toNat) := h5
        omega
    refine G_iload hk dX9_isBorneOut_12 rfl ?_
    refine G_bipush hk dX9_isBorneOut_14 (by decide) ?_
    refine G_icmp_gt (tgt := 94) hk dX9_isBorneOut_16 (by decide) ⟨by omega, by omega⟩ ⟨by omega, by omega⟩ (fun h_16 => ?_) (fun h_16 => ?_)
    · refine G_iconst hk dX9_isBorneOut_94 ?_
      exact G_zret hk hr dX9_isBorneOut_95 (by decide) ⟨bz_t (seen_all hC.1 (fun n hn => by
        obtain ⟨j, j1, j2⟩ := hO.2.1 n hn
        have h5 := hG j (by have := hN.1; exact hi j j1)
        rw [j2] at h5
        exact h5)), hf⟩
    · exact absurd h_16 (by omega)--stop
  · intro y hy9 ih S1 i ⟨hY1, hf, hN, hG⟩
    have e28 : S1 28 2 = (ans A : Int) := by rw [hf 28 (by decide) (by decide) (by decide) (by decide)]; exact hW.1.1
    refine G_iload hk dX9_isBorneOut_12 rfl ?_
    refine G_bipush hk dX9_isBorneOut_14 (by decide) ?_
    refine G_icmp_gt (tgt := 94) hk dX9_isBorneOut_16 (by decide) ⟨by omega, by omega⟩ ⟨by omega, by omega⟩ (fun h_16 => ?_) (fun h_16 => ?_)
    · exact absurd h_16 (by omega)--stop
    · refine G_iload hk dX9_isBorneOut_19 rfl ?_
      refine G_rload_n hk dX9_isBorneOut_21 rfl ?_
      refine G_getR hk dX9_isBorneOut_22 flX9_14 (by decide) rfl rfl ?_
      refine G_cV0P hk dX9_isBorneOut_25 mvX7_howMany mlX9_27 (by decide) rfl rfl (Nat.le_of_ble_eq_true rfl) (c_rmW _ Γ (d + 4) _) ?_
      rw [e28]
      have s9 := hN.1
      refine G_icmp_ge (tgt := 94) hk dX9_isBorneOut_28 (by decide) ⟨by omega, by omega⟩ ⟨by omega, by omega⟩ (fun h_28 => ?_) (fun h_28 => ?_)
      · refine G_iconst hk dX9_isBorneOut_94 ?_
        exact G_zret hk hr dX9_isBorneOut_95 (by decide) ⟨bz_t (seen_all hC.1 (fun n hn => by
        obtain ⟨j, j1, j2⟩ := hO.2.1 n hn
        have h5 := hG j (by have := hN.1; omega)
        rw [j2] at h5
        exact h5)), hf⟩
      · refine G_rload_n hk dX9_isBorneOut_31 rfl ?_
        refine G_iload hk dX9_isBorneOut_32 rfl ?_
        refine G_cV1V hk dX9_isBorneOut_34 mvX3_pass mlX9_43 (by decide) rfl rfl (Nat.le_of_ble_eq_true rfl) (c_X3_pass _ Γ (d + 0) _ A k z _ _ y hY1 ho (by omega) (by omega)) (fun S_34 hp_34 => ?_)
        obtain ⟨hY2, hf2⟩ := hp_34
        rw [show 99 + 108 * (y : Int) + 108 = 99 + 108 * ((y + 1 : Nat) : Int) by omega] at hY2
        replace hY2 : Yr A k z (99 + 108 * ((y + 1 : Nat) : Int)) (lvs A k z (y + 1)) (y + 1) (y + 1) S_34 := hY2
        have hfs := frC_t hf hf2
        have e28 : S_34 28 2 = (ans A : Int) := by rw [hfs 28 (by decide) (by decide) (by decide) (by decide)]; exact hW.1.1
        have e30 : S_34 30 = S 30 := hfs 30 (by decide) (by decide) (by decide) (by decide)
        have hW2 := WiR_cong hW (fun c c1 c2 => hfs c (by omega) (by omega) (by omega) (by omega))
        have lp2 : ∀ u i, u = ans A - i → i ≤ ans A → (∀ j, j < i → (fun j => aV A (3 * j)) (S 30 j).toNat ≤ (y : Int)) → (∀ j, i ≤ j → j < ans A → (y : Int) ≤ (fun j => aV A (3 * j)) (S 30 j).toNat) → (∀ j, j < i → WG A k z (S 30 j).toNat) → GW κ Γ 37 [some (rf Γ 27), some (rf Γ 17), some (vI k), some (vI z), some (vI (i : Int)), some (vI (y : Int))] [] (wl Γ S_34) := by
          intro u
          induction u with
          | zero =>
            intro i hu hi a1 a2 a3
            have hd0 : GW κ Γ 12 [some (rf Γ 27), some (rf Γ 17), some (vI k), some (vI z), some (vI (i : Int)), some (vI ((y + 1 : Nat) : Int))] [] (wl Γ S_34) := ih S_34 i ⟨hY2, frC_t hf hf2, ⟨hi, fun j hj => by have := a1 j hj; omega, fun j b1 b2 => absurd b2 (by omega)⟩, a3⟩
            refine G_iload hk dX9_isBorneOut_37 rfl ?_
            refine G_rload_n hk dX9_isBorneOut_39 rfl ?_
            refine G_getR hk dX9_isBorneOut_40 flX9_14 (by decide) rfl rfl ?_
            refine G_cV0P hk dX9_isBorneOut_43 mvX7_howMany mlX9_27 (by decide) rfl rfl (Nat.le_of_ble_eq_true rfl) (c_rmW _ Γ (d + 4) _) ?_
            rw [e28]
            refine G_icmp_ge (tgt := 88) hk dX9_isBorneOut_46 (by decide) ⟨by omega, by omega⟩ ⟨by omega, by omega⟩ (fun h_46 => ?_) (fun h_46 => ?_)
            · refine G_iinc hk dX9_isBorneOut_88 rfl (by decide) rfl ?_
              refine G_goto (tgt := 12) hk dX9_isBorneOut_91 (by decide) ?_
              exact hd0
            · exact absurd h_46 (by omega)--stop
          | succ u ihu =>
            intro i hu hi a1 a2 a3
            have oi := hO.1 i (by omega)
            obtain ⟨x, hx⟩ : ∃ x : Nat, S 30 i = (x : Int) := ⟨(S 30 i).toNat, by omega⟩
            have y29 := hC.1.2.2.2.2.2.2.2.2.2 x (by omega)
            have hi2 := a2 i (Nat.le_refl i) (by omega)
            rw [hx, show ((x : Int)).toNat = x from rfl] at hi2
            have hd0 : ¬ aV A (3 * x) = (y : Int) → GW κ Γ 12 [some (rf Γ 27), some (rf Γ 17), some (vI k), some (vI z), some (vI (i : Int)), some (vI ((y + 1 : Nat) : Int))] [] (wl Γ S_34) := fun hne => ih S_34 i ⟨hY2, frC_t hf hf2, ⟨hi, fun j hj => by have := a1 j hj; omega, fun j b1 b2 => by
              by_cases e : j = i
              · rw [e, hx, show ((x : Int)).toNat = x from rfl]
                have : (y : Int) ≤ aV A (3 * x) := hi2
                show ((y + 1 : Nat) : Int) ≤ aV A (3 * x)
                omega
              · have h5 := hO.2.2 i j (by omega) b2
                rw [hx, show ((x : Int)).toNat = x from rfl] at h5
                simp only at h5
                have : (y : Int) ≤ aV A (3 * x) := hi2
                have h6 : ((y + 1 : Nat) : Int) ≤ aV A (3 * x) := by omega
                show ((y + 1 : Nat) : Int) ≤ aV A (3 * (S 30 j).toNat)
                omega⟩, a3⟩
            refine G_iload hk dX9_isBorneOut_37 rfl ?_
            refine G_rload_n hk dX9_isBorneOut_39 rfl ?_
            refine G_getR hk dX9_isBorneOut_40 flX9_14 (by decide) rfl rfl ?_
            refine G_cV0P hk dX9_isBorneOut_43 mvX7_howMany mlX9_27 (by decide) rfl rfl (Nat.le_of_ble_eq_true rfl) (c_rmW _ Γ (d + 4) _) ?_
            rw [e28]
            refine G_icmp_ge (tgt := 88) hk dX9_isBorneOut_46 (by decide) ⟨by omega, by omega⟩ ⟨by omega, by omega⟩ (fun h_46 => ?_) (fun h_46 => ?_)
            · exact absurd h_46 (by omega)--stop
            · refine G_rload_n hk dX9_isBorneOut_49 rfl ?_
              refine G_getR hk dX9_isBorneOut_50 flX9_14 (by decide) rfl rfl ?_
              refine G_iload hk dX9_isBorneOut_53 rfl ?_
              refine G_cV1P hk dX9_isBorneOut_55 mvX7_yearAt mlX9_46 (by decide) rfl rfl (Nat.le_of_ble_eq_true rfl) (c_ryW _ Γ (d + 4) _ _ i (ans A) x (aV A (3 * x)) rfl e28 (by omega) s8 (by rw [e30]; exact hx) (by omega) (hW2.1.2.2.1 x (by omega))) ?_
              refine G_iload hk dX9_isBorneOut_58 rfl ?_
              refine G_icmp_ne (tgt := 88) hk dX9_isBorneOut_60 (by decide) ⟨by omega, by omega⟩ ⟨by omega, by omega⟩ (fun h_60 => ?_) (fun h_60 => ?_)
              · refine G_iinc hk dX9_isBorneOut_88 rfl (by decide) rfl ?_
                refine G_goto (tgt := 12) hk dX9_isBorneOut_91 (by decide) ?_
                exact hd0 (by omega)
              · have wg := WG_iff (A := A) (k := k) (z := z) (n := x) (y := y) (by omega)
                refine G_rload_n hk dX9_isBorneOut_63 rfl ?_
                refine G_rload_n hk dX9_isBorneOut_64 rfl ?_
                refine G_rload_n hk dX9_isBorneOut_65 rfl ?_
                refine G_getR hk dX9_isBorneOut_66 flX9_14 (by decide) rfl rfl ?_
                refine G_iload hk dX9_isBorneOut_69 rfl ?_
                refine G_cV1P hk dX9_isBorneOut_71 mvX7_numberAt mlX9_50 (by decide) rfl rfl (Nat.le_of_ble_eq_true rfl) (c_rnW _ Γ (d + 4) _ _ i (ans A) rfl e28 (by omega) s8) ?_
                rw [e30, hx]
                refine G_cV2P hk dX9_isBorneOut_74 mvX9_agrees mlX9_53 (by decide) rfl rfl (Nat.le_of_ble_eq_true rfl) (c_X9_agrees _ Γ (d + 2) _ A k z _ _ _ _ hY2 (by omega) hW2 x (by omega)) ?_
                refine G_bif_ne (tgt := 82) hk dX9_isBorneOut_77 (by decide) (fun h_77 => ?_) (fun h_77 => ?_)
                · refine G_iinc hk dX9_isBorneOut_82 rfl (by decide) rfl ?_
                  refine G_goto (tgt := 37) hk dX9_isBorneOut_85 (by decide) ?_
                  refine ihu (i + 1) (by omega) (by omega) (fun j hj => ?_) (fun j b1 b2 => a2 j (by omega) b2) (fun j hj => ?_)
                  · by_cases e : j = i
                    · rw [e, hx, show ((x : Int)).toNat = x from rfl]
                      show aV A (3 * x) ≤ (y : Int)
                      omega
                    · exact a1 j (by omega)
                  · by_cases e : j = i
                    · rw [e, hx, show ((x : Int)).toNat = x from rfl]
                      exact wg.mpr h_77
                    · exact a3 j (by omega)
                · refine G_iconst hk dX9_isBorneOut_80 ?_
                  exact G_zret hk hr dX9_isBorneOut_81 (by decide) ⟨bz_f (seen_no hC.1 (show x < ans A by omega) (fun g => h_77 (wg.mp g))), frC_t hf hf2⟩
        exact lp2 _ i rfl hN.1 (fun j hj => by have := hN.2.1 j hj; omega) hN.2.2 hG
