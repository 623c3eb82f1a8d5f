theorem c_X11_isWanted (l : Launch) (Γ : Ev) (d : Nat) (S : Sx) (hI : InvM S) (k : Nat) (w : Int) (h_k : k < anp (av S)) (h_w : 0 ≤ w ∧ w ≤ 3) : Ctr l Γ d mX11_isWanted [rf Γ 44, vI (k : Int), vI w] S (pP S (bz (aW (av S) w.toNat = aP (av S) (4 * k + 1)))) := by
  refine Ctr.of (by decide) rfl rfl (Nat.le_of_ble_eq_true rfl) ?_
  intro κ hl hk hr
  subst hl
  have n12 := hI.1.2.2.1
  have hq := hI.1.2.2.2.1 k h_k
  have hw := hI.1.2.2.2.2.2.2.2.1 w.toNat (by omega)
  have eW : S 53 = aW (av S) := rfl
  have eP : S 51 = aP (av S) := rfl
  refine G_rload_n hk dX11_isWanted_0 rfl ?_
  refine G_getR hk dX11_isWanted_1 flX11_34 (by decide) rfl rfl ?_
  refine G_iload_n hk dX11_isWanted_4 rfl ?_
  refine G_iald hk dX11_isWanted_5 (by decide) rfl (by decide) (by omega) (by omega) ?_
  rw [eW]
  refine G_rload_n hk dX11_isWanted_6 rfl ?_
  refine G_getR hk dX11_isWanted_7 flX11_28 (by decide) rfl rfl ?_
  refine G_iconst hk dX11_isWanted_10 ?_
  refine G_iload_n hk dX11_isWanted_11 rfl ?_
  refine G_imul hk dX11_isWanted_12 ?_
  refine G_iconst hk dX11_isWanted_13 ?_
  refine G_iadd hk dX11_isWanted_14 ?_
  refine G_iald hk dX11_isWanted_15 (by decide) rfl (by decide) (by omega) (by omega) ?_
  rw [eP, show (4 * (k : Int) + 1).toNat = 4 * k + 1 by omega]
  refine G_icmp_ne (tgt := 23) hk dX11_isWanted_16 (by decide) ⟨by omega, by omega⟩ ⟨by omega, by omega⟩ (fun h_16 => ?_) (fun h_16 => ?_)
  · refine G_iconst hk dX11_isWanted_23 ?_
    exact G_zret hk hr dX11_isWanted_24 (by decide) ⟨by simp only [bz]; split <;> omega, rfl⟩
  · refine G_iconst hk dX11_isWanted_19 ?_
    refine G_goto (tgt := 24) hk dX11_isWanted_20 (by decide) ?_
    exact G_zret hk hr dX11_isWanted_24 (by decide) ⟨by simp only [bz]; split <;> omega, rfl⟩

theorem c_X11_gains (l : Launch) (Γ : Ev) (d : Nat) (S : Sx) (hI : InvM S) (li : Nat → Int) (hl : ∀ i, i < anp (av S) → S 57 i = li i ∧ 0 ≤ li i ∧ li i ≤ 3) (j k : Nat) (h_j : j < anp (av S)) (h_k : k < anp (av S)) : Ctr l Γ (d + 1) mX11_gains [rf Γ 44, vI (j : Int), vI (k : Int)] S (pP S (bz (gnc (aW (av S)) (aP (av S)) li j k = true))) := by
  refine Ctr.of (by decide) rfl rfl (Nat.le_of_ble_eq_true rfl) ?_
  intro κ hl hk hr
  subst hl
  have n12 := hI.1.2.2.1
  have lj := hl j h_j
  have lk9 := hl k h_k
  refine G_rload_n hk dX11_gains_0 rfl ?_
  refine G_getR hk dX11_gains_1 flX11_46 (by decide) rfl rfl ?_
  refine G_iload_n hk dX11_gains_4 rfl ?_
  refine G_iald hk dX11_gains_5 (by decide) rfl (by decide) (by omega) (by omega) ?_
  rw [Int.toNat_natCast, lj.1]
  refine G_istore_n hk dX11_gains_6 (by decide) rfl ?_
  refine G_rload_n hk dX11_gains_7 rfl ?_
  refine G_getR hk dX11_gains_8 flX11_46 (by decide) rfl rfl ?_
  refine G_iload_n hk dX11_gains_11 rfl ?_
  refine G_iald hk dX11_gains_12 (by decide) rfl (by decide) (by omega) (by omega) ?_
  rw [Int.toNat_natCast, lk9.1]
  refine G_istore hk dX11_gains_13 (by decide) rfl ?_
  refine G_iload_n hk dX11_gains_15 rfl ?_
  refine G_iload hk dX11_gains_16 rfl ?_
  refine G_icmp_eq (tgt := 63) hk dX11_gains_18 (by decide) ⟨by omega, by omega⟩ ⟨by omega, by omega⟩ (fun h_18 => ?_) (fun h_18 => ?_)
  · refine G_iconst hk dX11_gains_63 ?_
    exact G_zret hk hr dX11_gains_64 (by decide) ⟨bz_f (by unfold gnc; simp only [decide_eq_true_eq]; intro q; exact q.1 h_18), rfl⟩
  · refine G_rload_n hk dX11_gains_21 rfl ?_
    refine G_iload_n hk dX11_gains_22 rfl ?_
    refine G_iload_n hk dX11_gains_23 rfl ?_
    refine G_cV2P hk dX11_gains_24 mvX11_isWanted mlX11_249 (by decide) rfl rfl (Nat.le_of_ble_eq_true rfl) (c_X11_isWanted _ Γ (d + 0) _ hI k _ (by omega) ⟨by omega, by omega⟩) ?_
    refine G_bif_eq (tgt := 63) hk dX11_gains_27 (by decide) (fun h_27 => ?_) (fun h_27 => ?_)
    · refine G_iconst hk dX11_gains_63 ?_
      exact G_zret hk hr dX11_gains_64 (by decide) ⟨bz_f (by unfold gnc; simp only [decide_eq_true_eq]; intro q; exact h_27 q.2.1), rfl⟩
    · refine G_rload_n hk dX11_gains_30 rfl ?_
      refine G_iload_n hk dX11_gains_31 rfl ?_
      refine G_iload_n hk dX11_gains_32 rfl ?_
      refine G_cV2P hk dX11_gains_33 mvX11_isWanted mlX11_249 (by decide) rfl rfl (Nat.le_of_ble_eq_true rfl) (c_X11_isWanted _ Γ (d + 0) _ hI j _ (by omega) ⟨by omega, by omega⟩) ?_
      refine G_bif_ne (tgt := 63) hk dX11_gains_36 (by decide) (fun h_36 => ?_) (fun h_36 => ?_)
      · refine G_iconst hk dX11_gains_63 ?_
        exact G_zret hk hr dX11_gains_64 (by decide) ⟨bz_f (by unfold gnc; simp only [decide_eq_true_eq]; intro q; exact q.2.2.1 h_36), rfl⟩
      · refine G_rload_n hk dX11_gains_39 rfl ?_
        refine G_iload_n hk dX11_gains_40 rfl ?_
        refine G_iload hk dX11_gains_41 rfl ?_
        refine G_cV2P hk dX11_gains_43 mvX11_isWanted mlX11_249 (by decide) rfl rfl (Nat.le_of_ble_eq_true rfl) (c_X11_isWanted _ Γ (d + 0) _ hI j _ (by omega) ⟨by omega, by omega⟩) ?_
        refine G_bif_eq (tgt := 63) hk dX11_gains_46 (by decide) (fun h_46 => ?_) (fun h_46 => ?_)
        · refine G_iconst hk dX11_gains_63 ?_
          exact G_zret hk hr dX11_gains_64 (by decide) ⟨bz_f (by unfold gnc; simp only [decide_eq_true_eq]; intro q; exact h_46 q.2.2.2.1), rfl⟩
        · refine G_rload_n hk dX11_gains_49 rfl ?_
          refine G_iload_n hk dX11_gains_50 rfl ?_
          refine G_iload hk dX11_gains_51 rfl ?_
          refine G_cV2P hk dX11_gains_53 mvX11_isWanted mlX11_249 (by decide) rfl rfl (Nat.le_of_ble_eq_true rfl) (c_X11_isWanted _ Γ (d + 0) _ hI k _ (by omega) ⟨by omega, by omega⟩) ?_
          refine G_bif_ne (tgt := 63) hk dX11_gains_56 (by decide) (fun h_56 => ?_) (fun h_56 => ?_)
          · refine G_iconst hk dX11_gains_63 ?_
            exact G_zret hk hr dX11_gains_64 (by decide) ⟨bz_f (by unfold gnc; simp only [decide_eq_true_eq]; intro q; exact q.2.2.2.2 h_56), rfl⟩
          · refine G_iconst hk dX11_gains_59 ?_
            refine G_goto (tgt := 64) hk dX11_gains_60 (by decide) ?_
            exact G_zret hk hr dX11_gains_64 (by decide) ⟨bz_t (by unfold gnc; simp only [decide_eq_true_eq]; exact ⟨h_18, h_27, h_36, h_46, h_56⟩), rfl⟩

theorem c_gn {l : Launch} {Γ : Ev} (d : Nat) {S : Sx} {a b : Int} {li : Nat → Int} {j k : Nat} (hI : InvM S) (hl : ∀ i, i < anp (av S) → S 57 i = li i ∧ 0 ≤ li i ∧ li i ≤ 3) (h_j : j < anp (av S)) (h_k : k < anp (av S)) : Ctr l Γ (d + 1) mX11_gains [rf Γ 44, vI (j : Int), vI (k : Int)] (su (su S 44 29 a) 44 30 b) (pP (su (su S 44 29 a) 44 30 b) (bz (gnc (aW (av S)) (aP (av S)) li j k = true))) := by
  have hfr : frQ S (su (su S 44 29 a) 44 30 b) := ⟨fun c h1 _ _ _ _ _ => by simp only [su_ne _ h1], fun i hi => by rw [su_nk _ _ _ (by omega), su_nk _ _ _ (by omega)], by rw [su_nk _ _ _ (by decide), su_nk _ _ _ (by decide)]; exact hI.2.2.2.2.1, by rw [su_nk _ _ _ (by decide), su_nk _ _ _ (by decide)]; exact hI.2.2.2.2.2.2.1⟩
  have h := c_X11_gains l Γ d (su (su S 44 29 a) 44 30 b) (InvM_frQ hI hfr) li (by rw [av_frQ hfr]; exact hl) j k (by rw [av_frQ hfr]; exact h_j) (by rw [av_frQ hfr]; exact h_k)
  rw [av_frQ hfr] at h
  exact h

theorem c_X11_findSwap (l : Launch) (Γ : Ev) (d : Nat) (S : Sx) (hI : InvM S) (c : Nat → Bool) (li : Nat → Int) (hl : ∀ i, i < anp (av S) → S 57 i = li i ∧ 0 ≤ li i ∧ li i ≤ 3) : Ctr l Γ (d + 2) mX11_findSwap [rf Γ 44, vI (bsm c (anp (av S)) : Int)] S (pV (fun S2 => S2 44 29 = sw1 c (aW (av S)) (aP (av S)) (anp (av S)) li ∧ S2 44 30 = sw2 c (aW (av S)) (aP (av S)) (anp (av S)) li ∧ (∀ x, x ≠ 44 → S2 x = S x) ∧ (∀ i, i ≠ 29 → i ≠ 30 → S2 44 i = S 44 i))) := by
  refine Ctr.of (by decide) rfl rfl (Nat.le_of_ble_eq_true rfl) ?_
  intro κ hl hk hr
  subst hl
  have n12 := hI.1.2.2.1
  have i2 := hI.2.1
  have e10 : S 44 10 = (anp (av S) : Int) := by
    show S 44 10 = ((S 44 10).toNat : Int)
    omega
  refine G_rload_n hk dX11_findSwap_0 rfl ?_
  refine G_iconst hk dX11_findSwap_1 ?_
  refine G_putI hk dX11_findSwap_2 flX11_252 fpX11_29 (by decide) rfl rfl ?_
  refine G_rload_n hk dX11_findSwap_5 rfl ?_
  refine G_iconst hk dX11_findSwap_6 ?_
  refine G_putI hk dX11_findSwap_7 flX11_255 fpX11_30 (by decide) rfl rfl ?_
  refine G_iconst hk dX11_findSwap_10 ?_
  refine G_istore_n hk dX11_findSwap_11 (by decide) rfl ?_
  have lp := loop_up (P := fun j => ∀ w3 : Option Value, (∀ i, i < j → pK c (aW (av S)) (aP (av S)) (anp (av S)) li i = anp (av S)) → GW κ Γ 12 [some (rf Γ 44), some (vI (bsm c (anp (av S)) : Int)), some (vI (j : Int)), w3] [] (wl Γ (su (su S 44 29 (-1)) 44 30 (-1)))) (anp (av S)) ?_ ?_ 0 (Nat.zero_le _)
  · exact GW_L (L' := [some (rf Γ 44), some (vI (bsm c (anp (av S)) : Int)), some (vI ((0 : Nat) : Int)), none]) rfl (lp none (fun i hi => absurd hi (by omega)))
  · intro w3 hnj
    refine G_iload_n hk dX11_findSwap_12 rfl ?_
    refine G_rload_n hk dX11_findSwap_13 rfl ?_
    refine G_getI hk dX11_findSwap_14 flX11_139 (by decide) rfl rfl ?_
    try simp (decide := true) only [su_app, sr_app, ↓reduceIte]
    refine G_icmp_ge (tgt := 95) hk dX11_findSwap_17 (by decide) ⟨by omega, by omega⟩ ⟨by omega, by omega⟩ (fun h_17 => ?_) (fun h_17 => ?_)
    · exact G_vret hk hr dX11_findSwap_95 ⟨by
      have hJ : pJ c (aW (av S)) (aP (av S)) (anp (av S)) li = anp (av S) := srch_none _ _ (fun i hi => by simp only [decide_eq_false_iff_not]; have := hnj i hi; omega)
      unfold sw1; rw [hJ, if_neg (by omega)]; simp [su_app], by
      have hJ : pJ c (aW (av S)) (aP (av S)) (anp (av S)) li = anp (av S) := srch_none _ _ (fun i hi => by simp only [decide_eq_false_iff_not]; have := hnj i hi; omega)
      unfold sw2; rw [hJ, if_neg (by omega)]; simp [su_app], fun x hx => by simp only [su_ne _ hx], fun i h1 h2 => by simp [su_app, h1, h2]⟩
    · exact absurd h_17 (by omega)--stop
  · intro j hj9 ih w3 hnj
    refine G_iload_n hk dX11_findSwap_12 rfl ?_
    refine G_rload_n hk dX11_findSwap_13 rfl ?_
    refine G_getI hk dX11_findSwap_14 flX11_139 (by decide) rfl rfl ?_
    try simp (decide := true) only [su_app, sr_app, ↓reduceIte]
    refine G_icmp_ge (tgt := 95) hk dX11_findSwap_17 (by decide) ⟨by omega, by omega⟩ ⟨by omega, by omega⟩ (fun h_17 => ?_) (fun h_17 => ?_)
    · exact absurd h_17 (by omega)--stop
    · refine G_rload_n hk dX11_findSwap_20 rfl ?_
      refine G_getI hk dX11_findSwap_21 flX11_252 (by decide) rfl rfl ?_
      try simp (decide := true) only [su_app, sr_app, ↓reduceIte]
      refine G_iconst hk dX11_findSwap_24 ?_
      refine G_icmp_ne (tgt := 95) hk dX11_findSwap_25 (by decide) ⟨by omega, by omega⟩ ⟨by omega, by omega⟩ (fun h_25 => ?_) (fun h_25 => ?_)
      · exact absurd rfl h_25--stop
      · refine G_iload_n hk dX11_findSwap_28 rfl ?_
        refine G_iconst hk dX11_findSwap_29 ?_
        refine G_iadd hk dX11_findSwap_30 ?_
        refine G_istore_n hk dX11_findSwap_31 (by decide) rfl ?_
        have lp2 := loop_up (P := fun k => j + 1 ≤ k → (∀ i, i < k → (decide (j < i) && gd c (aW (av S)) (aP (av S)) li j i) = false) → GW κ Γ 32 [some (rf Γ 44), some (vI (bsm c (anp (av S)) : Int)), some (vI (j : Int)), some (vI (k : Int))] [] (wl Γ (su (su S 44 29 (-1)) 44 30 (-1)))) (anp (av S)) ?_ ?_ (j + 1) (by omega) (Nat.le_refl _) (fun i hi => by simp only [Bool.and_eq_false_iff, decide_eq_false_iff_not]; left; omega)
        · exact lp2
        · intro h1 hno
          refine G_iload_n hk dX11_findSwap_32 rfl ?_
          refine G_rload_n hk dX11_findSwap_33 rfl ?_
          refine G_getI hk dX11_findSwap_34 flX11_139 (by decide) rfl rfl ?_
          try simp (decide := true) only [su_app, sr_app, ↓reduceIte]
          refine G_icmp_ge (tgt := 89) hk dX11_findSwap_37 (by decide) ⟨by omega, by omega⟩ ⟨by omega, by omega⟩ (fun h_37 => ?_) (fun h_37 => ?_)
          · refine G_iinc hk dX11_findSwap_89 rfl (by decide) rfl ?_
            refine G_goto (tgt := 12) hk dX11_findSwap_92 (by decide) ?_
            refine ih _ (fun i hi => ?_)
            by_cases e : i = j
            · rw [e]; exact srch_none _ _ hno
            · exact hnj i (by omega)
          · exact absurd h_37 (by omega)--stop
        · intro k hk9 ih2 h1 hno
          refine G_iload_n hk dX11_findSwap_32 rfl ?_
          refine G_rload_n hk dX11_findSwap_33 rfl ?_
          refine G_getI hk dX11_findSwap_34 flX11_139 (by decide) rfl rfl ?_
          try simp (decide := true) only [su_app, sr_app, ↓reduceIte]
          (try rw [e10])
          refine G_icmp_ge (tgt := 89) hk dX11_findSwap_37 (by decide) ⟨by omega, by omega⟩ ⟨by omega, by omega⟩ (fun h_37 => ?_) (fun h_37 => ?_)
          · exact absurd h_37 (by omega)--stop
          · refine G_rload_n hk dX11_findSwap_40 rfl ?_
            refine G_getI hk dX11_findSwap_41 flX11_252 (by decide) rfl rfl ?_
            try simp (decide := true) only [su_app, sr_app, ↓reduceIte]
            refine G_iconst hk dX11_findSwap_44 ?_
            refine G_icmp_ne (tgt := 89) hk dX11_findSwap_45 (by decide) ⟨by omega, by omega⟩ ⟨by omega, by omega⟩ (fun h_45 => ?_) (fun h_45 => ?_)
            · exact absurd rfl h_45--stop
            · refine G_iload_n hk dX11_findSwap_48 rfl ?_
              refine G_iload_n hk dX11_findSwap_49 rfl ?_
              refine G_cS2P hk dX11_findSwap_50 msX11_isIn mlX11_216 (Nat.le_of_ble_eq_true rfl) (c_X11_isIn _ Γ (d + 1) _ _ j (bsm_31 c (by omega)) (by omega)) ?_
              refine G_bif_eq (tgt := 83) hk dX11_findSwap_53 (by decide) (fun h_53 => ?_) (fun h_53 => ?_)
              · refine G_iinc hk dX11_findSwap_83 rfl (by decide) rfl ?_
                refine G_goto (tgt := 32) hk dX11_findSwap_86 (by decide) ?_
                refine ih2 (by omega) (fun i hi => ?_)
                by_cases e : i = k
                · rw [e]
                  unfold gd
                  simp only [Bool.and_eq_false_iff, decide_eq_false_iff_not]
                  rw [bsm_tb] at h_53
                  have h5 : c j = false := by simpa [hj9] using h_53
                  exact Or.inr (Or.inl (Or.inl h5))
                · exact hno i (by omega)
              · refine G_iload_n hk dX11_findSwap_56 rfl ?_
                refine G_iload_n hk dX11_findSwap_57 rfl ?_
                refine G_cS2P hk dX11_findSwap_58 msX11_isIn mlX11_216 (Nat.le_of_ble_eq_true rfl) (c_X11_isIn _ Γ (d + 1) _ _ k (bsm_31 c (by omega)) (by omega)) ?_
                refine G_bif_eq (tgt := 83) hk dX11_findSwap_61 (by decide) (fun h_61 => ?_) (fun h_61 => ?_)
                · refine G_iinc hk dX11_findSwap_83 rfl (by decide) rfl ?_
                  refine G_goto (tgt := 32) hk dX11_findSwap_86 (by decide) ?_
                  refine ih2 (by omega) (fun i hi => ?_)
                  by_cases e : i = k
                  · rw [e]
                    unfold gd
                    simp only [Bool.and_eq_false_iff, decide_eq_false_iff_not]
                    rw [bsm_tb] at h_61
                    have h6 : c k = false := by simpa [hk9] using h_61
                    exact Or.inr (Or.inl (Or.inr h6))
                  · exact hno i (by omega)
                · refine G_rload_n hk dX11_findSwap_64 rfl ?_
                  refine G_iload_n hk dX11_findSwap_65 rfl ?_
                  refine G_iload_n hk dX11_findSwap_66 rfl ?_
                  refine G_cV2P hk dX11_findSwap_67 mvX11_gains mlX11_258 (by decide) rfl rfl (Nat.le_of_ble_eq_true rfl) (c_gn (d + 0) hI hl (by omega) (by omega)) ?_
                  refine G_bif_eq (tgt := 83) hk dX11_findSwap_70 (by decide) (fun h_70 => ?_) (fun h_70 => ?_)
                  · refine G_iinc hk dX11_findSwap_83 rfl (by decide) rfl ?_
                    refine G_goto (tgt := 32) hk dX11_findSwap_86 (by decide) ?_
                    refine ih2 (by omega) (fun i hi => ?_)
                    by_cases e : i = k
                    · rw [e]
                      unfold gd
                      simp only [Bool.and_eq_false_iff, decide_eq_false_iff_not]
                      have h7 : gnc (aW (av S)) (aP (av S)) li j k = false := by simpa using h_70
                      exact Or.inr (Or.inr h7)
                    · exact hno i (by omega)
                  · refine G_rload_n hk dX11_findSwap_73 rfl ?_
                    refine G_iload_n hk dX11_findSwap_74 rfl ?_
                    refine G_putI hk dX11_findSwap_75 flX11_252 fpX11_29 (by decide) rfl rfl ?_
                    refine G_rload_n hk dX11_findSwap_78 rfl ?_
                    refine G_iload_n hk dX11_findSwap_79 rfl ?_
                    refine G_putI hk dX11_findSwap_80 flX11_255 fpX11_30 (by decide) rfl rfl ?_
                    have hgd : gd c (aW (av S)) (aP (av S)) li j k = true := by
                      unfold gd
                      rw [bsm_tb] at h_53 h_61
                      simp only [Bool.and_eq_true, decide_eq_true_eq] at h_53 h_61 ⊢
                      exact ⟨⟨h_53.2, h_61.2⟩, h_70⟩
                    have hK : pK c (aW (av S)) (aP (av S)) (anp (av S)) li j = k := srch_at _ k (fun i hi => hno i hi) (by simp only [Bool.and_eq_true, decide_eq_true_eq]; exact ⟨by omega, hgd⟩) _ (by omega)
                    have hJ : pJ c (aW (av S)) (aP (av S)) (anp (av S)) li = j := srch_at _ j (fun i hi => by simp only [decide_eq_false_iff_not]; have := hnj i hi; omega) (by simp only [decide_eq_true_eq]; omega) _ (by omega)
                    refine G_iinc hk dX11_findSwap_83 rfl (by decide) rfl ?_
                    refine G_goto (tgt := 32) hk dX11_findSwap_86 (by decide) ?_
                    refine G_iload_n hk dX11_findSwap_32 rfl ?_
                    refine G_rload_n hk dX11_findSwap_33 rfl ?_
                    refine G_getI hk dX11_findSwap_34 flX11_139 (by decide) rfl rfl ?_
                    try simp (decide := true) only [su_app, sr_app, ↓reduceIte]
                    (try rw [e10])
                    refine G_icmp_ge (tgt := 89) hk dX11_findSwap_37 (by decide) ⟨by omega, by omega⟩ ⟨by omega, by omega⟩ (fun h_37 => ?_) (fun h_37 => ?_)
                    · refine G_iinc hk dX11_findSwap_89 rfl (by decide) rfl ?_
                      refine G_goto (tgt := 12) hk dX11_findSwap_92 (by decide) ?_
                      refine G_iload_n hk dX11_findSwap_12 rfl ?_
                      refine G_rload_n hk dX11_findSwap_13 rfl ?_
                      refine G_getI hk dX11_findSwap_14 flX11_139 (by decide) rfl rfl ?_
                      try simp (decide := true) only [su_app, sr_app, ↓reduceIte]
                      (try rw [e10])
                      refine G_icmp_ge (tgt := 95) hk dX11_findSwap_17 (by decide) ⟨by omega, by omega⟩ ⟨by omega, by omega⟩ (fun h_17 => ?_) (fun h_17 => ?_)
                      · exact G_vret hk hr dX11_findSwap_95 ⟨by unfold sw1; rw [hJ, if_pos (by omega)]; simp [su_app], by unfold sw2; rw [hJ, if_pos (by omega), hK]; simp [su_app], fun x hx => by simp only [su_ne _ hx], fun i h1 h2 => by simp [su_app, h1, h2]⟩
                      · refine G_rload_n hk dX11_findSwap_20 rfl ?_
                        refine G_getI hk dX11_findSwap_21 flX11_252 (by decide) rfl rfl ?_
                        try simp (decide := true) only [su_app, sr_app, ↓reduceIte]
                        refine G_iconst hk dX11_findSwap_24 ?_
                        refine G_icmp_ne (tgt := 95) hk dX11_findSwap_25 (by decide) ⟨by omega, by omega⟩ ⟨by omega, by omega⟩ (fun h_25 => ?_) (fun h_25 => ?_)
                        · exact G_vret hk hr dX11_findSwap_95 ⟨by unfold sw1; rw [hJ, if_pos (by omega)]; simp [su_app], by unfold sw2; rw [hJ, if_pos (by omega), hK]; simp [su_app], fun x hx => by simp only [su_ne _ hx], fun i h1 h2 => by simp [su_app, h1, h2]⟩
                        · exact absurd h_25 (by omega)--stop
                    · refine G_rload_n hk dX11_findSwap_40 rfl ?_
                      refine G_getI hk dX11_findSwap_41 flX11_252 (by decide) rfl rfl ?_
                      try simp (decide := true) only [su_app, sr_app, ↓reduceIte]
                      refine G_iconst hk dX11_findSwap_44 ?_
                      refine G_icmp_ne (tgt := 89) hk dX11_findSwap_45 (by decide) ⟨by omega, by omega⟩ ⟨by omega, by omega⟩ (fun h_45 => ?_) (fun h_45 => ?_)
                      · refine G_iinc hk dX11_findSwap_89 rfl (by decide) rfl ?_
                        refine G_goto (tgt := 12) hk dX11_findSwap_92 (by decide) ?_
                        refine G_iload_n hk dX11_findSwap_12 rfl ?_
                        refine G_rload_n hk dX11_findSwap_13 rfl ?_
                        refine G_getI hk dX11_findSwap_14 flX11_139 (by decide) rfl rfl ?_
                        try simp (decide := true) only [su_app, sr_app, ↓reduceIte]
                        (try rw [e10])
                        refine G_icmp_ge (tgt := 95) hk dX11_findSwap_17 (by decide) ⟨by omega, by omega⟩ ⟨by omega, by omega⟩ (fun h_17 => ?_) (fun h_17 => ?_)
                        · exact G_vret hk hr dX11_findSwap_95 ⟨by unfold sw1; rw [hJ, if_pos (by omega)]; simp [su_app], by unfold sw2; rw [hJ, if_pos (by omega), hK]; simp [su_app], fun x hx => by simp only [su_ne _ hx], fun i h1 h2 => by simp [su_app, h1, h2]⟩
                        · refine G_rload_n hk dX11_findSwap_20 rfl ?_
                          refine G_getI hk dX11_findSwap_21 flX11_252 (by decide) rfl rfl ?_
                          try simp (decide := true) only [su_app, sr_app, ↓reduceIte]
                          refine G_iconst hk dX11_findSwap_24 ?_
                          refine G_icmp_ne (tgt := 95) hk dX11_findSwap_25 (by decide) ⟨by omega, by omega⟩ ⟨by omega, by omega⟩ (fun h_25 => ?_) (fun h_25 => ?_)
                          · exact G_vret hk hr dX11_findSwap_95 ⟨by unfold sw1; rw [hJ, if_pos (by omega)]; simp [su_app], by unfold sw2; rw [hJ, if_pos (by omega), hK]; simp [su_app], fun x hx => by simp only [su_ne _ hx], fun i h1 h2 => by simp [su_app, h1, h2]⟩
                          · exact absurd h_25 (by omega)--stop
                      · exact absurd h_45 (by omega)--stop

theorem c_fs {l : Launch} {Γ : Ev} (d : Nat) {S S1 : Sx} {c : Nat → Bool} {li : Nat → Int} (hI : InvM S) (hf : frQ S S1) (hl : ∀ i, i < anp (av S) → S1 57 i = li i ∧ 0 ≤ li i ∧ li i ≤ 3) : Ctr l Γ (d + 2) mX11_findSwap [rf Γ 44, vI (bsm c (anp (av S)) : Int)] S1 (pV (fun S2 => S2 44 29 = sw1 c (aW (av S)) (aP (av S)) (anp (av S)) li ∧ S2 44 30 = sw2 c (aW (av S)) (aP (av S)) (anp (av S)) li ∧ (∀ x, x ≠ 44 → S2 x = S1 x) ∧ (∀ i, i ≠ 29 → i ≠ 30 → S2 44 i = S1 44 i))) := by
  have h := c_X11_findSwap l Γ d S1 (InvM_frQ hI hf) c li (by rw [av_frQ hf]; exact hl)
  rw [av_frQ hf] at h
  exact h

theorem c_X11_swapOf (l : Launch) (Γ : Ev) (d : Nat) (S : Sx) (hR : RdM S) (y w : Int) (hy : 0 ≤ y ∧ y ≤ 29) (hw : 0 ≤ w ∧ w ≤ 2) : Ctr l Γ (d + 7) mX11_swapOf [rf Γ 44, vI y, vI w] S (pI (fun r S2 => r = a_swapOf (av S) y w ∧ RdM S2 ∧ frP S S2)) := by
  refine Ctr.of (by decide) rfl rfl (Nat.le_of_ble_eq_true rfl) ?_
  intro κ hl hk hr
  subst hl
  have n12 := hR.1.1.2.2.1
  have i2 := hR.1.2.1
  have hli : ∀ i, i < anp (av S) → 0 ≤ a_li (av S) i ∧ a_li (av S) i ≤ 3 := fun i hi => (hR.1.1.2.2.2.1 i hi).2.2.2
  obtain ⟨nn, hnn⟩ : ∃ nn, nn = swc (a_swc (av S) y) (aW (av S)) (aP (av S)) (anp (av S)) 12 (a_li (av S)) := ⟨_, rfl⟩
  have lpw : ∀ (f : Nat) (li : Nat → Int) (n : Nat) (S1 : Sx) (w6 : Option Value), (12 - joy (a_swc (av S) y) (aW (av S)) (aP (av S)) (anp (av S)) li ≤ 2 * (f : Int) ∧ n + f ≤ 12 ∧ n + swc (a_swc (av S) y) (aW (av S)) (aP (av S)) (anp (av S)) f li = nn) → (∀ i, i < anp (av S) → S1 57 i = li i ∧ 0 ≤ li i ∧ li i ≤ 3) → frP S S1 → S1 44 29 = sw1 (a_swc (av S) y) (aW (av S)) (aP (av S)) (anp (av S)) li → S1 44 30 = sw2 (a_swc (av S) y) (aW (av S)) (aP (av S)) (anp (av S)) li → GW κ Γ 71 [some (rf Γ 44), some (vI y), some (vI w), some (vI (bsm (a_swc (av S) y) (anp (av S)) : Int)), some (vI (if w = 0 then sw1 (a_swc (av S) y) (aW (av S)) (aP (av S)) (anp (av S)) (a_li (av S)) else sw2 (a_swc (av S) y) (aW (av S)) (aP (av S)) (anp (av S)) (a_li (av S)))), some (vI (n : Int)), w6] [] (wl Γ S1) := by
    intro f
    induction f with
    | zero =>
      intro li n S1 w6 hj hl hfS h29 h30
      have hno : ¬ pJ (a_swc (av S) y) (aW (av S)) (aP (av S)) (anp (av S)) li < anp (av S) := fun q => by
        have h3 := joy_sw q
        have h4 := (joy_le (a_swc (av S) y) (aW (av S)) (aP (av S)) (anp (av S)) (swp li (pJ (a_swc (av S) y) (aW (av S)) (aP (av S)) (anp (av S)) li) (pK (a_swc (av S) y) (aW (av S)) (aP (av S)) (anp (av S)) li (pJ (a_swc (av S) y) (aW (av S)) (aP (av S)) (anp (av S)) li)))).2
        omega
      have e29 : S1 44 29 = -1 := by rw [h29]; unfold sw1; rw [if_neg hno]
      refine G_rload_n hk dX11_swapOf_71 rfl ?_
      refine G_getI hk dX11_swapOf_72 flX11_252 (by decide) rfl rfl ?_
      refine G_iconst hk dX11_swapOf_75 ?_
      refine G_icmp_eq (tgt := 130) hk dX11_swapOf_76 (by decide) (by rw [e29]; decide) (by decide) (fun h_76 => ?_) (fun h_76 => ?_)
      · refine G_iload_n hk dX11_swapOf_130 rfl ?_
        refine G_iconst hk dX11_swapOf_131 ?_
        refine G_icmp_ne (tgt := 140) hk dX11_swapOf_132 (by decide) ⟨by omega, by omega⟩ ⟨by omega, by omega⟩ (fun h_132 => ?_) (fun h_132 => ?_)
        · refine G_iload hk dX11_swapOf_140 rfl ?_
          exact G_iret hk hr dX11_swapOf_142 ⟨by unfold a_swapOf; rw [← hnn]; (try simp only [swc] at hj); (repeat' split) <;> first | (exfalso; omega) | omega | rfl, RdM_frP hR hfS, hfS⟩
        · refine G_iload hk dX11_swapOf_135 rfl ?_
          refine G_goto (tgt := 142) hk dX11_swapOf_137 (by decide) ?_
          exact G_iret hk hr dX11_swapOf_142 ⟨by unfold a_swapOf; rw [← hnn]; (try simp only [swc] at hj); (repeat' split) <;> first | (exfalso; omega) | omega | rfl, RdM_frP hR hfS, hfS⟩
      · exact absurd e29 h_76--stop
    | succ f ih =>
      intro li n S1 w6 hj hl hfS h29 h30
      have eA1 := av_frP hfS
      by_cases hyes : pJ (a_swc (av S) y) (aW (av S)) (aP (av S)) (anp (av S)) li < anp (av S)
      · obtain ⟨q1, q2, q3⟩ := pair_in hyes
        have e29 : S1 44 29 = (pJ (a_swc (av S) y) (aW (av S)) (aP (av S)) (anp (av S)) li : Int) := by rw [h29]; unfold sw1; rw [if_pos hyes]
        have e30 : S1 44 30 = (pK (a_swc (av S) y) (aW (av S)) (aP (av S)) (anp (av S)) li (pJ (a_swc (av S) y) (aW (av S)) (aP (av S)) (anp (av S)) li) : Int) := by rw [h30]; unfold sw2; rw [if_pos hyes]
        have l1 := hl _ hyes
        have l2 := hl _ q1
        refine G_rload_n hk dX11_swapOf_71 rfl ?_
        refine G_getI hk dX11_swapOf_72 flX11_252 (by decide) rfl rfl ?_
        refine G_iconst hk dX11_swapOf_75 ?_
        refine G_icmp_eq (tgt := 130) hk dX11_swapOf_76 (by decide) ⟨by omega, by omega⟩ ⟨by omega, by omega⟩ (fun h_76 => ?_) (fun h_76 => ?_)
        · exact absurd h_76 (by omega)--stop
        · refine G_rload_n hk dX11_swapOf_79 rfl ?_
          refine G_getR hk dX11_swapOf_80 flX11_46 (by decide) rfl rfl ?_
          refine G_rload_n hk dX11_swapOf_83 rfl ?_
          refine G_getI hk dX11_swapOf_84 flX11_252 (by decide) rfl rfl ?_
          refine G_iald hk dX11_swapOf_87 (by decide) rfl (by decide) (by omega) (by omega) ?_
          rw [show (S1 44 29).toNat = pJ (a_swc (av S) y) (aW (av S)) (aP (av S)) (anp (av S)) li by omega, l1.1]
          refine G_istore hk dX11_swapOf_88 (by decide) rfl ?_
          refine G_rload_n hk dX11_swapOf_90 rfl ?_
          refine G_getR hk dX11_swapOf_91 flX11_46 (by decide) rfl rfl ?_
          refine G_rload_n hk dX11_swapOf_94 rfl ?_
          refine G_getI hk dX11_swapOf_95 flX11_252 (by decide) rfl rfl ?_
          refine G_rload_n hk dX11_swapOf_98 rfl ?_
          refine G_getR hk dX11_swapOf_99 flX11_46 (by decide) rfl rfl ?_
          refine G_rload_n hk dX11_swapOf_102 rfl ?_
          refine G_getI hk dX11_swapOf_103 flX11_255 (by decide) rfl rfl ?_
          refine G_iald hk dX11_swapOf_106 (by decide) rfl (by decide) (by omega) (by omega) ?_
          rw [show (S1 44 30).toNat = pK (a_swc (av S) y) (aW (av S)) (aP (av S)) (anp (av S)) li (pJ (a_swc (av S) y) (aW (av S)) (aP (av S)) (anp (av S)) li) by omega, l2.1]
          refine G_iast hk dX11_swapOf_107 (by decide) rfl (by decide) (by omega) (by omega) ?_
          rw [show (S1 44 29).toNat = pJ (a_swc (av S) y) (aW (av S)) (aP (av S)) (anp (av S)) li by omega]
          refine G_rload_n hk dX11_swapOf_108 rfl ?_
          refine G_getR hk dX11_swapOf_109 flX11_46 (by decide) rfl rfl ?_
          refine G_rload_n hk dX11_swapOf_112 rfl ?_
          refine G_getI hk dX11_swapOf_113 flX11_255 (by decide) rfl rfl ?_
          try simp (decide := true) only [su_app, sr_app, ↓reduceIte]
          refine G_iload hk dX11_swapOf_116 rfl ?_
          refine G_iast hk dX11_swapOf_118 (by decide) rfl (by decide) (by omega) (by omega) ?_
          rw [show (S1 44 30).toNat = pK (a_swc (av S) y) (aW (av S)) (aP (av S)) (anp (av S)) li (pJ (a_swc (av S) y) (aW (av S)) (aP (av S)) (anp (av S)) li) by omega]
          refine G_iinc hk dX11_swapOf_119 rfl (by decide) rfl ?_
          have hfS1 : frP S (su (su S1 57 (pJ (a_swc (av S) y) (aW (av S)) (aP (av S)) (anp (av S)) li) (li (pK (a_swc (av S) y) (aW (av S)) (aP (av S)) (anp (av S)) li (pJ (a_swc (av S) y) (aW (av S)) (aP (av S)) (anp (av S)) li)))) 57 (pK (a_swc (av S) y) (aW (av S)) (aP (av S)) (anp (av S)) li (pJ (a_swc (av S) y) (aW (av S)) (aP (av S)) (anp (av S)) li)) (li (pJ (a_swc (av S) y) (aW (av S)) (aP (av S)) (anp (av S)) li))) := frP_t hfS ⟨fun c _ _ _ _ a => by simp only [su_ne _ a], fun i _ => rfl, hfS.2.2.1, hfS.2.2.2⟩
          have hl1' : ∀ i, i < anp (av S) → su (su S1 57 (pJ (a_swc (av S) y) (aW (av S)) (aP (av S)) (anp (av S)) li) (li (pK (a_swc (av S) y) (aW (av S)) (aP (av S)) (anp (av S)) li (pJ (a_swc (av S) y) (aW (av S)) (aP (av S)) (anp (av S)) li)))) 57 (pK (a_swc (av S) y) (aW (av S)) (aP (av S)) (anp (av S)) li (pJ (a_swc (av S) y) (aW (av S)) (aP (av S)) (anp (av S)) li)) (li (pJ (a_swc (av S) y) (aW (av S)) (aP (av S)) (anp (av S)) li)) 57 i = swp li (pJ (a_swc (av S) y) (aW (av S)) (aP (av S)) (anp (av S)) li) (pK (a_swc (av S) y) (aW (av S)) (aP (av S)) (anp (av S)) li (pJ (a_swc (av S) y) (aW (av S)) (aP (av S)) (anp (av S)) li)) i ∧ 0 ≤ swp li (pJ (a_swc (av S) y) (aW (av S)) (aP (av S)) (anp (av S)) li) (pK (a_swc (av S) y) (aW (av S)) (aP (av S)) (anp (av S)) li (pJ (a_swc (av S) y) (aW (av S)) (aP (av S)) (anp (av S)) li)) i ∧ swp li (pJ (a_swc (av S) y) (aW (av S)) (aP (av S)) (anp (av S)) li) (pK (a_swc (av S) y) (aW (av S)) (aP (av S)) (anp (av S)) li (pJ (a_swc (av S) y) (aW (av S)) (aP (av S)) (anp (av S)) li)) i ≤ 3 := by
            intro i hi
            have h5 := hl i hi
            simp (decide := true) only [su_app, ↓reduceIte, swp, upf]
            by_cases t1 : i = pK (a_swc (av S) y) (aW (av S)) (aP (av S)) (anp (av S)) li (pJ (a_swc (av S) y) (aW (av S)) (aP (av S)) (anp (av S)) li)
            · rw [if_pos t1, if_pos t1]; exact ⟨rfl, l1.2⟩
            · rw [if_neg t1, if_neg t1]
              by_cases t2 : i = pJ (a_swc (av S) y) (aW (av S)) (aP (av S)) (anp (av S)) li
              · rw [if_pos t2, if_pos t2]; exact ⟨rfl, l2.2⟩
              · rw [if_neg t2, if_neg t2]; exact h5
          refine G_rload_n hk dX11_swapOf_122 rfl ?_
          refine G_iload_n hk dX11_swapOf_123 rfl ?_
          refine G_cV1V hk dX11_swapOf_124 mvX11_findSwap mlX11_261 (by decide) rfl rfl (Nat.le_of_ble_eq_true rfl) (c_fs (d + 4) hR.1 (frQ_P hfS1) hl1') (fun S_124 hp_124 => ?_)
          obtain ⟨g29, g30, gx, gi⟩ := hp_124
          refine G_goto (tgt := 71) hk dX11_swapOf_127 (by decide) ?_
          refine ih (swp li (pJ (a_swc (av S) y) (aW (av S)) (aP (av S)) (anp (av S)) li) (pK (a_swc (av S) y) (aW (av S)) (aP (av S)) (anp (av S)) li (pJ (a_swc (av S) y) (aW (av S)) (aP (av S)) (anp (av S)) li))) (n + 1) _ _ ⟨?_, by omega, ?_⟩ ?_ ?_ g29 g30
          · have h3 := joy_sw hyes
            omega
          · have h4 : swc (a_swc (av S) y) (aW (av S)) (aP (av S)) (anp (av S)) (f + 1) li = swc (a_swc (av S) y) (aW (av S)) (aP (av S)) (anp (av S)) f (swp li (pJ (a_swc (av S) y) (aW (av S)) (aP (av S)) (anp (av S)) li) (pK (a_swc (av S) y) (aW (av S)) (aP (av S)) (anp (av S)) li (pJ (a_swc (av S) y) (aW (av S)) (aP (av S)) (anp (av S)) li))) + 1 := by simp only [swc]; rw [if_pos hyes]
            omega
          · intro i hi
            rw [gx 57 (by decide)]
            exact hl1' i hi
          · refine frP_t hfS1 ⟨fun c a _ _ _ _ => gx c a, fun i hi => gi i (by omega) (by omega), by rw [gi 20 (by decide) (by decide)]; exact hfS1.2.2.1, by rw [gi 23 (by decide) (by decide)]; exact hfS1.2.2.2⟩
      · have e29 : S1 44 29 = -1 := by rw [h29]; unfold sw1; rw [if_neg hyes]
        have hz : swc (a_swc (av S) y) (aW (av S)) (aP (av S)) (anp (av S)) (f + 1) li = 0 := by simp only [swc]; rw [if_neg hyes]
        refine G_rload_n hk dX11_swapOf_71 rfl ?_
        refine G_getI hk dX11_swapOf_72 flX11_252 (by decide) rfl rfl ?_
        refine G_iconst hk dX11_swapOf_75 ?_
        refine G_icmp_eq (tgt := 130) hk dX11_swapOf_76 (by decide) (by rw [e29]; decide) (by decide) (fun h_76 => ?_) (fun h_76 => ?_)
        · refine G_iload_n hk dX11_swapOf_130 rfl ?_
          refine G_iconst hk dX11_swapOf_131 ?_
          refine G_icmp_ne (tgt := 140) hk dX11_swapOf_132 (by decide) ⟨by omega, by omega⟩ ⟨by omega, by omega⟩ (fun h_132 => ?_) (fun h_132 => ?_)
          · refine G_iload hk dX11_swapOf_140 rfl ?_
            exact G_iret hk hr dX11_swapOf_142 ⟨by unfold a_swapOf; rw [← hnn]; (repeat' split) <;> first | (exfalso; omega) | omega | rfl, RdM_frP hR hfS, hfS⟩
          · refine G_iload hk dX11_swapOf_135 rfl ?_
            refine G_goto (tgt := 142) hk dX11_swapOf_137 (by decide) ?_
            exact G_iret hk hr dX11_swapOf_142 ⟨by unfold a_swapOf; rw [← hnn]; (repeat' split) <;> first | (exfalso; omega) | omega | rfl, RdM_frP hR hfS, hfS⟩
        · exact absurd e29 h_76--stop
  refine G_rload_n hk dX11_swapOf_0 rfl ?_
  refine G_iload_n hk dX11_swapOf_1 rfl ?_
  refine G_cV1V hk dX11_swapOf_2 mvX11_lives mlX11_192 (by decide) rfl rfl (Nat.le_of_ble_eq_true rfl) (c_lv hR ⟨by omega, by omega⟩) (fun S_2 hp_2 => ?_)
  obtain ⟨hX1, hR1, hf1⟩ := hp_2
  have eA := av_frP hf1
  rw [← eA] at hX1
  refine G_rload_n hk dX11_swapOf_5 rfl ?_
  refine G_cV0P hk dX11_swapOf_6 mvX11_thereNow mlX11_201 (by decide) rfl rfl (Nat.le_of_ble_eq_true rfl) (c_X11_thereNow _ Γ (d + 6) _ hR1 _ hX1 (99 + 108 * ((y.toNat + 1 : Nat) : Int)) (lv_bd0 hR1.1.1 _) (by omega)) ?_
  rw [eA]
  refine G_istore_n hk dX11_swapOf_9 (by decide) rfl ?_
  refine G_iconst hk dX11_swapOf_10 ?_
  refine G_istore hk dX11_swapOf_11 (by decide) rfl ?_
  have lp := loop_up (P := fun k => ∀ S1 : Sx, ((∀ i, i < k → S1 57 i = a_li (av S) i) ∧ frP S S1) → GW κ Γ 13 [some (rf Γ 44), some (vI y), some (vI w), some (vI (bsm (a_swc (av S) y) (anp (av S)) : Int)), some (vI (k : Int))] [] (wl Γ S1)) (anp (av S)) ?_ ?_ 0 (Nat.zero_le _)
  · exact lp S_2 ⟨fun i hi => absurd hi (by omega), hf1⟩
  · intro S1 ⟨hl0, hfS⟩
    have e10 : S1 44 10 = (anp (av S) : Int) := by
      rw [hfS.2.1 10 (by omega)]
      show S 44 10 = ((S 44 10).toNat : Int)
      omega
    refine G_iload hk dX11_swapOf_13 rfl ?_
    refine G_rload_n hk dX11_swapOf_15 rfl ?_
    refine G_getI hk dX11_swapOf_16 flX11_139 (by decide) rfl rfl ?_
    refine G_icmp_ge (tgt := 46) hk dX11_swapOf_19 (by decide) ⟨by omega, by omega⟩ ⟨by omega, by omega⟩ (fun h_19 => ?_) (fun h_19 => ?_)
    · refine G_rload_n hk dX11_swapOf_46 rfl ?_
      refine G_iload_n hk dX11_swapOf_47 rfl ?_
      refine G_cV1V hk dX11_swapOf_48 mvX11_findSwap mlX11_261 (by decide) rfl rfl (Nat.le_of_ble_eq_true rfl) (c_fs (d + 4) (li := a_li (av S)) hR.1 (frQ_P hfS) (fun i hi => ⟨hl0 i hi, hli i hi⟩)) (fun S_48 hp_48 => ?_)
      obtain ⟨g29, g30, gx, gi⟩ := hp_48
      have hfS2 : frP S S_48 := frP_t hfS ⟨fun c a _ _ _ _ => gx c a, fun i hi => gi i (by omega) (by omega), by rw [gi 20 (by decide) (by decide)]; exact hfS.2.2.1, by rw [gi 23 (by decide) (by decide)]; exact hfS.2.2.2⟩
      have hjo := (joy_le (a_swc (av S) y) (aW (av S)) (aP (av S)) (anp (av S)) (a_li (av S))).1
      have hl2 : ∀ i, i < anp (av S) → S_48 57 i = a_li (av S) i ∧ 0 ≤ a_li (av S) i ∧ a_li (av S) i ≤ 3 := fun i hi => by rw [gx 57 (by decide)]; exact ⟨hl0 i hi, hli i hi⟩
      refine G_iload_n hk dX11_swapOf_51 rfl ?_
      refine G_if_ne (tgt := 62) hk dX11_swapOf_52 (by decide) ⟨by omega, by omega⟩ (fun h_52 => ?_) (fun h_52 => ?_)
      · refine G_rload_n hk dX11_swapOf_62 rfl ?_
        refine G_getI hk dX11_swapOf_63 flX11_255 (by decide) rfl rfl ?_
        refine G_istore hk dX11_swapOf_66 (by decide) rfl ?_
        refine G_iconst hk dX11_swapOf_68 ?_
        refine G_istore hk dX11_swapOf_69 (by decide) rfl ?_
        have h9 := lpw 12 (a_li (av S)) 0 S_48 none ⟨by omega, by omega, by rw [hnn, Nat.zero_add]⟩ hl2 hfS2 g29 g30
        rw [if_neg h_52] at h9
        rw [← g30] at h9
        exact GW_L rfl h9
      · refine G_rload_n hk dX11_swapOf_55 rfl ?_
        refine G_getI hk dX11_swapOf_56 flX11_252 (by decide) rfl rfl ?_
        refine G_goto (tgt := 66) hk dX11_swapOf_59 (by decide) ?_
        refine G_istore hk dX11_swapOf_66 (by decide) rfl ?_
        refine G_iconst hk dX11_swapOf_68 ?_
        refine G_istore hk dX11_swapOf_69 (by decide) rfl ?_
        have h9 := lpw 12 (a_li (av S)) 0 S_48 none ⟨by omega, by omega, by rw [hnn, Nat.zero_add]⟩ hl2 hfS2 g29 g30
        rw [if_pos h_52] at h9
        rw [← g29] at h9
        exact GW_L rfl h9
    · exact absurd h_19 (by omega)--stop
  · intro k hk9 ih S1 ⟨hl0, hfS⟩
    have e10 : S1 44 10 = (anp (av S) : Int) := by
      rw [hfS.2.1 10 (by omega)]
      show S 44 10 = ((S 44 10).toNat : Int)
      omega
    have e51 : S1 51 = aP (av S) := by rw [hfS.1 51 (by decide) (by decide) (by decide) (by decide) (by decide)]; rfl
    refine G_iload hk dX11_swapOf_13 rfl ?_
    refine G_rload_n hk dX11_swapOf_15 rfl ?_
    refine G_getI hk dX11_swapOf_16 flX11_139 (by decide) rfl rfl ?_
    refine G_icmp_ge (tgt := 46) hk dX11_swapOf_19 (by decide) ⟨by omega, by omega⟩ ⟨by omega, by omega⟩ (fun h_19 => ?_) (fun h_19 => ?_)
    · exact absurd h_19 (by omega)--stop
    · refine G_rload_n hk dX11_swapOf_22 rfl ?_
      refine G_getR hk dX11_swapOf_23 flX11_46 (by decide) rfl rfl ?_
      refine G_iload hk dX11_swapOf_26 rfl ?_
      refine G_rload_n hk dX11_swapOf_28 rfl ?_
      refine G_getR hk dX11_swapOf_29 flX11_28 (by decide) rfl rfl ?_
      refine G_iconst hk dX11_swapOf_32 ?_
      refine G_iload hk dX11_swapOf_33 rfl ?_
      refine G_imul hk dX11_swapOf_35 ?_
      refine G_iconst hk dX11_swapOf_36 ?_
      refine G_iadd hk dX11_swapOf_37 ?_
      refine G_iald hk dX11_swapOf_38 (by decide) rfl (by decide) (by omega) (by omega) ?_
      rw [e51, show (4 * (k : Int) + 3).toNat = 4 * k + 3 by omega]
      refine G_iast hk dX11_swapOf_39 (by decide) rfl (by decide) (by omega) (by omega) ?_
      rw [Int.toNat_natCast]
      refine G_iinc hk dX11_swapOf_40 rfl (by decide) rfl ?_
      refine G_goto (tgt := 13) hk dX11_swapOf_43 (by decide) ?_
      refine ih _ ⟨fun i hi => ?_, frP_t hfS ⟨fun c _ _ _ _ a => by simp only [su_ne _ a], fun i _ => rfl, hfS.2.2.1, hfS.2.2.2⟩⟩
      simp (decide := true) only [su_app, ↓reduceIte]
      by_cases e : i = k
      · rw [if_pos e, e]; rfl
      · rw [if_neg e]; exact hl0 i (by omega)

theorem c_X11_swap (l : Launch) (Γ : Ev) (d : Nat) (S : Sx) (hI : InvM S) (y w : Int) (h_y : R32 y) (h_w : R32 w) : Ctr l Γ (d + 8) mX11_swap [rf Γ 44, vI y, vI w] S (pI (fun r S2 => r = a_swap (av S) y w ∧ frQ S S2)) := by
  refine Ctr.of (by decide) rfl rfl (Nat.le_of_ble_eq_true rfl) ?_
  intro κ hl hk hr
  subst hl
  refine G_rload_n hk dX11_swap_0 rfl ?_
  refine G_cV0I hk dX11_swap_1 mvX11_reads mlX11_113 (by decide) rfl rfl (Nat.le_of_ble_eq_true rfl) (c_rd hI) (fun r_1 S_1 hp_1 => ?_)
  obtain ⟨hr0, hR, hq⟩ := hp_1
  have eQ := av_frQ hq
  refine G_pop hk dX11_swap_4 rfl ?_
  refine G_iload_n hk dX11_swap_5 rfl ?_
  refine G_cS1P hk dX11_swap_6 msX11_isYear mlX11_130 (Nat.le_of_ble_eq_true rfl) (c_X11_isYear _ Γ (d + 6) _ _ ⟨by omega, by omega⟩) ?_
  refine G_bif_eq (tgt := 33) hk dX11_swap_9 (by decide) (fun h_9 => ?_) (fun h_9 => ?_)
  · refine G_bipush hk dX11_swap_33 (by decide) ?_
    exact G_iret hk hr dX11_swap_35 ⟨by unfold a_swap; (repeat' split) <;> first | (exfalso; omega) | rfl, hq⟩
  · refine G_iload_n hk dX11_swap_12 rfl ?_
    refine G_i2l hk dX11_swap_13 ⟨by omega, by omega⟩ ?_
    refine G_lconst (z := 0) hk dX11_swap_14 (by decide) ?_
    refine G_ldc2 (z := (2)) hk dX11_swap_15 kcX11_77 (by decide) ?_
    refine G_cS3P hk dX11_swap_18 msX11_in mlX11_64 (Nat.le_of_ble_eq_true rfl) (c_X11_in _ Γ (d + 7) _ _ _ _ ⟨by omega, by omega⟩ ⟨by omega, by omega⟩ ⟨by omega, by omega⟩) ?_
    refine G_bif_eq (tgt := 33) hk dX11_swap_21 (by decide) (fun h_21 => ?_) (fun h_21 => ?_)
    · refine G_bipush hk dX11_swap_33 (by decide) ?_
      exact G_iret hk hr dX11_swap_35 ⟨by unfold a_swap; (repeat' split) <;> first | (exfalso; omega) | rfl, hq⟩
    · refine G_rload_n hk dX11_swap_24 rfl ?_
      refine G_iload_n hk dX11_swap_25 rfl ?_
      refine G_iload_n hk dX11_swap_26 rfl ?_
      refine G_cV2I hk dX11_swap_27 mvX11_swapOf mlX11_264 (by decide) rfl rfl (Nat.le_of_ble_eq_true rfl) (c_X11_swapOf _ Γ (d + 0) _ hR _ _ ⟨by omega, by omega⟩ ⟨by omega, by omega⟩) (fun r_27 S_27 hp_27 => ?_)
      refine G_goto (tgt := 35) hk dX11_swap_30 (by decide) ?_
      exact G_iret hk hr dX11_swap_35 ⟨by unfold a_swap; rw [hp_27.1, eQ]; (repeat' split) <;> first | (exfalso; omega) | rfl, frQ_t hq (frQ_P hp_27.2.2)⟩
