theorem c_X11_ones (l : Launch) (Γ : Ev) (d : Nat) (S : Sx) (a : Nat) (ha : a < 4096) : Ctr l Γ d mX11_ones [vI (a : Int)] S (pP S (popc a : Int)) := by
  refine Ctr.of (by decide) rfl rfl (Nat.le_of_ble_eq_true rfl) ?_
  intro κ hl hk hr
  subst hl
  refine G_iconst hk dX11_ones_0 ?_
  refine G_istore_n hk dX11_ones_1 (by decide) rfl ?_
  refine G_iload_n hk dX11_ones_2 rfl ?_
  refine G_istore_n hk dX11_ones_3 (by decide) rfl ?_
  have lp : ∀ (m x n : Nat), x ≤ m → x < 4096 → n + popc x = popc a → GW κ Γ 4 [some (vI (a : Int)), some (vI (n : Int)), some (vI (x : Int))] [] (wl Γ S) := by
    intro m
    induction m with
    | zero =>
      intro x n h1 h2 h3
      have e : x = 0 := by omega
      subst e
      have e0 : popc 0 = 0 := by decide
      refine G_iload_n hk dX11_ones_4 rfl ?_
      refine G_if_eq (tgt := 20) hk dX11_ones_5 (by decide) ⟨by omega, by omega⟩ (fun h_5 => ?_) (fun h_5 => ?_)
      · refine G_iload_n hk dX11_ones_20 rfl ?_
        exact G_iret hk hr dX11_ones_21 ⟨by omega, rfl⟩
      · exact absurd rfl h_5--stop
    | succ m ih =>
      intro x n h1 h2 h3
      refine G_iload_n hk dX11_ones_4 rfl ?_
      refine G_if_eq (tgt := 20) hk dX11_ones_5 (by decide) ⟨by omega, by omega⟩ (fun h_5 => ?_) (fun h_5 => ?_)
      · have e : x = 0 := by omega
        subst e
        have e0 : popc 0 = 0 := by decide
        refine G_iload_n hk dX11_ones_20 rfl ?_
        exact G_iret hk hr dX11_ones_21 ⟨by omega, rfl⟩
      · have hs := popc_step h2 (show x ≠ 0 by omega)
        have ez : zand (x : Int) ((x : Int) - 1) = ((x &&& (x - 1) : Nat) : Int) := by
          rw [show (x : Int) - 1 = ((x - 1 : Nat) : Int) by omega]
          exact zand_nn (by omega)
        refine G_iinc hk dX11_ones_8 rfl (by decide) rfl ?_
        refine G_iload_n hk dX11_ones_11 rfl ?_
        refine G_iload_n hk dX11_ones_12 rfl ?_
        refine G_iconst hk dX11_ones_13 ?_
        refine G_isub hk dX11_ones_14 ?_
        refine G_iand hk dX11_ones_15 ?_
        rw [ez]
        refine G_istore_n hk dX11_ones_16 (by decide) rfl ?_
        refine G_goto (tgt := 4) hk dX11_ones_17 (by decide) ?_
        exact ih (x &&& (x - 1)) (n + 1) (by omega) (by omega) (by omega)
  exact lp a a 0 (Nat.le_refl _) ha (by omega)

theorem c_X11_backTo (l : Launch) (Γ : Ev) (d : Nat) (S : Sx) (hR : RdM S) (X : Sim) (hX : MSim (aN (av S)) X S) (p : Int) (k : Nat) (h_p : R32 p) (h_k : k < anp (av S)) (hof : aP (av S) (4 * k + 1) ≤ (aN (av S) : Int) - 1) : Ctr l Γ (d + 3) mX11_backTo [rf Γ 44, vI p, vI (k : Int)] S (pP S (bkt (av S) X p k)) := by
  refine Ctr.of (by decide) rfl rfl (Nat.le_of_ble_eq_true rfl) ?_
  intro κ hl hk hr
  subst hl
  have n12 := hR.1.1.2.2.1
  have n8 := aN_8 hR.1.1
  have hq := hR.1.1.2.2.2.1 k h_k
  have eP : S 51 = aP (av S) := rfl
  have e5 := hX.2.1 (2 * k) (by omega)
  have e6 := hX.2.1 (2 * k + 1) (by omega)
  have t9 := aTw_ok (A := av S) (aP (av S) (4 * k + 1)).toNat (by omega)
  refine G_rload_n hk dX11_backTo_0 rfl ?_
  refine G_getR hk dX11_backTo_1 flX11_28 (by decide) rfl rfl ?_
  refine G_iconst hk dX11_backTo_4 ?_
  refine G_iload_n hk dX11_backTo_5 rfl ?_
  refine G_imul hk dX11_backTo_6 ?_
  refine G_iconst hk dX11_backTo_7 ?_
  refine G_iadd hk dX11_backTo_8 ?_
  refine G_iald hk dX11_backTo_9 (by decide) rfl (by decide) (by omega) (by omega) ?_
  rw [eP, show (4 * (k : Int) + 1).toNat = 4 * k + 1 by omega]
  refine G_istore_n hk dX11_backTo_10 (by decide) rfl ?_
  refine G_iload_n hk dX11_backTo_11 rfl ?_
  refine G_iload_n hk dX11_backTo_12 rfl ?_
  refine G_icmp_ne (tgt := 27) hk dX11_backTo_13 (by decide) ⟨by omega, by omega⟩ ⟨by omega, by omega⟩ (fun h_13 => ?_) (fun h_13 => ?_)
  · refine G_rload_n hk dX11_backTo_27 rfl ?_
    refine G_iload_n hk dX11_backTo_28 rfl ?_
    refine G_cV1P hk dX11_backTo_29 mvX11_twinOf mlX11_127 (by decide) rfl rfl (Nat.le_of_ble_eq_true rfl) (c_tw11 (rdm_sim hR) ⟨by omega, by omega⟩) ?_
    refine G_iload_n hk dX11_backTo_32 rfl ?_
    refine G_icmp_ne (tgt := 49) hk dX11_backTo_33 (by decide) ⟨by omega, by omega⟩ ⟨by omega, by omega⟩ (fun h_33 => ?_) (fun h_33 => ?_)
    · refine G_iconst hk dX11_backTo_49 ?_
      exact G_iret hk hr dX11_backTo_50 ⟨by unfold bkt; (repeat' split) <;> first | (exfalso; omega) | rfl, rfl⟩
    · refine G_rload_n hk dX11_backTo_36 rfl ?_
      refine G_getR hk dX11_backTo_37 flX11_40 (by decide) rfl rfl ?_
      refine G_iconst hk dX11_backTo_40 ?_
      refine G_iload_n hk dX11_backTo_41 rfl ?_
      refine G_imul hk dX11_backTo_42 ?_
      refine G_iconst hk dX11_backTo_43 ?_
      refine G_iadd hk dX11_backTo_44 ?_
      refine G_iald hk dX11_backTo_45 (by decide) rfl (by decide) (by omega) (by omega) ?_
      rw [show (2 * (k : Int) + 1).toNat = 2 * k + 1 by omega, e6]
      refine G_goto (tgt := 50) hk dX11_backTo_46 (by decide) ?_
      exact G_iret hk hr dX11_backTo_50 ⟨by unfold bkt; (repeat' split) <;> first | (exfalso; omega) | rfl, rfl⟩
  · refine G_rload_n hk dX11_backTo_16 rfl ?_
    refine G_getR hk dX11_backTo_17 flX11_40 (by decide) rfl rfl ?_
    refine G_iconst hk dX11_backTo_20 ?_
    refine G_iload_n hk dX11_backTo_21 rfl ?_
    refine G_imul hk dX11_backTo_22 ?_
    refine G_iald hk dX11_backTo_23 (by decide) rfl (by decide) (by omega) (by omega) ?_
    rw [show (2 * (k : Int)).toNat = 2 * k by omega, e5]
    refine G_goto (tgt := 50) hk dX11_backTo_24 (by decide) ?_
    exact G_iret hk hr dX11_backTo_50 ⟨by unfold bkt; (repeat' split) <;> first | (exfalso; omega) | rfl, rfl⟩

theorem c_X11_findWhole (l : Launch) (Γ : Ev) (d : Nat) (S : Sx) (hR : RdM S) (y p wi sp : Int) (hy : 0 ≤ y ∧ y ≤ 29) (hp : 0 ≤ p ∧ p ≤ (aN (av S) : Int) - 1) (hwi : 0 ≤ wi ∧ wi ≤ 99) (hsp : -1 ≤ sp ∧ sp ≤ 3) : Ctr l Γ (d + 7) mX11_findWhole [rf Γ 44, vI y, vI p, vI wi, vI sp] S (pV (fun S2 => S2 44 26 = (wh (av S) (lv (av S) (y.toNat + 1)) p wi sp (2 ^ anp (av S))).1 ∧ S2 44 27 = (wh (av S) (lv (av S) (y.toNat + 1)) p wi sp (2 ^ anp (av S))).2 ∧ RdM S2 ∧ frP S S2)) := by
  refine Ctr.of (by decide) rfl rfl (Nat.le_of_ble_eq_true rfl) ?_
  intro κ hl hk hr
  subst hl
  have n12 := hR.1.1.2.2.1
  have n8 := aN_8 hR.1.1
  have i2 := hR.1.2.1
  have p12 := pow_12 n12
  have p11 : 1 ≤ 2 ^ anp (av S) := Nat.one_le_two_pow
  have e2n : (1 : Int) * 2 ^ ((anp (av S) : Int)).toNat = ((2 ^ anp (av S) : Nat) : Int) := by
    rw [Int.one_mul, Int.toNat_natCast]
    first | rfl | simp
  have hB : SB (aN (av S)) (aP (av S)) (99 + 108 * ((y.toNat + 1 : Nat) : Int)) (lv (av S) (y.toNat + 1)) := lv_bd0 hR.1.1 _
  refine G_rload_n hk dX11_findWhole_0 rfl ?_
  refine G_iload_n hk dX11_findWhole_1 rfl ?_
  refine G_cV1V hk dX11_findWhole_2 mvX11_lives mlX11_192 (by decide) rfl rfl (Nat.le_of_ble_eq_true rfl) (c_lv hR ⟨by omega, by omega⟩) (fun S_2 hp_2 => ?_)
  obtain ⟨hX1, hR1, hf1⟩ := hp_2
  have eA := av_frP hf1
  refine G_rload_n hk dX11_findWhole_5 rfl ?_
  refine G_cV0P hk dX11_findWhole_6 mvX11_thereNow mlX11_201 (by decide) rfl rfl (Nat.le_of_ble_eq_true rfl) (c_X11_thereNow _ Γ (d + 6) _ hR1 (lv (av S) (y.toNat + 1)) (by rw [eA]; exact hX1) (99 + 108 * ((y.toNat + 1 : Nat) : Int)) (by rw [eA]; exact hB) (by omega)) ?_
  rw [eA]
  refine G_istore hk dX11_findWhole_9 (by decide) rfl ?_
  refine G_rload_n hk dX11_findWhole_11 rfl ?_
  refine G_iconst hk dX11_findWhole_12 ?_
  refine G_putI hk dX11_findWhole_13 flX11_223 fpX11_26 (by decide) rfl rfl ?_
  refine G_rload_n hk dX11_findWhole_16 rfl ?_
  refine G_iconst hk dX11_findWhole_17 ?_
  refine G_putI hk dX11_findWhole_18 flX11_226 fpX11_27 (by decide) rfl rfl ?_
  refine G_iconst hk dX11_findWhole_21 ?_
  refine G_istore hk dX11_findWhole_22 (by decide) rfl ?_
  have lp := loop_up (P := fun x => ∀ (S1 : Sx) (w7 w8 w9 w10 : Option Value), (S1 44 26 = (wh (av S) (lv (av S) (y.toNat + 1)) p wi sp x).1 ∧ S1 44 27 = (wh (av S) (lv (av S) (y.toNat + 1)) p wi sp x).2 ∧ (∀ c, c ≠ 44 → S1 c = S_2 c) ∧ (∀ i, i ≠ 26 → i ≠ 27 → S1 44 i = S_2 44 i)) → GW κ Γ 24 [some (rf Γ 44), some (vI y), some (vI p), some (vI wi), some (vI sp), some (vI ((bsm (fun k => decide ((lv (av S) (y.toNat + 1)).2.2 k = 1)) (anp (av S))) : Int)), some (vI (x : Int)), w7, w8, w9, w10] [] (wl Γ S1)) (2 ^ anp (av S)) ?_ ?_ 0 (Nat.zero_le _)
  · exact GW_L rfl (lp _ none none none none ⟨by simp [su_app]; rfl, by simp [su_app]; rfl, fun c a => by simp only [su_ne _ a], fun i a b => by simp [su_app, a, b]⟩)
  · intro S1 w7 w8 w9 w10 ⟨f1, f2, f3, f4⟩
    have e10 : S1 44 10 = (anp (av S) : Int) := by
      rw [f4 10 (by decide) (by decide), hf1.2.1 10 (by omega)]
      show S 44 10 = ((S 44 10).toNat : Int)
      omega
    refine G_iload hk dX11_findWhole_24 rfl ?_
    refine G_iconst hk dX11_findWhole_26 ?_
    refine G_rload_n hk dX11_findWhole_27 rfl ?_
    refine G_getI hk dX11_findWhole_28 flX11_139 (by decide) rfl rfl ?_
    rw [e10]
    refine G_ishl hk dX11_findWhole_31 (by omega) (shl_ok (by omega)) (by omega) (by omega) ?_
    rw [e2n]
    refine G_icmp_ge (tgt := 270) hk dX11_findWhole_32 (by decide) ⟨by omega, by omega⟩ ⟨by omega, by omega⟩ (fun h_32 => ?_) (fun h_32 => ?_)
    · exact G_vret hk hr dX11_findWhole_270 (by
      have hfp : frP S S1 := frP_t hf1 ⟨fun c a _ _ _ _ => f3 c a, fun i hi => f4 i (by omega) (by omega), by rw [f4 20 (by decide) (by decide)]; exact hf1.2.2.1, by rw [f4 23 (by decide) (by decide)]; exact hf1.2.2.2⟩
      exact ⟨f1, f2, RdM_frP hR hfp, hfp⟩)
    · exact absurd h_32 (by omega)--stop
  · intro x hx9 ih S1 w7 w8 w9 w10 ⟨f1, f2, f3, f4⟩
    have e10 : S1 44 10 = (anp (av S) : Int) := by
      rw [f4 10 (by decide) (by decide), hf1.2.1 10 (by omega)]
      show S 44 10 = ((S 44 10).toNat : Int)
      omega
    have hX2 : MSim (aN (av S)) (lv (av S) (y.toNat + 1)) S1 := ⟨fun q hq => by rw [f3 54 (by decide)]; exact hX1.1 q hq, fun q hq => by rw [f3 55 (by decide)]; exact hX1.2.1 q hq, fun q hq => by rw [f3 56 (by decide)]; exact hX1.2.2 q hq⟩
    have hfp : frP S S1 := frP_t hf1 ⟨fun c a _ _ _ _ => f3 c a, fun i hi => f4 i (by omega) (by omega), by rw [f4 20 (by decide) (by decide)]; exact hf1.2.2.1, by rw [f4 23 (by decide) (by decide)]; exact hf1.2.2.2⟩
    have hR2 := RdM_frP hR hfp
    have eA2 := av_frP hfp
    obtain ⟨zm, hzm, ezm, hzt⟩ := zandn (a := x) (c := (bsm (fun k => decide ((lv (av S) (y.toNat + 1)).2.2 k = 1)) (anp (av S)))) (by omega) (bsm_31 _ (by omega))
    refine G_iload hk dX11_findWhole_24 rfl ?_
    refine G_iconst hk dX11_findWhole_26 ?_
    refine G_rload_n hk dX11_findWhole_27 rfl ?_
    refine G_getI hk dX11_findWhole_28 flX11_139 (by decide) rfl rfl ?_
    rw [e10]
    refine G_ishl hk dX11_findWhole_31 (by omega) (shl_ok (by omega)) (by omega) (by omega) ?_
    rw [e2n]
    refine G_icmp_ge (tgt := 270) hk dX11_findWhole_32 (by decide) ⟨by omega, by omega⟩ ⟨by omega, by omega⟩ (fun h_32 => ?_) (fun h_32 => ?_)
    · exact absurd h_32 (by omega)--stop
    · refine G_iload hk dX11_findWhole_35 rfl ?_
      refine G_iload hk dX11_findWhole_37 rfl ?_
      refine G_iconst hk dX11_findWhole_39 ?_
      refine G_ixor hk dX11_findWhole_40 ?_
      refine G_iand hk dX11_findWhole_41 ?_
      rw [ezm]
      refine G_if_ne (tgt := 264) hk dX11_findWhole_42 (by decide) ⟨by omega, by omega⟩ (fun h_42 => ?_) (fun h_42 => ?_)
      · refine G_iinc hk dX11_findWhole_264 rfl (by decide) rfl ?_
        refine G_goto (tgt := 24) hk dX11_findWhole_267 (by decide) ?_
        refine ih _ _ _ _ _ ⟨?_, ?_, f3, f4⟩
        · rw [show wh (av S) (lv (av S) (y.toNat + 1)) p wi sp (x + 1) = w1 (av S) (lv (av S) (y.toNat + 1)) p wi sp x (wh (av S) (lv (av S) (y.toNat + 1)) p wi sp x) from rfl]
          unfold w1
          rw [if_neg (fun q => h_42 (by rw [(sub_zero hx9 hzt).mpr (wSub_iff.mp q.1)]; rfl))]
          exact f1
        · rw [show wh (av S) (lv (av S) (y.toNat + 1)) p wi sp (x + 1) = w1 (av S) (lv (av S) (y.toNat + 1)) p wi sp x (wh (av S) (lv (av S) (y.toNat + 1)) p wi sp x) from rfl]
          unfold w1
          rw [if_neg (fun q => h_42 (by rw [(sub_zero hx9 hzt).mpr (wSub_iff.mp q.1)]; rfl))]
          exact f2
      · have hsub : wSub (lv (av S) (y.toNat + 1)) (anp (av S)) x = true := wSub_iff.mpr ((sub_zero hx9 hzt).mp (by omega))
        refine G_rload_n hk dX11_findWhole_45 rfl ?_
        refine G_getR hk dX11_findWhole_46 flX11_37 (by decide) rfl rfl ?_
        refine G_iload_n hk dX11_findWhole_49 rfl ?_
        refine G_iald hk dX11_findWhole_50 (by decide) rfl (by decide) (by omega) (by omega) ?_
        rw [hX2.1 p.toNat (by omega)]
        refine G_istore hk dX11_findWhole_51 (by decide) rfl ?_
        refine G_iconst hk dX11_findWhole_53 ?_
        refine G_istore hk dX11_findWhole_54 (by decide) rfl ?_
        refine G_iconst hk dX11_findWhole_56 ?_
        refine G_istore hk dX11_findWhole_57 (by decide) rfl ?_
        have lp2 := loop_up (P := fun k => ∀ w10 : Option Value, GW κ Γ 59 [some (rf Γ 44), some (vI y), some (vI p), some (vI wi), some (vI sp), some (vI ((bsm (fun k => decide ((lv (av S) (y.toNat + 1)).2.2 k = 1)) (anp (av S))) : Int)), some (vI (x : Int)), some (vI (wIs (av S) (lv (av S) (y.toNat + 1)) p x k)), some (vI (wLo (av S) (lv (av S) (y.toNat + 1)) sp x k)), some (vI (k : Int)), w10] [] (wl Γ S1)) (anp (av S)) ?_ ?_ 0 (Nat.zero_le _)
        · have e0 : wIs (av S) (lv (av S) (y.toNat + 1)) p x 0 = (lv (av S) (y.toNat + 1)).1 p.toNat := Int.add_zero _
          rw [e0] at lp2
          exact lp2 _
        · intro w10
          have ib := wIs_bd hB ⟨hp.1, hp.2⟩ x (k := anp (av S)) n12
          have lb := wLo_bd hB sp x (k := anp (av S)) n12
          have wb := wh_bd hB n12 p wi sp x
          refine G_iload hk dX11_findWhole_59 rfl ?_
          refine G_rload_n hk dX11_findWhole_61 rfl ?_
          refine G_getI hk dX11_findWhole_62 flX11_139 (by decide) rfl rfl ?_
          rw [e10]
          refine G_icmp_ge (tgt := 156) hk dX11_findWhole_65 (by decide) ⟨by omega, by omega⟩ ⟨by omega, by omega⟩ (fun h_65 => ?_) (fun h_65 => ?_)
          · refine G_rload_n hk dX11_findWhole_156 rfl ?_
            refine G_getI hk dX11_findWhole_157 flX11_223 (by decide) rfl rfl ?_
            rw [f1]
            refine G_iconst hk dX11_findWhole_160 ?_
            refine G_icmp_eq (tgt := 203) hk dX11_findWhole_161 (by decide) ⟨by omega, by omega⟩ ⟨by omega, by omega⟩ (fun h_161 => ?_) (fun h_161 => ?_)
            · have hfew : (wh (av S) (lv (av S) (y.toNat + 1)) p wi sp x).1 = -1 ∨ popc x < popc (wh (av S) (lv (av S) (y.toNat + 1)) p wi sp x).1.toNat ∨ (popc x = popc (wh (av S) (lv (av S) (y.toNat + 1)) p wi sp x).1.toNat ∧ wLo (av S) (lv (av S) (y.toNat + 1)) sp x (anp (av S)) < (wh (av S) (lv (av S) (y.toNat + 1)) p wi sp x).2) := by
                (try rw [etn])
                omega
              refine G_iconst hk dX11_findWhole_203 ?_
              refine G_goto (tgt := 208) hk dX11_findWhole_204 (by decide) ?_
              refine G_istore hk dX11_findWhole_208 (by decide) rfl ?_
              refine G_iload hk dX11_findWhole_210 rfl ?_
              refine G_iload_n hk dX11_findWhole_212 rfl ?_
              refine G_icmp_lt (tgt := 225) hk dX11_findWhole_213 (by decide) ⟨by omega, by omega⟩ ⟨by omega, by omega⟩ (fun h_213 => ?_) (fun h_213 => ?_)
              · refine G_iconst hk dX11_findWhole_225 ?_
                refine G_istore hk dX11_findWhole_226 (by decide) rfl ?_
                refine G_rload_n hk dX11_findWhole_228 rfl ?_
                refine G_iload hk dX11_findWhole_229 rfl ?_
                refine G_if_eq (tgt := 239) hk dX11_findWhole_231 (by decide) ⟨by omega, by omega⟩ (fun h_231 => ?_) (fun h_231 => ?_)
                · refine G_rload_n hk dX11_findWhole_239 rfl ?_
                  refine G_getI hk dX11_findWhole_240 flX11_223 (by decide) rfl rfl ?_
                  try simp (decide := true) only [su_app, sr_app, ↓reduceIte]
                  (try rw [f1])
                  refine G_putI hk dX11_findWhole_243 flX11_223 fpX11_26 (by decide) rfl rfl ?_
                  refine G_rload_n hk dX11_findWhole_246 rfl ?_
                  refine G_iload hk dX11_findWhole_247 rfl ?_
                  refine G_if_eq (tgt := 257) hk dX11_findWhole_249 (by decide) ⟨by omega, by omega⟩ (fun h_249 => ?_) (fun h_249 => ?_)
                  · refine G_rload_n hk dX11_findWhole_257 rfl ?_
                    refine G_getI hk dX11_findWhole_258 flX11_226 (by decide) rfl rfl ?_
                    try simp (decide := true) only [su_app, sr_app, ↓reduceIte]
                    try simp (decide := true) only [su_app, sr_app, ↓reduceIte]
                    (try rw [f2])
                    refine G_putI hk dX11_findWhole_261 flX11_226 fpX11_27 (by decide) rfl rfl ?_
                    refine G_iinc hk dX11_findWhole_264 rfl (by decide) rfl ?_
                    refine G_goto (tgt := 24) hk dX11_findWhole_267 (by decide) ?_
                    have hnot : ¬ (wSub (lv (av S) (y.toNat + 1)) (anp (av S)) x = true ∧ wi ≤ wIs (av S) (lv (av S) (y.toNat + 1)) p x (anp (av S)) ∧ ((wh (av S) (lv (av S) (y.toNat + 1)) p wi sp x).1 = -1 ∨ popc x < popc (wh (av S) (lv (av S) (y.toNat + 1)) p wi sp x).1.toNat ∨ (popc x = popc (wh (av S) (lv (av S) (y.toNat + 1)) p wi sp x).1.toNat ∧ wLo (av S) (lv (av S) (y.toNat + 1)) sp x (anp (av S)) < (wh (av S) (lv (av S) (y.toNat + 1)) p wi sp x).2))) := by
                      rintro ⟨_, q1, q2⟩
                      omega
                    refine ih _ _ _ _ _ ⟨?_, ?_, ?_, ?_⟩
                    · rw [show wh (av S) (lv (av S) (y.toNat + 1)) p wi sp (x + 1) = w1 (av S) (lv (av S) (y.toNat + 1)) p wi sp x (wh (av S) (lv (av S) (y.toNat + 1)) p wi sp x) from rfl]
                      unfold w1
                      rw [if_neg (fun q => hnot q)]
                      simp (decide := true) only [su_app, ↓reduceIte]
                      (try exact f1)
                    · rw [show wh (av S) (lv (av S) (y.toNat + 1)) p wi sp (x + 1) = w1 (av S) (lv (av S) (y.toNat + 1)) p wi sp x (wh (av S) (lv (av S) (y.toNat + 1)) p wi sp x) from rfl]
                      unfold w1
                      rw [if_neg (fun q => hnot q)]
                      simp (decide := true) only [su_app, ↓reduceIte]
                      (try exact f2)
                    · intro c a
                      simp only [su_ne _ a]
                      exact f3 c a
                    · intro i a b
                      simp (decide := true) only [su_app, ↓reduceIte, if_neg a, if_neg b]
                      exact f4 i a b
                  · exact absurd h_249 (by omega)--stop
                · exact absurd h_231 (by omega)--stop
              · refine G_iload hk dX11_findWhole_216 rfl ?_
                refine G_if_eq (tgt := 225) hk dX11_findWhole_218 (by decide) ⟨by omega, by omega⟩ (fun h_218 => ?_) (fun h_218 => ?_)
                · exact absurd h_218 (by omega)--stop
                · refine G_iconst hk dX11_findWhole_221 ?_
                  refine G_goto (tgt := 226) hk dX11_findWhole_222 (by decide) ?_
                  refine G_istore hk dX11_findWhole_226 (by decide) rfl ?_
                  refine G_rload_n hk dX11_findWhole_228 rfl ?_
                  refine G_iload hk dX11_findWhole_229 rfl ?_
                  refine G_if_eq (tgt := 239) hk dX11_findWhole_231 (by decide) ⟨by omega, by omega⟩ (fun h_231 => ?_) (fun h_231 => ?_)
                  · exact absurd h_231 (by omega)--stop
                  · refine G_iload hk dX11_findWhole_234 rfl ?_
                    refine G_goto (tgt := 243) hk dX11_findWhole_236 (by decide) ?_
                    refine G_putI hk dX11_findWhole_243 flX11_223 fpX11_26 (by decide) rfl rfl ?_
                    refine G_rload_n hk dX11_findWhole_246 rfl ?_
                    refine G_iload hk dX11_findWhole_247 rfl ?_
                    refine G_if_eq (tgt := 257) hk dX11_findWhole_249 (by decide) ⟨by omega, by omega⟩ (fun h_249 => ?_) (fun h_249 => ?_)
                    · exact absurd h_249 (by omega)--stop
                    · refine G_iload hk dX11_findWhole_252 rfl ?_
                      refine G_goto (tgt := 261) hk dX11_findWhole_254 (by decide) ?_
                      refine G_putI hk dX11_findWhole_261 flX11_226 fpX11_27 (by decide) rfl rfl ?_
                      refine G_iinc hk dX11_findWhole_264 rfl (by decide) rfl ?_
                      refine G_goto (tgt := 24) hk dX11_findWhole_267 (by decide) ?_
                      refine ih _ _ _ _ _ ⟨?_, ?_, ?_, ?_⟩
                      · rw [show wh (av S) (lv (av S) (y.toNat + 1)) p wi sp (x + 1) = w1 (av S) (lv (av S) (y.toNat + 1)) p wi sp x (wh (av S) (lv (av S) (y.toNat + 1)) p wi sp x) from rfl]
                        unfold w1
                        rw [if_pos ⟨hsub, by omega, hfew⟩]
                        simp (decide := true) only [su_app, ↓reduceIte]
                      · rw [show wh (av S) (lv (av S) (y.toNat + 1)) p wi sp (x + 1) = w1 (av S) (lv (av S) (y.toNat + 1)) p wi sp x (wh (av S) (lv (av S) (y.toNat + 1)) p wi sp x) from rfl]
                        unfold w1
                        rw [if_pos ⟨hsub, by omega, hfew⟩]
                        simp (decide := true) only [su_app, ↓reduceIte]
                      · intro c a
                        simp only [su_ne _ a]
                        exact f3 c a
                      · intro i a b
                        simp (decide := true) only [su_app, ↓reduceIte, if_neg a, if_neg b]
                        exact f4 i a b
            · obtain ⟨mm, hm1, hm2, hm3, hm4⟩ : ∃ m : Nat, m < x ∧ (wh (av S) (lv (av S) (y.toNat + 1)) p wi sp x).1 = (m : Int) ∧ 0 ≤ (wh (av S) (lv (av S) (y.toNat + 1)) p wi sp x).2 ∧ (wh (av S) (lv (av S) (y.toNat + 1)) p wi sp x).2 ≤ 216 := by
                rcases wh_inv hB n12 p wi sp x with h | h
                · exact absurd h.1 h_161
                · exact h
              have pmm := popc_le mm
              have pxx := popc_le x
              have etn : (wh (av S) (lv (av S) (y.toNat + 1)) p wi sp x).1.toNat = mm := by omega
              refine G_iload hk dX11_findWhole_164 rfl ?_
              refine G_cS1P hk dX11_findWhole_166 msX11_ones mlX11_232 (Nat.le_of_ble_eq_true rfl) (c_X11_ones _ Γ (d + 6) _ x (by omega)) ?_
              refine G_rload_n hk dX11_findWhole_169 rfl ?_
              refine G_getI hk dX11_findWhole_170 flX11_223 (by decide) rfl rfl ?_
              rw [f1, hm2]
              refine G_cS1P hk dX11_findWhole_173 msX11_ones mlX11_232 (Nat.le_of_ble_eq_true rfl) (c_X11_ones _ Γ (d + 6) _ mm (by omega)) ?_
              refine G_icmp_lt (tgt := 203) hk dX11_findWhole_176 (by decide) ⟨by omega, by omega⟩ ⟨by omega, by omega⟩ (fun h_176 => ?_) (fun h_176 => ?_)
              · have hfew : (wh (av S) (lv (av S) (y.toNat + 1)) p wi sp x).1 = -1 ∨ popc x < popc (wh (av S) (lv (av S) (y.toNat + 1)) p wi sp x).1.toNat ∨ (popc x = popc (wh (av S) (lv (av S) (y.toNat + 1)) p wi sp x).1.toNat ∧ wLo (av S) (lv (av S) (y.toNat + 1)) sp x (anp (av S)) < (wh (av S) (lv (av S) (y.toNat + 1)) p wi sp x).2) := by
                  (try rw [etn])
                  omega
                refine G_iconst hk dX11_findWhole_203 ?_
                refine G_goto (tgt := 208) hk dX11_findWhole_204 (by decide) ?_
                refine G_istore hk dX11_findWhole_208 (by decide) rfl ?_
                refine G_iload hk dX11_findWhole_210 rfl ?_
                refine G_iload_n hk dX11_findWhole_212 rfl ?_
                refine G_icmp_lt (tgt := 225) hk dX11_findWhole_213 (by decide) ⟨by omega, by omega⟩ ⟨by omega, by omega⟩ (fun h_213 => ?_) (fun h_213 => ?_)
                · refine G_iconst hk dX11_findWhole_225 ?_
                  refine G_istore hk dX11_findWhole_226 (by decide) rfl ?_
                  refine G_rload_n hk dX11_findWhole_228 rfl ?_
                  refine G_iload hk dX11_findWhole_229 rfl ?_
                  refine G_if_eq (tgt := 239) hk dX11_findWhole_231 (by decide) ⟨by omega, by omega⟩ (fun h_231 => ?_) (fun h_231 => ?_)
                  · refine G_rload_n hk dX11_findWhole_239 rfl ?_
                    refine G_getI hk dX11_findWhole_240 flX11_223 (by decide) rfl rfl ?_
                    try simp (decide := true) only [su_app, sr_app, ↓reduceIte]
                    (try rw [f1])
                    refine G_putI hk dX11_findWhole_243 flX11_223 fpX11_26 (by decide) rfl rfl ?_
                    refine G_rload_n hk dX11_findWhole_246 rfl ?_
                    refine G_iload hk dX11_findWhole_247 rfl ?_
                    refine G_if_eq (tgt := 257) hk dX11_findWhole_249 (by decide) ⟨by omega, by omega⟩ (fun h_249 => ?_) (fun h_249 => ?_)
                    · refine G_rload_n hk dX11_findWhole_257 rfl ?_
                      refine G_getI hk dX11_findWhole_258 flX11_226 (by decide) rfl rfl ?_
                      try simp (decide := true) only [su_app, sr_app, ↓reduceIte]
                      try simp (decide := true) only [su_app, sr_app, ↓reduceIte]
                      (try rw [f2])
                      refine G_putI hk dX11_findWhole_261 flX11_226 fpX11_27 (by decide) rfl rfl ?_
                      refine G_iinc hk dX11_findWhole_264 rfl (by decide) rfl ?_
                      refine G_goto (tgt := 24) hk dX11_findWhole_267 (by decide) ?_
                      have hnot : ¬ (wSub (lv (av S) (y.toNat + 1)) (anp (av S)) x = true ∧ wi ≤ wIs (av S) (lv (av S) (y.toNat + 1)) p x (anp (av S)) ∧ ((wh (av S) (lv (av S) (y.toNat + 1)) p wi sp x).1 = -1 ∨ popc x < popc (wh (av S) (lv (av S) (y.toNat + 1)) p wi sp x).1.toNat ∨ (popc x = popc (wh (av S) (lv (av S) (y.toNat + 1)) p wi sp x).1.toNat ∧ wLo (av S) (lv (av S) (y.toNat + 1)) sp x (anp (av S)) < (wh (av S) (lv (av S) (y.toNat + 1)) p wi sp x).2))) := by
                        rintro ⟨_, q1, q2⟩
                        omega
                      refine ih _ _ _ _ _ ⟨?_, ?_, ?_, ?_⟩
                      · rw [show wh (av S) (lv (av S) (y.toNat + 1)) p wi sp (x + 1) = w1 (av S) (lv (av S) (y.toNat + 1)) p wi sp x (wh (av S) (lv (av S) (y.toNat + 1)) p wi sp x) from rfl]
                        unfold w1
                        rw [if_neg (fun q => hnot q)]
                        simp (decide := true) only [su_app, ↓reduceIte]
                        (try exact f1)
                      · rw [show wh (av S) (lv (av S) (y.toNat + 1)) p wi sp (x + 1) = w1 (av S) (lv (av S) (y.toNat + 1)) p wi sp x (wh (av S) (lv (av S) (y.toNat + 1)) p wi sp x) from rfl]
                        unfold w1
                        rw [if_neg (fun q => hnot q)]
                        simp (decide := true) only [su_app, ↓reduceIte]
                        (try exact f2)
                      · intro c a
                        simp only [su_ne _ a]
                        exact f3 c a
                      · intro i a b
                        simp (decide := true) only [su_app, ↓reduceIte, if_neg a, if_neg b]
                        exact f4 i a b
                    · exact absurd h_249 (by omega)--stop
                  · exact absurd h_231 (by omega)--stop
                · refine G_iload hk dX11_findWhole_216 rfl ?_
                  refine G_if_eq (tgt := 225) hk dX11_findWhole_218 (by decide) ⟨by omega, by omega⟩ (fun h_218 => ?_) (fun h_218 => ?_)
                  · exact absurd h_218 (by omega)--stop
                  · refine G_iconst hk dX11_findWhole_221 ?_
                    refine G_goto (tgt := 226) hk dX11_findWhole_222 (by decide) ?_
                    refine G_istore hk dX11_findWhole_226 (by decide) rfl ?_
                    refine G_rload_n hk dX11_findWhole_228 rfl ?_
                    refine G_iload hk dX11_findWhole_229 rfl ?_
                    refine G_if_eq (tgt := 239) hk dX11_findWhole_231 (by decide) ⟨by omega, by omega⟩ (fun h_231 => ?_) (fun h_231 => ?_)
                    · exact absurd h_231 (by omega)--stop
                    · refine G_iload hk dX11_findWhole_234 rfl ?_
                      refine G_goto (tgt := 243) hk dX11_findWhole_236 (by decide) ?_
                      refine G_putI hk dX11_findWhole_243 flX11_223 fpX11_26 (by decide) rfl rfl ?_
                      refine G_rload_n hk dX11_findWhole_246 rfl ?_
                      refine G_iload hk dX11_findWhole_247 rfl ?_
                      refine G_if_eq (tgt := 257) hk dX11_findWhole_249 (by decide) ⟨by omega, by omega⟩ (fun h_249 => ?_) (fun h_249 => ?_)
                      · exact absurd h_249 (by omega)--stop
                      · refine G_iload hk dX11_findWhole_252 rfl ?_
                        refine G_goto (tgt := 261) hk dX11_findWhole_254 (by decide) ?_
                        refine G_putI hk dX11_findWhole_261 flX11_226 fpX11_27 (by decide) rfl rfl ?_
                        refine G_iinc hk dX11_findWhole_264 rfl (by decide) rfl ?_
                        refine G_goto (tgt := 24) hk dX11_findWhole_267 (by decide) ?_
                        refine ih _ _ _ _ _ ⟨?_, ?_, ?_, ?_⟩
                        · rw [show wh (av S) (lv (av S) (y.toNat + 1)) p wi sp (x + 1) = w1 (av S) (lv (av S) (y.toNat + 1)) p wi sp x (wh (av S) (lv (av S) (y.toNat + 1)) p wi sp x) from rfl]
                          unfold w1
                          rw [if_pos ⟨hsub, by omega, hfew⟩]
                          simp (decide := true) only [su_app, ↓reduceIte]
                        · rw [show wh (av S) (lv (av S) (y.toNat + 1)) p wi sp (x + 1) = w1 (av S) (lv (av S) (y.toNat + 1)) p wi sp x (wh (av S) (lv (av S) (y.toNat + 1)) p wi sp x) from rfl]
                          unfold w1
                          rw [if_pos ⟨hsub, by omega, hfew⟩]
                          simp (decide := true) only [su_app, ↓reduceIte]
                        · intro c a
                          simp only [su_ne _ a]
                          exact f3 c a
                        · intro i a b
                          simp (decide := true) only [su_app, ↓reduceIte, if_neg a, if_neg b]
                          exact f4 i a b
              · refine G_iload hk dX11_findWhole_179 rfl ?_
                refine G_cS1P hk dX11_findWhole_181 msX11_ones mlX11_232 (Nat.le_of_ble_eq_true rfl) (c_X11_ones _ Γ (d + 6) _ x (by omega)) ?_
                refine G_rload_n hk dX11_findWhole_184 rfl ?_
                refine G_getI hk dX11_findWhole_185 flX11_223 (by decide) rfl rfl ?_
                rw [f1, hm2]
                refine G_cS1P hk dX11_findWhole_188 msX11_ones mlX11_232 (Nat.le_of_ble_eq_true rfl) (c_X11_ones _ Γ (d + 6) _ mm (by omega)) ?_
                refine G_icmp_ne (tgt := 207) hk dX11_findWhole_191 (by decide) ⟨by omega, by omega⟩ ⟨by omega, by omega⟩ (fun h_191 => ?_) (fun h_191 => ?_)
                · have hnf : ¬ ((wh (av S) (lv (av S) (y.toNat + 1)) p wi sp x).1 = -1 ∨ popc x < popc (wh (av S) (lv (av S) (y.toNat + 1)) p wi sp x).1.toNat ∨ (popc x = popc (wh (av S) (lv (av S) (y.toNat + 1)) p wi sp x).1.toNat ∧ wLo (av S) (lv (av S) (y.toNat + 1)) sp x (anp (av S)) < (wh (av S) (lv (av S) (y.toNat + 1)) p wi sp x).2)) := by
                    rw [etn]
                    omega
                  refine G_iconst hk dX11_findWhole_207 ?_
                  refine G_istore hk dX11_findWhole_208 (by decide) rfl ?_
                  refine G_iload hk dX11_findWhole_210 rfl ?_
                  refine G_iload_n hk dX11_findWhole_212 rfl ?_
                  refine G_icmp_lt (tgt := 225) hk dX11_findWhole_213 (by decide) ⟨by omega, by omega⟩ ⟨by omega, by omega⟩ (fun h_213 => ?_) (fun h_213 => ?_)
                  · refine G_iconst hk dX11_findWhole_225 ?_
                    refine G_istore hk dX11_findWhole_226 (by decide) rfl ?_
                    refine G_rload_n hk dX11_findWhole_228 rfl ?_
                    refine G_iload hk dX11_findWhole_229 rfl ?_
                    refine G_if_eq (tgt := 239) hk dX11_findWhole_231 (by decide) ⟨by omega, by omega⟩ (fun h_231 => ?_) (fun h_231 => ?_)
                    · refine G_rload_n hk dX11_findWhole_239 rfl ?_
                      refine G_getI hk dX11_findWhole_240 flX11_223 (by decide) rfl rfl ?_
                      try simp (decide := true) only [su_app, sr_app, ↓reduceIte]
                      (try rw [f1])
                      refine G_putI hk dX11_findWhole_243 flX11_223 fpX11_26 (by decide) rfl rfl ?_
                      refine G_rload_n hk dX11_findWhole_246 rfl ?_
                      refine G_iload hk dX11_findWhole_247 rfl ?_
                      refine G_if_eq (tgt := 257) hk dX11_findWhole_249 (by decide) ⟨by omega, by omega⟩ (fun h_249 => ?_) (fun h_249 => ?_)
                      · refine G_rload_n hk dX11_findWhole_257 rfl ?_
                        refine G_getI hk dX11_findWhole_258 flX11_226 (by decide) rfl rfl ?_
                        try simp (decide := true) only [su_app, sr_app, ↓reduceIte]
                        try simp (decide := true) only [su_app, sr_app, ↓reduceIte]
                        (try rw [f2])
                        refine G_putI hk dX11_findWhole_261 flX11_226 fpX11_27 (by decide) rfl rfl ?_
                        refine G_iinc hk dX11_findWhole_264 rfl (by decide) rfl ?_
                        refine G_goto (tgt := 24) hk dX11_findWhole_267 (by decide) ?_
                        have hnot : ¬ (wSub (lv (av S) (y.toNat + 1)) (anp (av S)) x = true ∧ wi ≤ wIs (av S) (lv (av S) (y.toNat + 1)) p x (anp (av S)) ∧ ((wh (av S) (lv (av S) (y.toNat + 1)) p wi sp x).1 = -1 ∨ popc x < popc (wh (av S) (lv (av S) (y.toNat + 1)) p wi sp x).1.toNat ∨ (popc x = popc (wh (av S) (lv (av S) (y.toNat + 1)) p wi sp x).1.toNat ∧ wLo (av S) (lv (av S) (y.toNat + 1)) sp x (anp (av S)) < (wh (av S) (lv (av S) (y.toNat + 1)) p wi sp x).2))) := by
                          rintro ⟨_, q1, q2⟩
                          omega
                        refine ih _ _ _ _ _ ⟨?_, ?_, ?_, ?_⟩
                        · rw [show wh (av S) (lv (av S) (y.toNat + 1)) p wi sp (x + 1) = w1 (av S) (lv (av S) (y.toNat + 1)) p wi sp x (wh (av S) (lv (av S) (y.toNat + 1)) p wi sp x) from rfl]
                          unfold w1
                          rw [if_neg (fun q => hnot q)]
                          simp (decide := true) only [su_app, ↓reduceIte]
                          (try exact f1)
                        · rw [show wh (av S) (lv (av S) (y.toNat + 1)) p wi sp (x + 1) = w1 (av S) (lv (av S) (y.toNat + 1)) p wi sp x (wh (av S) (lv (av S) (y.toNat + 1)) p wi sp x) from rfl]
                          unfold w1
                          rw [if_neg (fun q => hnot q)]
                          simp (decide := true) only [su_app, ↓reduceIte]
                          (try exact f2)
                        · intro c a
                          simp only [su_ne _ a]
                          exact f3 c a
                        · intro i a b
                          simp (decide := true) only [su_app, ↓reduceIte, if_neg a, if_neg b]
                          exact f4 i a b
                      · exact absurd h_249 (by omega)--stop
                    · exact absurd h_231 (by omega)--stop
                  · refine G_iload hk dX11_findWhole_216 rfl ?_
                    refine G_if_eq (tgt := 225) hk dX11_findWhole_218 (by decide) ⟨by omega, by omega⟩ (fun h_218 => ?_) (fun h_218 => ?_)
                    · refine G_iconst hk dX11_findWhole_225 ?_
                      refine G_istore hk dX11_findWhole_226 (by decide) rfl ?_
                      refine G_rload_n hk dX11_findWhole_228 rfl ?_
                      refine G_iload hk dX11_findWhole_229 rfl ?_
                      refine G_if_eq (tgt := 239) hk dX11_findWhole_231 (by decide) ⟨by omega, by omega⟩ (fun h_231 => ?_) (fun h_231 => ?_)
                      · refine G_rload_n hk dX11_findWhole_239 rfl ?_
                        refine G_getI hk dX11_findWhole_240 flX11_223 (by decide) rfl rfl ?_
                        try simp (decide := true) only [su_app, sr_app, ↓reduceIte]
                        (try rw [f1])
                        refine G_putI hk dX11_findWhole_243 flX11_223 fpX11_26 (by decide) rfl rfl ?_
                        refine G_rload_n hk dX11_findWhole_246 rfl ?_
                        refine G_iload hk dX11_findWhole_247 rfl ?_
                        refine G_if_eq (tgt := 257) hk dX11_findWhole_249 (by decide) ⟨by omega, by omega⟩ (fun h_249 => ?_) (fun h_249 => ?_)
                        · refine G_rload_n hk dX11_findWhole_257 rfl ?_
                          refine G_getI hk dX11_findWhole_258 flX11_226 (by decide) rfl rfl ?_
                          try simp (decide := true) only [su_app, sr_app, ↓reduceIte]
                          try simp (decide := true) only [su_app, sr_app, ↓reduceIte]
                          (try rw [f2])
                          refine G_putI hk dX11_findWhole_261 flX11_226 fpX11_27 (by decide) rfl rfl ?_
                          refine G_iinc hk dX11_findWhole_264 rfl (by decide) rfl ?_
                          refine G_goto (tgt := 24) hk dX11_findWhole_267 (by decide) ?_
                          have hnot : ¬ (wSub (lv (av S) (y.toNat + 1)) (anp (av S)) x = true ∧ wi ≤ wIs (av S) (lv (av S) (y.toNat + 1)) p x (anp (av S)) ∧ ((wh (av S) (lv (av S) (y.toNat + 1)) p wi sp x).1 = -1 ∨ popc x < popc (wh (av S) (lv (av S) (y.toNat + 1)) p wi sp x).1.toNat ∨ (popc x = popc (wh (av S) (lv (av S) (y.toNat + 1)) p wi sp x).1.toNat ∧ wLo (av S) (lv (av S) (y.toNat + 1)) sp x (anp (av S)) < (wh (av S) (lv (av S) (y.toNat + 1)) p wi sp x).2))) := by
                            rintro ⟨_, q1, q2⟩
                            omega
                          refine ih _ _ _ _ _ ⟨?_, ?_, ?_, ?_⟩
                          · rw [show wh (av S) (lv (av S) (y.toNat + 1)) p wi sp (x + 1) = w1 (av S) (lv (av S) (y.toNat + 1)) p wi sp x (wh (av S) (lv (av S) (y.toNat + 1)) p wi sp x) from rfl]
                            unfold w1
                            rw [if_neg (fun q => hnot q)]
                            simp (decide := true) only [su_app, ↓reduceIte]
                            (try exact f1)
                          · rw [show wh (av S) (lv (av S) (y.toNat + 1)) p wi sp (x + 1) = w1 (av S) (lv (av S) (y.toNat + 1)) p wi sp x (wh (av S) (lv (av S) (y.toNat + 1)) p wi sp x) from rfl]
                            unfold w1
                            rw [if_neg (fun q => hnot q)]
                            simp (decide := true) only [su_app, ↓reduceIte]
                            (try exact f2)
                          · intro c a
                            simp only [su_ne _ a]
                            exact f3 c a
                          · intro i a b
                            simp (decide := true) only [su_app, ↓reduceIte, if_neg a, if_neg b]
                            exact f4 i a b
                        · exact absurd h_249 (by omega)--stop
                      · exact absurd h_231 (by omega)--stop
                    · exact absurd h_218 (by omega)--stop
                · refine G_iload hk dX11_findWhole_194 rfl ?_
                  refine G_rload_n hk dX11_findWhole_196 rfl ?_
                  refine G_getI hk dX11_findWhole_197 flX11_226 (by decide) rfl rfl ?_
                  rw [f2]
                  refine G_icmp_ge (tgt := 207) hk dX11_findWhole_200 (by decide) ⟨by omega, by omega⟩ ⟨by omega, by omega⟩ (fun h_200 => ?_) (fun h_200 => ?_)
                  · have hnf : ¬ ((wh (av S) (lv (av S) (y.toNat + 1)) p wi sp x).1 = -1 ∨ popc x < popc (wh (av S) (lv (av S) (y.toNat + 1)) p wi sp x).1.toNat ∨ (popc x = popc (wh (av S) (lv (av S) (y.toNat + 1)) p wi sp x).1.toNat ∧ wLo (av S) (lv (av S) (y.toNat + 1)) sp x (anp (av S)) < (wh (av S) (lv (av S) (y.toNat + 1)) p wi sp x).2)) := by
                      rw [etn]
                      omega
                    refine G_iconst hk dX11_findWhole_207 ?_
                    refine G_istore hk dX11_findWhole_208 (by decide) rfl ?_
                    refine G_iload hk dX11_findWhole_210 rfl ?_
                    refine G_iload_n hk dX11_findWhole_212 rfl ?_
                    refine G_icmp_lt (tgt := 225) hk dX11_findWhole_213 (by decide) ⟨by omega, by omega⟩ ⟨by omega, by omega⟩ (fun h_213 => ?_) (fun h_213 => ?_)
                    · refine G_iconst hk dX11_findWhole_225 ?_
                      refine G_istore hk dX11_findWhole_226 (by decide) rfl ?_
                      refine G_rload_n hk dX11_findWhole_228 rfl ?_
                      refine G_iload hk dX11_findWhole_229 rfl ?_
                      refine G_if_eq (tgt := 239) hk dX11_findWhole_231 (by decide) ⟨by omega, by omega⟩ (fun h_231 => ?_) (fun h_231 => ?_)
                      · refine G_rload_n hk dX11_findWhole_239 rfl ?_
                        refine G_getI hk dX11_findWhole_240 flX11_223 (by decide) rfl rfl ?_
                        try simp (decide := true) only [su_app, sr_app, ↓reduceIte]
                        (try rw [f1])
                        refine G_putI hk dX11_findWhole_243 flX11_223 fpX11_26 (by decide) rfl rfl ?_
                        refine G_rload_n hk dX11_findWhole_246 rfl ?_
                        refine G_iload hk dX11_findWhole_247 rfl ?_
                        refine G_if_eq (tgt := 257) hk dX11_findWhole_249 (by decide) ⟨by omega, by omega⟩ (fun h_249 => ?_) (fun h_249 => ?_)
                        · refine G_rload_n hk dX11_findWhole_257 rfl ?_
                          refine G_getI hk dX11_findWhole_258 flX11_226 (by decide) rfl rfl ?_
                          try simp (decide := true) only [su_app, sr_app, ↓reduceIte]
                          try simp (decide := true) only [su_app, sr_app, ↓reduceIte]
                          (try rw [f2])
                          refine G_putI hk dX11_findWhole_261 flX11_226 fpX11_27 (by decide) rfl rfl ?_
                          refine G_iinc hk dX11_findWhole_264 rfl (by decide) rfl ?_
                          refine G_goto (tgt := 24) hk dX11_findWhole_267 (by decide) ?_
                          have hnot : ¬ (wSub (lv (av S) (y.toNat + 1)) (anp (av S)) x = true ∧ wi ≤ wIs (av S) (lv (av S) (y.toNat + 1)) p x (anp (av S)) ∧ ((wh (av S) (lv (av S) (y.toNat + 1)) p wi sp x).1 = -1 ∨ popc x < popc (wh (av S) (lv (av S) (y.toNat + 1)) p wi sp x).1.toNat ∨ (popc x = popc (wh (av S) (lv (av S) (y.toNat + 1)) p wi sp x).1.toNat ∧ wLo (av S) (lv (av S) (y.toNat + 1)) sp x (anp (av S)) < (wh (av S) (lv (av S) (y.toNat + 1)) p wi sp x).2))) := by
                            rintro ⟨_, q1, q2⟩
                            omega
                          refine ih _ _ _ _ _ ⟨?_, ?_, ?_, ?_⟩
                          · rw [show wh (av S) (lv (av S) (y.toNat + 1)) p wi sp (x + 1) = w1 (av S) (lv (av S) (y.toNat + 1)) p wi sp x (wh (av S) (lv (av S) (y.toNat + 1)) p wi sp x) from rfl]
                            unfold w1
                            rw [if_neg (fun q => hnot q)]
                            simp (decide := true) only [su_app, ↓reduceIte]
                            (try exact f1)
                          · rw [show wh (av S) (lv (av S) (y.toNat + 1)) p wi sp (x + 1) = w1 (av S) (lv (av S) (y.toNat + 1)) p wi sp x (wh (av S) (lv (av S) (y.toNat + 1)) p wi sp x) from rfl]
                            unfold w1
                            rw [if_neg (fun q => hnot q)]
                            simp (decide := true) only [su_app, ↓reduceIte]
                            (try exact f2)
                          · intro c a
                            simp only [su_ne _ a]
                            exact f3 c a
                          · intro i a b
                            simp (decide := true) only [su_app, ↓reduceIte, if_neg a, if_neg b]
                            exact f4 i a b
                        · exact absurd h_249 (by omega)--stop
                      · exact absurd h_231 (by omega)--stop
                    · refine G_iload hk dX11_findWhole_216 rfl ?_
                      refine G_if_eq (tgt := 225) hk dX11_findWhole_218 (by decide) ⟨by omega, by omega⟩ (fun h_218 => ?_) (fun h_218 => ?_)
                      · refine G_iconst hk dX11_findWhole_225 ?_
                        refine G_istore hk dX11_findWhole_226 (by decide) rfl ?_
                        refine G_rload_n hk dX11_findWhole_228 rfl ?_
                        refine G_iload hk dX11_findWhole_229 rfl ?_
                        refine G_if_eq (tgt := 239) hk dX11_findWhole_231 (by decide) ⟨by omega, by omega⟩ (fun h_231 => ?_) (fun h_231 => ?_)
                        · refine G_rload_n hk dX11_findWhole_239 rfl ?_
                          refine G_getI hk dX11_findWhole_240 flX11_223 (by decide) rfl rfl ?_
                          try simp (decide := true) only [su_app, sr_app, ↓reduceIte]
                          (try rw [f1])
                          refine G_putI hk dX11_findWhole_243 flX11_223 fpX11_26 (by decide) rfl rfl ?_
                          refine G_rload_n hk dX11_findWhole_246 rfl ?_
                          refine G_iload hk dX11_findWhole_247 rfl ?_
                          refine G_if_eq (tgt := 257) hk dX11_findWhole_249 (by decide) ⟨by omega, by omega⟩ (fun h_249 => ?_) (fun h_249 => ?_)
                          · refine G_rload_n hk dX11_findWhole_257 rfl ?_
                            refine G_getI hk dX11_findWhole_258 flX11_226 (by decide) rfl rfl ?_
                            try simp (decide := true) only [su_app, sr_app, ↓reduceIte]
                            try simp (decide := true) only [su_app, sr_app, ↓reduceIte]
                            (try rw [f2])
                            refine G_putI hk dX11_findWhole_261 flX11_226 fpX11_27 (by decide) rfl rfl ?_
                            refine G_iinc hk dX11_findWhole_264 rfl (by decide) rfl ?_
                            refine G_goto (tgt := 24) hk dX11_findWhole_267 (by decide) ?_
                            have hnot : ¬ (wSub (lv (av S) (y.toNat + 1)) (anp (av S)) x = true ∧ wi ≤ wIs (av S) (lv (av S) (y.toNat + 1)) p x (anp (av S)) ∧ ((wh (av S) (lv (av S) (y.toNat + 1)) p wi sp x).1 = -1 ∨ popc x < popc (wh (av S) (lv (av S) (y.toNat + 1)) p wi sp x).1.toNat ∨ (popc x = popc (wh (av S) (lv (av S) (y.toNat + 1)) p wi sp x).1.toNat ∧ wLo (av S) (lv (av S) (y.toNat + 1)) sp x (anp (av S)) < (wh (av S) (lv (av S) (y.toNat + 1)) p wi sp x).2))) := by
                              rintro ⟨_, q1, q2⟩
                              omega
                            refine ih _ _ _ _ _ ⟨?_, ?_, ?_, ?_⟩
                            · rw [show wh (av S) (lv (av S) (y.toNat + 1)) p wi sp (x + 1) = w1 (av S) (lv (av S) (y.toNat + 1)) p wi sp x (wh (av S) (lv (av S) (y.toNat + 1)) p wi sp x) from rfl]
                              unfold w1
                              rw [if_neg (fun q => hnot q)]
                              simp (decide := true) only [su_app, ↓reduceIte]
                              (try exact f1)
                            · rw [show wh (av S) (lv (av S) (y.toNat + 1)) p wi sp (x + 1) = w1 (av S) (lv (av S) (y.toNat + 1)) p wi sp x (wh (av S) (lv (av S) (y.toNat + 1)) p wi sp x) from rfl]
                              unfold w1
                              rw [if_neg (fun q => hnot q)]
                              simp (decide := true) only [su_app, ↓reduceIte]
                              (try exact f2)
                            · intro c a
                              simp only [su_ne _ a]
                              exact f3 c a
                            · intro i a b
                              simp (decide := true) only [su_app, ↓reduceIte, if_neg a, if_neg b]
                              exact f4 i a b
                          · exact absurd h_249 (by omega)--stop
                        · exact absurd h_231 (by omega)--stop
                      · exact absurd h_218 (by omega)--stop
                  · have hfew : (wh (av S) (lv (av S) (y.toNat + 1)) p wi sp x).1 = -1 ∨ popc x < popc (wh (av S) (lv (av S) (y.toNat + 1)) p wi sp x).1.toNat ∨ (popc x = popc (wh (av S) (lv (av S) (y.toNat + 1)) p wi sp x).1.toNat ∧ wLo (av S) (lv (av S) (y.toNat + 1)) sp x (anp (av S)) < (wh (av S) (lv (av S) (y.toNat + 1)) p wi sp x).2) := by
                      (try rw [etn])
                      omega
                    refine G_iconst hk dX11_findWhole_203 ?_
                    refine G_goto (tgt := 208) hk dX11_findWhole_204 (by decide) ?_
                    refine G_istore hk dX11_findWhole_208 (by decide) rfl ?_
                    refine G_iload hk dX11_findWhole_210 rfl ?_
                    refine G_iload_n hk dX11_findWhole_212 rfl ?_
                    refine G_icmp_lt (tgt := 225) hk dX11_findWhole_213 (by decide) ⟨by omega, by omega⟩ ⟨by omega, by omega⟩ (fun h_213 => ?_) (fun h_213 => ?_)
                    · refine G_iconst hk dX11_findWhole_225 ?_
                      refine G_istore hk dX11_findWhole_226 (by decide) rfl ?_
                      refine G_rload_n hk dX11_findWhole_228 rfl ?_
                      refine G_iload hk dX11_findWhole_229 rfl ?_
                      refine G_if_eq (tgt := 239) hk dX11_findWhole_231 (by decide) ⟨by omega, by omega⟩ (fun h_231 => ?_) (fun h_231 => ?_)
                      · refine G_rload_n hk dX11_findWhole_239 rfl ?_
                        refine G_getI hk dX11_findWhole_240 flX11_223 (by decide) rfl rfl ?_
                        try simp (decide := true) only [su_app, sr_app, ↓reduceIte]
                        (try rw [f1])
                        refine G_putI hk dX11_findWhole_243 flX11_223 fpX11_26 (by decide) rfl rfl ?_
                        refine G_rload_n hk dX11_findWhole_246 rfl ?_
                        refine G_iload hk dX11_findWhole_247 rfl ?_
                        refine G_if_eq (tgt := 257) hk dX11_findWhole_249 (by decide) ⟨by omega, by omega⟩ (fun h_249 => ?_) (fun h_249 => ?_)
                        · refine G_rload_n hk dX11_findWhole_257 rfl ?_
                          refine G_getI hk dX11_findWhole_258 flX11_226 (by decide) rfl rfl ?_
                          try simp (decide := true) only [su_app, sr_app, ↓reduceIte]
                          try simp (decide := true) only [su_app, sr_app, ↓reduceIte]
                          (try rw [f2])
                          refine G_putI hk dX11_findWhole_261 flX11_226 fpX11_27 (by decide) rfl rfl ?_
                          refine G_iinc hk dX11_findWhole_264 rfl (by decide) rfl ?_
                          refine G_goto (tgt := 24) hk dX11_findWhole_267 (by decide) ?_
                          have hnot : ¬ (wSub (lv (av S) (y.toNat + 1)) (anp (av S)) x = true ∧ wi ≤ wIs (av S) (lv (av S) (y.toNat + 1)) p x (anp (av S)) ∧ ((wh (av S) (lv (av S) (y.toNat + 1)) p wi sp x).1 = -1 ∨ popc x < popc (wh (av S) (lv (av S) (y.toNat + 1)) p wi sp x).1.toNat ∨ (popc x = popc (wh (av S) (lv (av S) (y.toNat + 1)) p wi sp x).1.toNat ∧ wLo (av S) (lv (av S) (y.toNat + 1)) sp x (anp (av S)) < (wh (av S) (lv (av S) (y.toNat + 1)) p wi sp x).2))) := by
                            rintro ⟨_, q1, q2⟩
                            omega
                          refine ih _ _ _ _ _ ⟨?_, ?_, ?_, ?_⟩
                          · rw [show wh (av S) (lv (av S) (y.toNat + 1)) p wi sp (x + 1) = w1 (av S) (lv (av S) (y.toNat + 1)) p wi sp x (wh (av S) (lv (av S) (y.toNat + 1)) p wi sp x) from rfl]
                            unfold w1
                            rw [if_neg (fun q => hnot q)]
                            simp (decide := true) only [su_app, ↓reduceIte]
                            (try exact f1)
                          · rw [show wh (av S) (lv (av S) (y.toNat + 1)) p wi sp (x + 1) = w1 (av S) (lv (av S) (y.toNat + 1)) p wi sp x (wh (av S) (lv (av S) (y.toNat + 1)) p wi sp x) from rfl]
                            unfold w1
                            rw [if_neg (fun q => hnot q)]
                            simp (decide := true) only [su_app, ↓reduceIte]
                            (try exact f2)
                          · intro c a
                            simp only [su_ne _ a]
                            exact f3 c a
                          · intro i a b
                            simp (decide := true) only [su_app, ↓reduceIte, if_neg a, if_neg b]
                            exact f4 i a b
                        · exact absurd h_249 (by omega)--stop
                      · exact absurd h_231 (by omega)--stop
                    · refine G_iload hk dX11_findWhole_216 rfl ?_
                      refine G_if_eq (tgt := 225) hk dX11_findWhole_218 (by decide) ⟨by omega, by omega⟩ (fun h_218 => ?_) (fun h_218 => ?_)
                      · exact absurd h_218 (by omega)--stop
                      · refine G_iconst hk dX11_findWhole_221 ?_
                        refine G_goto (tgt := 226) hk dX11_findWhole_222 (by decide) ?_
                        refine G_istore hk dX11_findWhole_226 (by decide) rfl ?_
                        refine G_rload_n hk dX11_findWhole_228 rfl ?_
                        refine G_iload hk dX11_findWhole_229 rfl ?_
                        refine G_if_eq (tgt := 239) hk dX11_findWhole_231 (by decide) ⟨by omega, by omega⟩ (fun h_231 => ?_) (fun h_231 => ?_)
                        · exact absurd h_231 (by omega)--stop
                        · refine G_iload hk dX11_findWhole_234 rfl ?_
                          refine G_goto (tgt := 243) hk dX11_findWhole_236 (by decide) ?_
                          refine G_putI hk dX11_findWhole_243 flX11_223 fpX11_26 (by decide) rfl rfl ?_
                          refine G_rload_n hk dX11_findWhole_246 rfl ?_
                          refine G_iload hk dX11_findWhole_247 rfl ?_
                          refine G_if_eq (tgt := 257) hk dX11_findWhole_249 (by decide) ⟨by omega, by omega⟩ (fun h_249 => ?_) (fun h_249 => ?_)
                          · exact absurd h_249 (by omega)--stop
                          · refine G_iload hk dX11_findWhole_252 rfl ?_
                            refine G_goto (tgt := 261) hk dX11_findWhole_254 (by decide) ?_
                            refine G_putI hk dX11_findWhole_261 flX11_226 fpX11_27 (by decide) rfl rfl ?_
                            refine G_iinc hk dX11_findWhole_264 rfl (by decide) rfl ?_
                            refine G_goto (tgt := 24) hk dX11_findWhole_267 (by decide) ?_
                            refine ih _ _ _ _ _ ⟨?_, ?_, ?_, ?_⟩
                            · rw [show wh (av S) (lv (av S) (y.toNat + 1)) p wi sp (x + 1) = w1 (av S) (lv (av S) (y.toNat + 1)) p wi sp x (wh (av S) (lv (av S) (y.toNat + 1)) p wi sp x) from rfl]
                              unfold w1
                              rw [if_pos ⟨hsub, by omega, hfew⟩]
                              simp (decide := true) only [su_app, ↓reduceIte]
                            · rw [show wh (av S) (lv (av S) (y.toNat + 1)) p wi sp (x + 1) = w1 (av S) (lv (av S) (y.toNat + 1)) p wi sp x (wh (av S) (lv (av S) (y.toNat + 1)) p wi sp x) from rfl]
                              unfold w1
                              rw [if_pos ⟨hsub, by omega, hfew⟩]
                              simp (decide := true) only [su_app, ↓reduceIte]
                            · intro c a
                              simp only [su_ne _ a]
                              exact f3 c a
                            · intro i a b
                              simp (decide := true) only [su_app, ↓reduceIte, if_neg a, if_neg b]
                              exact f4 i a b
          · exact absurd h_65 (by omega)--stop
        · intro k hk9 ih2 w10
          have hq := hR.1.1.2.2.2.1 k hk9
          have e5 := hX2.2.1 (2 * k) (by omega)
          have e6 := hX2.2.1 (2 * k + 1) (by omega)
          have eP : S1 51 = aP (av S) := by rw [f3 51 (by decide), hf1.1 51 (by decide) (by decide) (by decide) (by decide) (by decide)]; rfl
          refine G_iload hk dX11_findWhole_59 rfl ?_
          refine G_rload_n hk dX11_findWhole_61 rfl ?_
          refine G_getI hk dX11_findWhole_62 flX11_139 (by decide) rfl rfl ?_
          rw [e10]
          refine G_icmp_ge (tgt := 156) hk dX11_findWhole_65 (by decide) ⟨by omega, by omega⟩ ⟨by omega, by omega⟩ (fun h_65 => ?_) (fun h_65 => ?_)
          · exact absurd h_65 (by omega)--stop
          · refine G_iload hk dX11_findWhole_68 rfl ?_
            refine G_iload hk dX11_findWhole_70 rfl ?_
            refine G_iload hk dX11_findWhole_72 rfl ?_
            refine G_cS2P hk dX11_findWhole_74 msX11_isIn mlX11_216 (Nat.le_of_ble_eq_true rfl) (c_X11_isIn _ Γ (d + 6) _ x k (by omega) (by omega)) ?_
            refine G_bif_eq (tgt := 90) hk dX11_findWhole_77 (by decide) (fun h_77 => ?_) (fun h_77 => ?_)
            · refine G_iconst hk dX11_findWhole_90 ?_
              refine G_iadd hk dX11_findWhole_91 ?_
              refine G_istore hk dX11_findWhole_92 (by decide) rfl ?_
              refine G_iload hk dX11_findWhole_94 rfl ?_
              refine G_iload hk dX11_findWhole_96 rfl ?_
              refine G_iload hk dX11_findWhole_98 rfl ?_
              refine G_cS2P hk dX11_findWhole_100 msX11_isIn mlX11_216 (Nat.le_of_ble_eq_true rfl) (c_X11_isIn _ Γ (d + 6) _ x k (by omega) (by omega)) ?_
              refine G_bif_eq (tgt := 146) hk dX11_findWhole_103 (by decide) (fun h_103 => ?_) (fun h_103 => ?_)
              · refine G_iconst hk dX11_findWhole_146 ?_
                refine G_iadd hk dX11_findWhole_147 ?_
                refine G_istore hk dX11_findWhole_148 (by decide) rfl ?_
                refine G_iinc hk dX11_findWhole_150 rfl (by decide) rfl ?_
                refine G_goto (tgt := 59) hk dX11_findWhole_153 (by decide) ?_
                have e9 : wIs (av S) (lv (av S) (y.toNat + 1)) p x (k + 1) = wIs (av S) (lv (av S) (y.toNat + 1)) p x k + 0 := by
                  unfold wIs
                  simp only [ssm]
                  rw [if_neg h_77]
                  omega
                have e8 : wLo (av S) (lv (av S) (y.toNat + 1)) sp x (k + 1) = wLo (av S) (lv (av S) (y.toNat + 1)) sp x k + 0 := by
                  unfold wLo
                  simp only [ssm]
                  rw [if_neg (fun q => h_103 q.1)]
                rw [← e9, ← e8]
                exact ih2 _
              · exact absurd h_103 h_77--stop
            · have hth : (lv (av S) (y.toNat + 1)).2.2 k = 1 := by
                have h7 := wSub_iff.mp hsub k hk9 h_77
                rw [bsm_tb] at h7
                simpa [hk9] using h7
              have hpk := (hB.2.2 k (by omega)).2.2 (by omega)
              refine G_rload_n hk dX11_findWhole_80 rfl ?_
              refine G_iload_n hk dX11_findWhole_81 rfl ?_
              refine G_iload hk dX11_findWhole_82 rfl ?_
              refine G_cV2P hk dX11_findWhole_84 mvX11_backTo mlX11_229 (by decide) rfl rfl (Nat.le_of_ble_eq_true rfl) (c_X11_backTo _ Γ (d + 3) _ hR2 _ (by rw [eA2]; exact hX2) _ k ⟨by omega, by omega⟩ (by rw [eA2]; exact hk9) (by rw [eA2]; exact hpk.2)) ?_
              rw [eA2]
              refine G_goto (tgt := 91) hk dX11_findWhole_87 (by decide) ?_
              refine G_iadd hk dX11_findWhole_91 ?_
              refine G_istore hk dX11_findWhole_92 (by decide) rfl ?_
              refine G_iload hk dX11_findWhole_94 rfl ?_
              refine G_iload hk dX11_findWhole_96 rfl ?_
              refine G_iload hk dX11_findWhole_98 rfl ?_
              refine G_cS2P hk dX11_findWhole_100 msX11_isIn mlX11_216 (Nat.le_of_ble_eq_true rfl) (c_X11_isIn _ Γ (d + 6) _ x k (by omega) (by omega)) ?_
              refine G_bif_eq (tgt := 146) hk dX11_findWhole_103 (by decide) (fun h_103 => ?_) (fun h_103 => ?_)
              · exact absurd h_77 h_103--stop
              · refine G_rload_n hk dX11_findWhole_106 rfl ?_
                refine G_getR hk dX11_findWhole_107 flX11_28 (by decide) rfl rfl ?_
                refine G_iconst hk dX11_findWhole_110 ?_
                refine G_iload hk dX11_findWhole_111 rfl ?_
                refine G_imul hk dX11_findWhole_113 ?_
                refine G_iconst hk dX11_findWhole_114 ?_
                refine G_iadd hk dX11_findWhole_115 ?_
                refine G_iald hk dX11_findWhole_116 (by decide) rfl (by decide) (by omega) (by omega) ?_
                rw [eP, show (4 * (k : Int) + 3).toNat = 4 * k + 3 by omega]
                refine G_iload hk dX11_findWhole_117 rfl ?_
                refine G_icmp_eq (tgt := 146) hk dX11_findWhole_119 (by decide) ⟨by omega, by omega⟩ ⟨by omega, by omega⟩ (fun h_119 => ?_) (fun h_119 => ?_)
                · refine G_iconst hk dX11_findWhole_146 ?_
                  refine G_iadd hk dX11_findWhole_147 ?_
                  refine G_istore hk dX11_findWhole_148 (by decide) rfl ?_
                  refine G_iinc hk dX11_findWhole_150 rfl (by decide) rfl ?_
                  refine G_goto (tgt := 59) hk dX11_findWhole_153 (by decide) ?_
                  have e9 : wIs (av S) (lv (av S) (y.toNat + 1)) p x (k + 1) = wIs (av S) (lv (av S) (y.toNat + 1)) p x k + bkt (av S) (lv (av S) (y.toNat + 1)) p k := by
                    unfold wIs
                    simp only [ssm]
                    rw [if_pos h_77]
                    omega
                  have e8 : wLo (av S) (lv (av S) (y.toNat + 1)) sp x (k + 1) = wLo (av S) (lv (av S) (y.toNat + 1)) sp x k + 0 := by
                    unfold wLo
                    simp only [ssm]
                    rw [if_neg (fun q => q.2 h_119)]
                  rw [← e9, ← e8]
                  exact ih2 _
                · refine G_rload_n hk dX11_findWhole_122 rfl ?_
                  refine G_getR hk dX11_findWhole_123 flX11_40 (by decide) rfl rfl ?_
                  refine G_iconst hk dX11_findWhole_126 ?_
                  refine G_iload hk dX11_findWhole_127 rfl ?_
                  refine G_imul hk dX11_findWhole_129 ?_
                  refine G_iald hk dX11_findWhole_130 (by decide) rfl (by decide) (by omega) (by omega) ?_
                  rw [show (2 * (k : Int)).toNat = 2 * k by omega, e5]
                  refine G_rload_n hk dX11_findWhole_131 rfl ?_
                  refine G_getR hk dX11_findWhole_132 flX11_40 (by decide) rfl rfl ?_
                  refine G_iconst hk dX11_findWhole_135 ?_
                  refine G_iload hk dX11_findWhole_136 rfl ?_
                  refine G_imul hk dX11_findWhole_138 ?_
                  refine G_iconst hk dX11_findWhole_139 ?_
                  refine G_iadd hk dX11_findWhole_140 ?_
                  refine G_iald hk dX11_findWhole_141 (by decide) rfl (by decide) (by omega) (by omega) ?_
                  rw [show (2 * (k : Int) + 1).toNat = 2 * k + 1 by omega, e6]
                  refine G_iadd hk dX11_findWhole_142 ?_
                  refine G_goto (tgt := 147) hk dX11_findWhole_143 (by decide) ?_
                  refine G_iadd hk dX11_findWhole_147 ?_
                  refine G_istore hk dX11_findWhole_148 (by decide) rfl ?_
                  refine G_iinc hk dX11_findWhole_150 rfl (by decide) rfl ?_
                  refine G_goto (tgt := 59) hk dX11_findWhole_153 (by decide) ?_
                  have e9 : wIs (av S) (lv (av S) (y.toNat + 1)) p x (k + 1) = wIs (av S) (lv (av S) (y.toNat + 1)) p x k + bkt (av S) (lv (av S) (y.toNat + 1)) p k := by
                    unfold wIs
                    simp only [ssm]
                    rw [if_pos h_77]
                    omega
                  have e8 : wLo (av S) (lv (av S) (y.toNat + 1)) sp x (k + 1) = wLo (av S) (lv (av S) (y.toNat + 1)) sp x k + ((lv (av S) (y.toNat + 1)).2.1 (2 * k) + (lv (av S) (y.toNat + 1)).2.1 (2 * k + 1)) := by
                    unfold wLo
                    simp only [ssm]
                    rw [if_pos ⟨h_103, h_119⟩]
                  rw [← e9, ← e8]
                  exact ih2 _

theorem c_X11_wholeOf (l : Launch) (Γ : Ev) (d : Nat) (S : Sx) (hR : RdM S) (y p wi sp w : Int) (hy : 0 ≤ y ∧ y ≤ 29) (hp : 0 ≤ p ∧ p ≤ (aN (av S) : Int) - 1) (hwi : 0 ≤ wi ∧ wi ≤ 99) (hsp : -1 ≤ sp ∧ sp ≤ 3) (hw : R32 w) : Ctr l Γ (d + 8) mX11_wholeOf [rf Γ 44, vI y, vI p, vI wi, vI sp, vI w] S (pI (fun r S2 => r = a_wholeOf (av S) y p wi sp w ∧ S2 44 27 = a_wholeOf (av S) y p wi sp 1 ∧ RdM S2 ∧ frP S S2)) := by
  refine Ctr.of (by decide) rfl rfl (Nat.le_of_ble_eq_true rfl) ?_
  intro κ hl hk hr
  subst hl
  refine G_rload_n hk dX11_wholeOf_0 rfl ?_
  refine G_iload_n hk dX11_wholeOf_1 rfl ?_
  refine G_iload_n hk dX11_wholeOf_2 rfl ?_
  refine G_iload_n hk dX11_wholeOf_3 rfl ?_
  refine G_iload hk dX11_wholeOf_4 rfl ?_
  refine G_cV4V hk dX11_wholeOf_6 mvX11_findWhole mlX11_235 (by decide) rfl rfl (Nat.le_of_ble_eq_true rfl) (c_X11_findWhole _ Γ (d + 0) _ hR _ _ _ _ hy hp hwi hsp) (fun S_6 hp_6 => ?_)
  obtain ⟨g1, g2, hR1, hf1⟩ := hp_6
  refine G_iload hk dX11_wholeOf_9 rfl ?_
  refine G_if_ne (tgt := 21) hk dX11_wholeOf_11 (by decide) ⟨by omega, by omega⟩ (fun h_11 => ?_) (fun h_11 => ?_)
  · refine G_rload_n hk dX11_wholeOf_21 rfl ?_
    refine G_getI hk dX11_wholeOf_22 flX11_226 (by decide) rfl rfl ?_
    rw [g2]
    exact G_iret hk hr dX11_wholeOf_25 ⟨by unfold a_wholeOf; rw [if_neg h_11], by rw [g2]; rfl, hR1, hf1⟩
  · refine G_rload_n hk dX11_wholeOf_14 rfl ?_
    refine G_getI hk dX11_wholeOf_15 flX11_223 (by decide) rfl rfl ?_
    rw [g1]
    refine G_goto (tgt := 25) hk dX11_wholeOf_18 (by decide) ?_
    exact G_iret hk hr dX11_wholeOf_25 ⟨by unfold a_wholeOf; rw [if_pos h_11], by rw [g2]; rfl, hR1, hf1⟩

theorem c_X11_whole (l : Launch) (Γ : Ev) (d : Nat) (S : Sx) (hI : InvM S) (y p wi sp w : Int) (h_y : R32 y) (h_p : R32 p) (h_wi : R32 wi) (h_sp : R32 sp) (h_w : R32 w) : Ctr l Γ (d + 9) mX11_whole [rf Γ 44, vI y, vI p, vI wi, vI sp, vI w] S (pI (fun r S2 => r = a_whole (av S) y p wi sp w ∧ frQ S S2)) := by
  refine Ctr.of (by decide) rfl rfl (Nat.le_of_ble_eq_true rfl) ?_
  intro κ hl hk hr
  subst hl
  refine G_rload_n hk dX11_whole_0 rfl ?_
  refine G_cV0I hk dX11_whole_1 mvX11_reads mlX11_113 (by decide) rfl rfl (Nat.le_of_ble_eq_true rfl) (c_rd hI) (fun r_1 S_1 hp_1 => ?_)
  obtain ⟨hr0, hR, hq⟩ := hp_1
  have eQ := av_frQ hq
  have e8 : S_1 44 8 = (aN (av S) : Int) := by rw [hR.2.1, eQ]
  have n8 := aN_8 hI.1
  refine G_pop hk dX11_whole_4 rfl ?_
  refine G_iload_n hk dX11_whole_5 rfl ?_
  refine G_cS1P hk dX11_whole_6 msX11_isYear mlX11_130 (Nat.le_of_ble_eq_true rfl) (c_X11_isYear _ Γ (d + 7) _ _ ⟨by omega, by omega⟩) ?_
  refine G_bif_eq (tgt := 59) hk dX11_whole_9 (by decide) (fun h_9 => ?_) (fun h_9 => ?_)
  · refine G_iconst hk dX11_whole_59 ?_
    refine G_istore hk dX11_whole_60 (by decide) rfl ?_
    refine G_iload hk dX11_whole_62 rfl ?_
    refine G_if_eq (tgt := 81) hk dX11_whole_64 (by decide) ⟨by omega, by omega⟩ (fun h_64 => ?_) (fun h_64 => ?_)
    · refine G_bipush hk dX11_whole_81 (by decide) ?_
      exact G_iret hk hr dX11_whole_83 ⟨by unfold a_whole; (repeat' split) <;> first | (exfalso; omega) | rfl, hq⟩
    · exact absurd h_64 (by omega)--stop
  · refine G_rload_n hk dX11_whole_12 rfl ?_
    refine G_iload_n hk dX11_whole_13 rfl ?_
    refine G_cV1P hk dX11_whole_14 mvX11_isPerson mlX11_121 (by decide) rfl rfl (Nat.le_of_ble_eq_true rfl) (c_X11_isPerson _ Γ (d + 7) _ _ ⟨by omega, by omega⟩ ⟨by omega, by omega⟩) ?_
    refine G_bif_eq (tgt := 59) hk dX11_whole_17 (by decide) (fun h_17 => ?_) (fun h_17 => ?_)
    · refine G_iconst hk dX11_whole_59 ?_
      refine G_istore hk dX11_whole_60 (by decide) rfl ?_
      refine G_iload hk dX11_whole_62 rfl ?_
      refine G_if_eq (tgt := 81) hk dX11_whole_64 (by decide) ⟨by omega, by omega⟩ (fun h_64 => ?_) (fun h_64 => ?_)
      · refine G_bipush hk dX11_whole_81 (by decide) ?_
        exact G_iret hk hr dX11_whole_83 ⟨by unfold a_whole; (repeat' split) <;> first | (exfalso; omega) | rfl, hq⟩
      · exact absurd h_64 (by omega)--stop
    · refine G_iload_n hk dX11_whole_20 rfl ?_
      refine G_i2l hk dX11_whole_21 ⟨by omega, by omega⟩ ?_
      refine G_lconst (z := 0) hk dX11_whole_22 (by decide) ?_
      refine G_ldc2 (z := (99)) hk dX11_whole_23 kcX11_147 (by decide) ?_
      refine G_cS3P hk dX11_whole_26 msX11_in mlX11_64 (Nat.le_of_ble_eq_true rfl) (c_X11_in _ Γ (d + 8) _ _ _ _ ⟨by omega, by omega⟩ ⟨by omega, by omega⟩ ⟨by omega, by omega⟩) ?_
      refine G_bif_eq (tgt := 59) hk dX11_whole_29 (by decide) (fun h_29 => ?_) (fun h_29 => ?_)
      · refine G_iconst hk dX11_whole_59 ?_
        refine G_istore hk dX11_whole_60 (by decide) rfl ?_
        refine G_iload hk dX11_whole_62 rfl ?_
        refine G_if_eq (tgt := 81) hk dX11_whole_64 (by decide) ⟨by omega, by omega⟩ (fun h_64 => ?_) (fun h_64 => ?_)
        · refine G_bipush hk dX11_whole_81 (by decide) ?_
          exact G_iret hk hr dX11_whole_83 ⟨by unfold a_whole; (repeat' split) <;> first | (exfalso; omega) | rfl, hq⟩
        · exact absurd h_64 (by omega)--stop
      · refine G_iload hk dX11_whole_32 rfl ?_
        refine G_i2l hk dX11_whole_34 ⟨by omega, by omega⟩ ?_
        refine G_ldc2 (z := (-1)) hk dX11_whole_35 kcX11_149 (by decide) ?_
        refine G_ldc2 (z := (3)) hk dX11_whole_38 kcX11_71 (by decide) ?_
        refine G_cS3P hk dX11_whole_41 msX11_in mlX11_64 (Nat.le_of_ble_eq_true rfl) (c_X11_in _ Γ (d + 8) _ _ _ _ ⟨by omega, by omega⟩ ⟨by omega, by omega⟩ ⟨by omega, by omega⟩) ?_
        refine G_bif_eq (tgt := 59) hk dX11_whole_44 (by decide) (fun h_44 => ?_) (fun h_44 => ?_)
        · refine G_iconst hk dX11_whole_59 ?_
          refine G_istore hk dX11_whole_60 (by decide) rfl ?_
          refine G_iload hk dX11_whole_62 rfl ?_
          refine G_if_eq (tgt := 81) hk dX11_whole_64 (by decide) ⟨by omega, by omega⟩ (fun h_64 => ?_) (fun h_64 => ?_)
          · refine G_bipush hk dX11_whole_81 (by decide) ?_
            exact G_iret hk hr dX11_whole_83 ⟨by unfold a_whole; (repeat' split) <;> first | (exfalso; omega) | rfl, hq⟩
          · exact absurd h_64 (by omega)--stop
        · refine G_iload hk dX11_whole_47 rfl ?_
          refine G_cS1P hk dX11_whole_49 msX11_isTwo mlX11_124 (Nat.le_of_ble_eq_true rfl) (c_X11_isTwo _ Γ (d + 7) _ _ ⟨by omega, by omega⟩) ?_
          refine G_bif_eq (tgt := 59) hk dX11_whole_52 (by decide) (fun h_52 => ?_) (fun h_52 => ?_)
          · refine G_iconst hk dX11_whole_59 ?_
            refine G_istore hk dX11_whole_60 (by decide) rfl ?_
            refine G_iload hk dX11_whole_62 rfl ?_
            refine G_if_eq (tgt := 81) hk dX11_whole_64 (by decide) ⟨by omega, by omega⟩ (fun h_64 => ?_) (fun h_64 => ?_)
            · refine G_bipush hk dX11_whole_81 (by decide) ?_
              exact G_iret hk hr dX11_whole_83 ⟨by unfold a_whole; (repeat' split) <;> first | (exfalso; omega) | rfl, hq⟩
            · exact absurd h_64 (by omega)--stop
          · refine G_iconst hk dX11_whole_55 ?_
            refine G_goto (tgt := 60) hk dX11_whole_56 (by decide) ?_
            refine G_istore hk dX11_whole_60 (by decide) rfl ?_
            refine G_iload hk dX11_whole_62 rfl ?_
            refine G_if_eq (tgt := 81) hk dX11_whole_64 (by decide) ⟨by omega, by omega⟩ (fun h_64 => ?_) (fun h_64 => ?_)
            · exact absurd h_64 (by omega)--stop
            · refine G_rload_n hk dX11_whole_67 rfl ?_
              refine G_iload_n hk dX11_whole_68 rfl ?_
              refine G_iload_n hk dX11_whole_69 rfl ?_
              refine G_iload_n hk dX11_whole_70 rfl ?_
              refine G_iload hk dX11_whole_71 rfl ?_
              refine G_iload hk dX11_whole_73 rfl ?_
              refine G_cV5I hk dX11_whole_75 mvX11_wholeOf mlX11_239 (by decide) rfl rfl (Nat.le_of_ble_eq_true rfl) (c_X11_wholeOf _ Γ (d + 0) _ hR _ _ _ _ _ ⟨by omega, by omega⟩ (by rw [eQ]; exact ⟨by omega, by omega⟩) ⟨by omega, by omega⟩ ⟨by omega, by omega⟩ ⟨by omega, by omega⟩) (fun r_75 S_75 hp_75 => ?_)
              refine G_goto (tgt := 83) hk dX11_whole_78 (by decide) ?_
              exact G_iret hk hr dX11_whole_83 ⟨by unfold a_whole; rw [hp_75.1, eQ]; (repeat' split) <;> first | (exfalso; omega) | rfl, frQ_t hq (frQ_P hp_75.2.2.2)⟩
