/-! the class's prices -/
theorem ClE_lo {S S2 : Sx} {A : Av} (h : ClE S A) (g : ∀ c, c ≤ 16 → S2 c = S c) : ClE S2 A :=
  ⟨h.1, PeR_cong h.2.1 (g _ (by decide)) (g _ (by decide)) (g _ (by decide)) (g _ (by decide)), PiR_cong h.2.2.1 (fun c _ hc => g c (by omega)), BuR_cong h.2.2.2 (fun c _ hc => g c (by omega))⟩
theorem Yr_lo {A : Av} {ot os b : Int} {X : Sim} {y8 y9 : Nat} {S S2 : Sx} (h : Yr A ot os b X y8 y9 S) (g : ∀ c, c ≤ 20 → S2 c = S c) : Yr A ot os b X y8 y9 S2 := by
  obtain ⟨h1, h2, h3, h5, h7, h9, h10⟩ := h
  refine ⟨?_, ClE_lo h2 (fun c hc => g c (by omega)), ?_, ?_, ?_, h9, h10⟩
  · unfold CrS
    rw [g 17 (by decide), g 18 (by decide), g 19 (by decide), g 20 (by decide)]
    exact h1
  · rw [g 17 (by decide)]; exact h3
  · rw [g 17 (by decide), g 8 (by decide)]; exact h5
  · rw [g 17 (by decide), g 15 (by decide)]; exact h7
theorem pow_i (k : Nat) : (1 : Int) * 2 ^ ((k : Int)).toNat = ((2 ^ k : Nat) : Int) := by
  rw [show ((k : Int)).toNat = k from rfl, Int.one_mul, Int.natCast_pow]; rfl
theorem cst_y {A : Av} {X : Sim} {sp : Int} {k : Nat} (h : aP A (4 * k + 3) = sp) : 1048576 + 0 * 4096 + 1 * 2 ^ ((k : Int)).toNat = cst A X sp k := by
  unfold cst
  rw [if_pos h, pow_i]
theorem cst_n {A : Av} {X : Sim} {sp : Int} {k : Nat} (h : ¬ aP A (4 * k + 3) = sp) : 1048576 + (X.2.1 (2 * k) + X.2.1 (2 * k + 1)) * 4096 + 1 * 2 ^ ((k : Int)).toNat = cst A X sp k := by
  unfold cst
  rw [if_neg h, pow_i]
def ofS (S : Sx) (g c : Int) : Sx := if 0 < g then sr S 22 (ofr (S 22) g c) else S
def ofP (S : Sx) (g c : Int) (u : Nat) : Sx := sr S 22 (fun j => if 99 < j + u ∧ j ≤ 99 then ofr (S 22) g c j else S 22 j)
theorem ofP_0 (S : Sx) (g c : Int) : ofP S g c 0 = S := by
  unfold ofP
  rw [show (fun j => if 99 < j + 0 ∧ j ≤ 99 then ofr (S 22) g c j else S 22 j) = S 22 from funext (fun j => by rw [if_neg (by omega)]), sr_self]
theorem ofP_99 (S : Sx) (g c : Int) : ofP S g c 99 = sr S 22 (ofr (S 22) g c) := by
  unfold ofP
  congr 1
  funext j
  split
  · rfl
  · next h =>
    unfold ofr
    rw [if_neg (by omega)]
theorem ofP_lo (S : Sx) (g c : Int) {u j : Nat} (h : j + u ≤ 99) : ofP S g c u 22 j = S 22 j := by
  unfold ofP
  rw [sr_at, if_neg (by omega)]
theorem ofP_s (S : Sx) (g c : Int) {u j : Nat} (h : j + u = 99) (hj : 0 < j) : su (ofP S g c u) 22 j (lsr (S 22 j) (S 22 (j - g.toNat) + c)) = ofP S g c (u + 1) := by
  unfold ofP
  rw [sr_su]
  congr 1
  funext i
  by_cases e : i = j
  · rw [if_pos e, if_pos (by omega), e]
    unfold ofr
    rw [if_pos (by omega)]
  · rw [if_neg e]
    by_cases q : 99 < i + u ∧ i ≤ 99
    · rw [if_pos q, if_pos (by omega)]
    · rw [if_neg q, if_neg (by omega)]

theorem c_X6_offer (l : Launch) (Γ : Ev) (d : Nat) (S : Sx) (g c : Int) (hg : 0 ≤ g ∧ g ≤ 9) (hc : 0 ≤ c ∧ c ≤ 1126400) (hr22 : ∀ w, w ≤ 99 → 0 ≤ S 22 w ∧ S 22 w ≤ 268435456) : Ctr l Γ (d + 1) mX6_offer [rf Γ 21, vI g, vI c] S (pV (fun S2 => S2 = ofS S g c)) := by
  refine Ctr.of (by decide) rfl rfl (Nat.le_of_ble_eq_true rfl) ?_
  intro κ hl hk hr
  subst hl
  refine G_iload_n hk dX6_offer_0 rfl ?_
  refine G_if_gt (tgt := 5) hk dX6_offer_1 (by decide) ⟨by omega, by omega⟩ (fun h_1 => ?_) (fun h_1 => ?_)
  · refine G_bipush hk dX6_offer_5 (by decide) ?_
    refine G_istore_n hk dX6_offer_7 (by decide) rfl ?_
    have lp := loop_up (P := fun u => ∀ q4 : Option Value, GW κ Γ 8 [some (rf Γ 21), some (vI g), some (vI c), some (vI (99 - (u : Int))), q4] [] (wl Γ (ofP S g c u))) 99 ?_ ?_ 0 (Nat.zero_le _) none
    · rw [ofP_0] at lp
      exact GW_L rfl lp
    · intro q4
      refine G_iload_n hk dX6_offer_8 rfl ?_
      refine G_if_le (tgt := 51) hk dX6_offer_9 (by decide) ⟨by omega, by omega⟩ (fun h_9 => ?_) (fun h_9 => ?_)
      · exact G_vret hk hr dX6_offer_51 (by unfold ofS; rw [if_pos h_1]; exact ofP_99 S g c)
      · exact absurd h_9 (by omega)--stop
    · intro u hu ih q4
      have r1 := hr22 (99 - u) (by omega)
      have r2 := hr22 (99 - u - g.toNat) (by omega)
      refine G_iload_n hk dX6_offer_8 rfl ?_
      refine G_if_le (tgt := 51) hk dX6_offer_9 (by decide) ⟨by omega, by omega⟩ (fun h_9 => ?_) (fun h_9 => ?_)
      · exact absurd h_9 (by omega)--stop
      · refine G_rload_n hk dX6_offer_12 rfl ?_
        refine G_getR hk dX6_offer_13 flX6_9 (by decide) rfl rfl ?_
        refine G_iload_n hk dX6_offer_16 rfl ?_
        refine G_iload_n hk dX6_offer_17 rfl ?_
        refine G_isub hk dX6_offer_18 ?_
        refine G_iconst hk dX6_offer_19 ?_
        refine G_cS2P hk dX6_offer_20 msJ9_max_7cf53 mlX6_21 (Nat.le_of_ble_eq_true rfl) (c_J9_max _ Γ (d + 0) _ _ _ ⟨by omega, by omega⟩ ⟨by omega, by omega⟩) ?_
        rw [show (if 99 - (u : Int) - g < 0 then 0 else 99 - (u : Int) - g) = ((99 - u - g.toNat : Nat) : Int) by split <;> omega]
        refine G_iald hk dX6_offer_23 (by decide) rfl (by decide) (by omega) (by omega) ?_
        rw [show (((99 - u - g.toNat : Nat) : Int)).toNat = 99 - u - g.toNat from rfl, ofP_lo S g c (by omega)]
        refine G_istore hk dX6_offer_24 (by decide) rfl ?_
        refine G_rload_n hk dX6_offer_26 rfl ?_
        refine G_getR hk dX6_offer_27 flX6_9 (by decide) rfl rfl ?_
        refine G_iload_n hk dX6_offer_30 rfl ?_
        refine G_rload_n hk dX6_offer_31 rfl ?_
        refine G_getR hk dX6_offer_32 flX6_9 (by decide) rfl rfl ?_
        refine G_iload_n hk dX6_offer_35 rfl ?_
        refine G_iald hk dX6_offer_36 (by decide) rfl (by decide) (by omega) (by omega) ?_
        rw [show (99 - (u : Int)).toNat = 99 - u by omega, ofP_lo S g c (by omega)]
        refine G_iload hk dX6_offer_37 rfl ?_
        refine G_iload_n hk dX6_offer_39 rfl ?_
        refine G_iadd hk dX6_offer_40 ?_
        refine G_cS2P hk dX6_offer_41 msJ9_min_7cf53 mlX6_56 (Nat.le_of_ble_eq_true rfl) (c_J9_min _ Γ (d + 0) _ _ _ ⟨by omega, by omega⟩ ⟨by omega, by omega⟩) ?_
        rw [min_lsr]
        refine G_iast hk dX6_offer_44 (by decide) rfl (by decide) (by omega) (by omega) ?_
        refine G_iinc hk dX6_offer_45 rfl (by decide) rfl ?_
        refine G_goto (tgt := 8) hk dX6_offer_48 (by decide) ?_
        have h9 := ih (some (vI (S 22 (99 - u - g.toNat))))
        rw [← ofP_s S g c (show 99 - u + u = 99 by omega) (by omega), show 99 - ((u + 1 : Nat) : Int) = 99 - (u : Int) + -1 by omega] at h9
        rw [show (99 - (u : Int)).toNat = 99 - u by omega]
        exact h9
  · exact G_vret hk hr dX6_offer_4 (by unfold ofS; rw [if_neg h_1])

theorem c_X6_burntBits (l : Launch) (Γ : Ev) (d : Nat) (S : Sx) (c m u : Nat) (hc : c ≤ 12) (hm : m < 4096) (hu : u < 256) (h : S 21 1 = 1048576 * (c : Int) + 4096 * (u : Int) + (m : Int)) : Ctr l Γ d mX6_burntBits [rf Γ 21] S (pP S (m : Int)) := by
  refine Ctr.of (by decide) rfl rfl (Nat.le_of_ble_eq_true rfl) ?_
  intro κ hl hk hr
  subst hl
  refine G_rload_n hk dX6_burntBits_0 rfl ?_
  refine G_getI hk dX6_burntBits_1 flX6_52 (by decide) rfl rfl ?_
  refine G_sipush hk dX6_burntBits_4 (by decide) ?_
  refine G_iand hk dX6_burntBits_7 ?_
  exact G_iret hk hr dX6_burntBits_8 ⟨by
  rw [h, show 1048576 * (c : Int) + 4096 * (u : Int) + (m : Int) = ((1048576 * c + 4096 * u + m : Nat) : Int) by omega, show (4095 : Int) = ((4095 : Nat) : Int) from rfl, zand_nn (by omega), show 4095 = 2 ^ 12 - 1 from rfl, Nat.and_two_pow_sub_one_eq_mod]
  omega, rfl⟩

theorem c_X6_loss (l : Launch) (Γ : Ev) (d : Nat) (S : Sx) (c m u : Nat) (hc : c ≤ 12) (hm : m < 4096) (hu : u < 256) (h : S 21 1 = 1048576 * (c : Int) + 4096 * (u : Int) + (m : Int)) : Ctr l Γ d mX6_loss [rf Γ 21] S (pP S (u : Int)) := by
  refine Ctr.of (by decide) rfl rfl (Nat.le_of_ble_eq_true rfl) ?_
  intro κ hl hk hr
  subst hl
  refine G_rload_n hk dX6_loss_0 rfl ?_
  refine G_getI hk dX6_loss_1 flX6_52 (by decide) rfl rfl ?_
  refine G_bipush hk dX6_loss_4 (by decide) ?_
  refine G_ishr hk dX6_loss_6 (by omega) (by omega) (by omega) (by omega) ?_
  refine G_sipush hk dX6_loss_7 (by decide) ?_
  refine G_iand hk dX6_loss_10 ?_
  exact G_iret hk hr dX6_loss_11 ⟨by
  rw [h, show (1048576 * (c : Int) + 4096 * (u : Int) + (m : Int)) / 2 ^ ((12 : Int)).toNat = ((256 * c + u : Nat) : Int) by rw [show (2 : Int) ^ ((12 : Int)).toNat = 4096 from rfl]; omega, show (255 : Int) = ((255 : Nat) : Int) from rfl, zand_nn (by omega), show 255 = 2 ^ 8 - 1 from rfl, Nat.and_two_pow_sub_one_eq_mod]
  omega, rfl⟩

theorem c_X6_plan (l : Launch) (Γ : Ev) (d : Nat) (S : Sx) (A : Av) (ot os b : Int) (X : Sim) (y8 y9 : Nat) (hY : Yr A ot os b X y8 y9 S) (hb : b ≤ 1000000) (p wi sp : Int) (hp : 0 ≤ p ∧ p ≤ (aN A : Int) - 1) (hwi : 0 ≤ wi ∧ wi ≤ 99) (hsp : -1 ≤ sp ∧ sp ≤ 3) : Ctr l Γ (d + 3) mX6_plan [rf Γ 21, rf Γ 17, vI p, vI wi, vI sp] S (pI (fun r S2 => ((wh A X p wi sp (2 ^ anp A) = (-1, -1) ∧ r = 0) ∨ (∃ c m u : Nat, c ≤ 12 ∧ m < 4096 ∧ u < 256 ∧ r = 1 ∧ S2 21 1 = 1048576 * (c : Int) + 4096 * (u : Int) + (m : Int) ∧ wh A X p wi sp (2 ^ anp A) = ((m : Int), (u : Int)))) ∧ (∀ c, c ≠ 21 → c ≠ 22 → S2 c = S c))) := by
  refine Ctr.of (by decide) rfl rfl (Nat.le_of_ble_eq_true rfl) ?_
  intro κ hl hk hr
  subst hl
  have hC := hY.2.1
  have hX := hY.1
  have hB := hY.2.2.2.2.2.1
  have hnp : ∀ k, k < 12 → X.2.2 k ≠ 0 → k < anp A := fun k h5 h6 => (hY.2.2.2.2.2.2 k h5 h6).1
  have hst : ∀ k, k < 12 → 0 ≤ X.2.2 k ∧ X.2.2 k ≤ 2 := fun k h5 => ⟨(hB.2.2 k h5).1, (hB.2.2 k h5).2.1⟩
  obtain ⟨h15, n8, h62, n12, -, -⟩ := cl_n hC
  have sb := hB.1 p.toNat (by omega)
  refine G_iload_n hk dX6_plan_0 rfl ?_
  refine G_rload_n hk dX6_plan_1 rfl ?_
  refine G_iload_n hk dX6_plan_2 rfl ?_
  refine G_cV1P hk dX6_plan_3 mvX3_solidOf mlX6_15 (by decide) rfl rfl (Nat.le_of_ble_eq_true rfl) (c_X3_solidOf _ Γ (d + 1) _ _ ⟨by omega, by omega⟩ ⟨by omega, by omega⟩) ?_
  rw [if_pos (by omega), hX.1 p.toNat (by omega)]
  refine G_isub hk dX6_plan_6 ?_
  refine G_iconst hk dX6_plan_7 ?_
  refine G_cS2P hk dX6_plan_8 msJ9_max_7cf53 mlX6_21 (Nat.le_of_ble_eq_true rfl) (c_J9_max _ Γ (d + 2) _ _ _ ⟨by omega, by omega⟩ ⟨by omega, by omega⟩) ?_
  obtain ⟨w, hw⟩ : ∃ w : Nat, (w : Int) = if wi - X.1 p.toNat < 0 then 0 else wi - X.1 p.toNat := ⟨(if wi - X.1 p.toNat < 0 then 0 else wi - X.1 p.toNat).toNat, Int.toNat_of_nonneg (by split <;> omega)⟩
  have w99 : w ≤ 99 := by split at hw <;> omega
  rw [← hw]
  refine G_istore hk dX6_plan_11 (by decide) rfl ?_
  refine G_iload hk dX6_plan_13 rfl ?_
  refine G_bipush hk dX6_plan_15 (by decide) ?_
  refine G_icmp_le (tgt := 22) hk dX6_plan_17 (by decide) ⟨by omega, by omega⟩ ⟨by omega, by omega⟩ (fun h_17 => ?_) (fun h_17 => ?_)
  · refine G_rload_n hk dX6_plan_22 rfl ?_
    refine G_getR hk dX6_plan_23 flX6_9 (by decide) rfl rfl ?_
    refine G_ldc (z := (268435456)) hk dX6_plan_26 kcX6_27 (by decide) ?_
    refine G_cS2V hk dX6_plan_28 msJ7_fill_53178 mlX6_28 (Nat.le_of_ble_eq_true rfl) (c_fillI _ Γ (d + 2) _ 22 100 (by decide) rfl (by decide) _) (fun S_28 hp_28 => ?_)
    refine G_rload_n hk dX6_plan_31 rfl ?_
    refine G_getR hk dX6_plan_32 flX6_9 (by decide) rfl rfl ?_
    refine G_iconst hk dX6_plan_35 ?_
    refine G_iconst hk dX6_plan_36 ?_
    refine G_iast hk dX6_plan_37 (by decide) rfl (by decide) (by omega) (by omega) ?_
    refine G_iconst hk dX6_plan_38 ?_
    refine G_istore hk dX6_plan_39 (by decide) rfl ?_
    have lp := loop_up (P := fun k => ∀ (S1 : Sx) (q7 : Option Value), ((∀ c, c ≠ 22 → S1 c = S c) ∧ DPk A X p sp k (S1 22)) → GW κ Γ 41 [some (rf Γ 21), some (rf Γ 17), some (vI p), some (vI wi), some (vI sp), some (vI (w : Int)), some (vI (k : Int)), q7] [] (wl Γ S1)) 12 ?_ ?_ 0 (Nat.zero_le _)
    · refine GW_L rfl (lp _ none ⟨fun c hc => by rw [su_ne _ hc, hp_28, fl_ne hc], DP_0 ?_ ?_⟩)
      · rw [show ((0 : Int)).toNat = 0 from rfl, su_at]
      · intro w1 a1 a2
        rw [show ((0 : Int)).toNat = 0 from rfl, su_nk _ _ _ (by omega), hp_28, fl_at (by omega)]
    · intro S1 q7 ⟨hf, hD⟩
      have hres := resc hB n12 hnp hD w99 hw
      have rw9 := DP_r hB (Nat.le_refl 12) hD w w99
      refine G_iload hk dX6_plan_41 rfl ?_
      refine G_bipush hk dX6_plan_43 (by decide) ?_
      refine G_icmp_ge (tgt := 110) hk dX6_plan_45 (by decide) ⟨by omega, by omega⟩ ⟨by omega, by omega⟩ (fun h_45 => ?_) (fun h_45 => ?_)
      · refine G_rload_n hk dX6_plan_110 rfl ?_
        refine G_rload_n hk dX6_plan_111 rfl ?_
        refine G_getR hk dX6_plan_112 flX6_9 (by decide) rfl rfl ?_
        refine G_iload hk dX6_plan_115 rfl ?_
        refine G_iald hk dX6_plan_117 (by decide) rfl (by decide) (by omega) (by omega) ?_
        rw [show ((w : Int)).toNat = w from rfl]
        refine G_putI hk dX6_plan_118 flX6_52 fpX6_1 (by decide) rfl rfl ?_
        refine G_rload_n hk dX6_plan_121 rfl ?_
        refine G_getI hk dX6_plan_122 flX6_52 (by decide) rfl rfl ?_
        try simp (decide := true) only [su_app, sr_app, ↓reduceIte]
        refine G_ldc (z := (268435456)) hk dX6_plan_125 kcX6_27 (by decide) ?_
        refine G_icmp_ge (tgt := 134) hk dX6_plan_127 (by decide) ⟨by omega, by omega⟩ ⟨by omega, by omega⟩ (fun h_127 => ?_) (fun h_127 => ?_)
        · refine G_iconst hk dX6_plan_134 ?_
          exact G_zret hk hr dX6_plan_135 (by decide) ⟨by
      rcases hres with g | ⟨c, m, u, g1, g2, g3, g4, g5⟩
      · exact Or.inl ⟨g.2, rfl⟩
      · exfalso; omega, fun c c1 c2 => by rw [su_ne _ c1]; exact hf c c2⟩
        · refine G_iconst hk dX6_plan_130 ?_
          refine G_goto (tgt := 135) hk dX6_plan_131 (by decide) ?_
          exact G_zret hk hr dX6_plan_135 (by decide) ⟨by
      rcases hres with g | ⟨c, m, u, g1, g2, g3, g4, g5⟩
      · exfalso; omega
      · exact Or.inr ⟨c, m, u, g1, g2, g3, rfl, by rw [su_at]; exact g4, g5⟩, fun c c1 c2 => by rw [su_ne _ c1]; exact hf c c2⟩
      · exact absurd h_45 (by omega)--stop
    · intro k hk9 ih S1 q7 ⟨hf, hD⟩
      have hY1 := Yr_lo hY (fun c hc => hf c (by omega))
      have hC1 := hY1.2.1
      have hX1 := hY1.1
      have q5 := (cl_n hC1).2.2.1
      have rr := DP_r hB (show k ≤ 12 by omega) hD
      have cb := cst_bd hB sp hk9
      have gb := bkt_bd hB (p := p) hk9
      have t1 := hB.2.1 (2 * k) (by omega)
      have t2 := hB.2.1 (2 * k + 1) (by omega)
      refine G_iload hk dX6_plan_41 rfl ?_
      refine G_bipush hk dX6_plan_43 (by decide) ?_
      refine G_icmp_ge (tgt := 110) hk dX6_plan_45 (by decide) ⟨by omega, by omega⟩ ⟨by omega, by omega⟩ (fun h_45 => ?_) (fun h_45 => ?_)
      · exact absurd h_45 (by omega)--stop
      · refine G_rload_n hk dX6_plan_48 rfl ?_
        refine G_iload hk dX6_plan_49 rfl ?_
        refine G_cV1P hk dX6_plan_51 mvX3_isThere mlX6_34 (by decide) rfl rfl (Nat.le_of_ble_eq_true rfl) (c_X3_isThere _ Γ (d + 1) _ _ X hX1 hst _ ⟨by omega, by omega⟩) ?_
        refine G_bif_eq (tgt := 104) hk dX6_plan_54 (by decide) (fun h_54 => ?_) (fun h_54 => ?_)
        · refine G_iinc hk dX6_plan_104 rfl (by decide) rfl ?_
          refine G_goto (tgt := 41) hk dX6_plan_107 (by decide) ?_
          exact ih _ _ ⟨hf, DP_skip hD (fun g => h_54 ⟨by omega, by omega, g⟩)⟩
        · have h1k : X.2.2 k = 1 := h_54.2.2
          have h1n := hnp k hk9 (by rw [h1k]; decide)
          have d3 := hC.1.2.2.2.1 k h1n
          have pp := (hB.2.2 k hk9).2.2 (by rw [h1k]; decide)
          refine G_rload_n hk dX6_plan_57 rfl ?_
          refine G_iload hk dX6_plan_58 rfl ?_
          refine G_cV1P hk dX6_plan_60 mvX3_drawerOf mlX6_38 (by decide) rfl rfl (Nat.le_of_ble_eq_true rfl) (c_X3_drawerOf _ Γ (d + 0) _ _ ⟨by omega, by omega⟩ ⟨by omega, by omega⟩) ?_
          rw [if_pos (by omega), show ((k : Int)).toNat = k from rfl, (hC1.2.2.1.2 k h1n).2.2]
          refine G_iload hk dX6_plan_63 rfl ?_
          refine G_icmp_ne (tgt := 72) hk dX6_plan_65 (by decide) ⟨by omega, by omega⟩ ⟨by omega, by omega⟩ (fun h_65 => ?_) (fun h_65 => ?_)
          · refine G_rload_n hk dX6_plan_72 rfl ?_
            refine G_iload hk dX6_plan_73 rfl ?_
            refine G_cV1P hk dX6_plan_75 mvX3_tookOfBoth mlX6_41 (by decide) rfl rfl (Nat.le_of_ble_eq_true rfl) (c_X3_tookOfBoth _ Γ (d + 0) _ _ ⟨by omega, by omega⟩) ?_
            rw [show ((k : Int)).toNat = k from rfl, (hX1.2.1 k hk9).1, (hX1.2.1 k hk9).2]
            refine G_istore hk dX6_plan_78 (by decide) rfl ?_
            refine G_rload_n hk dX6_plan_80 rfl ?_
            refine G_rload_n hk dX6_plan_81 rfl ?_
            refine G_iload_n hk dX6_plan_82 rfl ?_
            refine G_iload hk dX6_plan_83 rfl ?_
            refine G_cV2P hk dX6_plan_85 mvX3_giftTo mlX6_44 (by decide) rfl rfl (Nat.le_of_ble_eq_true rfl) (c_X3_giftTo _ Γ (d + 0) _ A hC1 p ⟨by omega, by omega⟩ _ k rfl h1n pp.2) ?_
            rw [show (if aP A (4 * k + 1) = p then S1 19 k else if aTw A (aP A (4 * k + 1)).toNat = p then S1 20 k else 0) = bkt A X p k by rw [(hX1.2.1 k hk9).1, (hX1.2.1 k hk9).2]; rfl]
            refine G_ldc (z := (1048576)) hk dX6_plan_88 kcX6_47 (by decide) ?_
            refine G_iload hk dX6_plan_90 rfl ?_
            refine G_bipush hk dX6_plan_92 (by decide) ?_
            refine G_ishl hk dX6_plan_94 (by omega) (by rw [show (2 : Int) ^ ((12 : Int)).toNat = 4096 from rfl]; omega) (by omega) (by omega) ?_
            rw [show (2 : Int) ^ ((12 : Int)).toNat = 4096 from rfl]
            refine G_iadd hk dX6_plan_95 ?_
            refine G_iconst hk dX6_plan_96 ?_
            refine G_iload hk dX6_plan_97 rfl ?_
            refine G_ishl hk dX6_plan_99 (by omega) (shl_ok (by omega)) (by omega) (by omega) ?_
            refine G_iadd hk dX6_plan_100 ?_
            rw [cst_n (A := A) (X := X) (k := k) (show ¬ aP A (4 * k + 3) = sp by omega)]
            refine G_cV2V hk dX6_plan_101 mvX6_offer mlX6_48 (by decide) rfl rfl (Nat.le_of_ble_eq_true rfl) (c_X6_offer _ Γ (d + 1) _ _ _ gb cb rr) (fun S_101 hp_101 => ?_)
            refine G_iinc hk dX6_plan_104 rfl (by decide) rfl ?_
            refine G_goto (tgt := 41) hk dX6_plan_107 (by decide) ?_
            refine ih _ _ ⟨fun c hc => ?_, ?_⟩
            · rw [hp_101]
              unfold ofS
              split
              · rw [sr_ne _ hc]; exact hf c hc
              · exact hf c hc
            · rw [hp_101]
              unfold ofS
              split
              · next g0 =>
                rw [sr_at]
                exact DP_take hB hk9 hD h1k g0
              · next g0 => exact DP_none hD (by omega) cb.1
          · refine G_iconst hk dX6_plan_68 ?_
            refine G_goto (tgt := 78) hk dX6_plan_69 (by decide) ?_
            refine G_istore hk dX6_plan_78 (by decide) rfl ?_
            refine G_rload_n hk dX6_plan_80 rfl ?_
            refine G_rload_n hk dX6_plan_81 rfl ?_
            refine G_iload_n hk dX6_plan_82 rfl ?_
            refine G_iload hk dX6_plan_83 rfl ?_
            refine G_cV2P hk dX6_plan_85 mvX3_giftTo mlX6_44 (by decide) rfl rfl (Nat.le_of_ble_eq_true rfl) (c_X3_giftTo _ Γ (d + 0) _ A hC1 p ⟨by omega, by omega⟩ _ k rfl h1n pp.2) ?_
            rw [show (if aP A (4 * k + 1) = p then S1 19 k else if aTw A (aP A (4 * k + 1)).toNat = p then S1 20 k else 0) = bkt A X p k by rw [(hX1.2.1 k hk9).1, (hX1.2.1 k hk9).2]; rfl]
            refine G_ldc (z := (1048576)) hk dX6_plan_88 kcX6_47 (by decide) ?_
            refine G_iload hk dX6_plan_90 rfl ?_
            refine G_bipush hk dX6_plan_92 (by decide) ?_
            refine G_ishl hk dX6_plan_94 (by omega) (by rw [show (2 : Int) ^ ((12 : Int)).toNat = 4096 from rfl]; omega) (by omega) (by omega) ?_
            rw [show (2 : Int) ^ ((12 : Int)).toNat = 4096 from rfl]
            refine G_iadd hk dX6_plan_95 ?_
            refine G_iconst hk dX6_plan_96 ?_
            refine G_iload hk dX6_plan_97 rfl ?_
            refine G_ishl hk dX6_plan_99 (by omega) (shl_ok (by omega)) (by omega) (by omega) ?_
            refine G_iadd hk dX6_plan_100 ?_
            rw [cst_y (A := A) (X := X) (k := k) (show aP A (4 * k + 3) = sp by omega)]
            refine G_cV2V hk dX6_plan_101 mvX6_offer mlX6_48 (by decide) rfl rfl (Nat.le_of_ble_eq_true rfl) (c_X6_offer _ Γ (d + 1) _ _ _ gb cb rr) (fun S_101 hp_101 => ?_)
            refine G_iinc hk dX6_plan_104 rfl (by decide) rfl ?_
            refine G_goto (tgt := 41) hk dX6_plan_107 (by decide) ?_
            refine ih _ _ ⟨fun c hc => ?_, ?_⟩
            · rw [hp_101]
              unfold ofS
              split
              · rw [sr_ne _ hc]; exact hf c hc
              · exact hf c hc
            · rw [hp_101]
              unfold ofS
              split
              · next g0 =>
                rw [sr_at]
                exact DP_take hB hk9 hD h1k g0
              · next g0 => exact DP_none hD (by omega) cb.1
  · exact absurd h_17 (by omega)--stop
