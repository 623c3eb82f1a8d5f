theorem c_X11_isIn (l : Launch) (Γ : Ev) (d : Nat) (S : Sx) (a k : Nat) (ha : a < 2147483648) (h30 : k ≤ 30) : Ctr l Γ d mX11_isIn [vI (a : Int), vI (k : Int)] S (pP S (bz (a.testBit k = true))) := by
  refine Ctr.of (by decide) rfl rfl (Nat.le_of_ble_eq_true rfl) ?_
  intro κ hl hk hr
  subst hl
  have hz : 0 ≤ zand ((a : Int) / 2 ^ (k : Int).toNat) 1 ∧ zand ((a : Int) / 2 ^ (k : Int).toNat) 1 < 2147483648 := by
    rw [Int.toNat_natCast]
    have e : ((a : Int) / 2 ^ k) = ((a / 2 ^ k : Nat) : Int) := by
      rw [Int.natCast_ediv]
      congr 1
    have h2 : a / 2 ^ k ≤ a := Nat.div_le_self _ _
    rw [e, zand_1 (by omega)]
    omega
  have hq := bit_q (k := k) ha
  refine G_iload_n hk dX11_isIn_0 rfl ?_
  refine G_iload_n hk dX11_isIn_1 rfl ?_
  refine G_ishr hk dX11_isIn_2 (by omega) (by omega) (by omega) (by omega) ?_
  skip
  refine G_iconst hk dX11_isIn_3 ?_
  refine G_iand hk dX11_isIn_4 ?_
  refine G_iconst hk dX11_isIn_5 ?_
  refine G_icmp_ne (tgt := 13) hk dX11_isIn_6 (by decide) ⟨by omega, by omega⟩ ⟨by omega, by omega⟩ (fun h_6 => ?_) (fun h_6 => ?_)
  · refine G_iconst hk dX11_isIn_13 ?_
    exact G_zret hk hr dX11_isIn_14 (by decide) ⟨by rw [Int.toNat_natCast] at h_6; exact bz_f (fun q => h_6 (hq.mpr q)), rfl⟩
  · refine G_iconst hk dX11_isIn_9 ?_
    refine G_goto (tgt := 14) hk dX11_isIn_10 (by decide) ?_
    exact G_zret hk hr dX11_isIn_14 (by decide) ⟨by rw [Int.toNat_natCast] at h_6; exact bz_t (hq.mp h_6), rfl⟩

theorem c_bg {l : Launch} {Γ : Ev} {d : Nat} {S : Sx} (hR : RdM S) : Ctr l Γ d mX11_begins [rf Γ 44] S (pV (fun S2 => MSim (aN (av S)) (lv (av S) 0) S2 ∧ RdM S2 ∧ frP S S2)) := by
  have h := c_X11_begins l Γ d S _ hR.2.1 (aN_8 hR.1.1) (a0 (av S)) (fun p hp => (hR.2.2 p hp).1)
  refine Ctr_mono h ?_
  rintro v S2 ⟨rfl, h1, h2⟩
  have hp := frP_4 hR (fr4_3 h2)
  exact ⟨rfl, h1, RdM_frP hR hp, hp⟩
theorem c_go {l : Launch} {Γ : Ev} {d : Nat} {S : Sx} {k : Nat} (hR : RdM S) (hX : MSim (aN (av S)) (lv (av S) k) S) (hk : k ≤ 100) : Ctr l Γ (d + 5) mX11_goesOn [rf Γ 44, vI (k : Int)] S (pV (fun S2 => MSim (aN (av S)) (lv (av S) (k + 1)) S2 ∧ RdM S2 ∧ frP S S2)) := by
  have hB : SB (aN (av S)) (S 51) (99 + 108 * (k : Int)) (lv (av S) k) := lv_bd0 hR.1.1 k
  have h := c_X11_goesOn l Γ d S (k : Int) ⟨by omega, by omega⟩ (99 + 108 * (k : Int)) (rdm_sim hR) (lv (av S) k, S 44 22) hX rfl hB (by omega) (rdm_mo hR)
  refine Ctr_mono h ?_
  rintro v S2 ⟨rfl, h1, h2, h3⟩
  have hp := frP_4 hR h3
  refine ⟨rfl, ?_, RdM_frP hR hp, hp⟩
  have i4 := hR.1.2.2.2
  rw [rdm_en, goes_plain (show (moS S).2.2.1 = -1 from i4.2.2.1) (show (moS S).2.2.2.2.2 = 0 from i4.2.2.2.2)] at h1
  have e : (moS S).1 = -1 := i4.1
  rw [e] at h1
  have h4 : MSim (aN (av S)) (burnN (anp (av S)) (anb (av S)) (aTw (av S)) (aP (av S)) (aB (av S)) (k : Int) (takeN (aN (av S)) (anp (av S)) (aTw (av S)) (aP (av S)) (-1) (moS S).2.1 (k : Int) (lv (av S) k))) S2 := h1
  rw [takeN_m1 _ _ _ _ 0] at h4
  exact h4
def frsh (A : Av) (y p : Nat) : Bool := decide ((lv A (y + 1)).1 p < aF A ∧ ¬ a0 A p < aF A)
def a_unseenY (A : Av) : Nat := srch (fun y => decide (srch (frsh A y) (aN A) < aN A)) 30
def a_unseenOf (A : Av) (w : Int) : Int := if a_unseenY A < 30 then (if w = 0 then (a_unseenY A : Int) else (srch (frsh A (a_unseenY A)) (aN A) : Int)) else -1
def a_unseen (A : Av) (w : Int) : Int := if ¬ (0 ≤ w ∧ w ≤ 1) then -2 else a_unseenOf A w

theorem c_X11_unseenOf (l : Launch) (Γ : Ev) (d : Nat) (S : Sx) (hR : RdM S) (w : Int) (hw : R32 w) : Ctr l Γ (d + 6) mX11_unseenOf [rf Γ 44, vI w] S (pI (fun r S2 => r = a_unseenOf (av S) w ∧ RdM S2 ∧ frP S S2)) := by
  refine Ctr.of (by decide) rfl rfl (Nat.le_of_ble_eq_true rfl) ?_
  intro κ hl hk hr
  subst hl
  have n8 := aN_8 hR.1.1
  refine G_rload_n hk dX11_unseenOf_0 rfl ?_
  refine G_cV0V hk dX11_unseenOf_1 mvX11_begins mlX11_186 (by decide) rfl rfl (Nat.le_of_ble_eq_true rfl) (c_bg hR) (fun S_1 hp_1 => ?_)
  obtain ⟨hX1, hR1, hf1⟩ := hp_1
  have eA := av_frP hf1
  refine G_rload_n hk dX11_unseenOf_4 rfl ?_
  refine G_cV0P hk dX11_unseenOf_5 mvX11_unseenNow mlX11_198 (by decide) rfl rfl (Nat.le_of_ble_eq_true rfl) (c_X11_unseenNow _ Γ (d + 5) _ hR1 (lv (av S) 0) (by rw [eA]; exact hX1) (99 + 108 * ((0 : Nat) : Int)) (by rw [eA]; exact lv_bd0 hR.1.1 _) (by omega)) ?_
  rw [eA]
  refine G_istore_n hk dX11_unseenOf_8 (by decide) rfl ?_
  refine G_iconst hk dX11_unseenOf_9 ?_
  refine G_istore_n hk dX11_unseenOf_10 (by decide) rfl ?_
  have lp := loop_up (P := fun y => ∀ (S1 : Sx) (w4 w5 : Option Value), (MSim (aN (av S)) (lv (av S) y) S1 ∧ RdM S1 ∧ frP S S1 ∧ ∀ j, j < y → srch (frsh (av S) j) (aN (av S)) = aN (av S)) → GW κ Γ 11 [some (rf Γ 44), some (vI w), some (vI ((bsm (fun p => decide ((lv (av S) 0).1 p < aF (av S))) (aN (av S))) : Int)), some (vI (y : Int)), w4, w5] [] (wl Γ S1)) 30 ?_ ?_ 0 (Nat.zero_le _)
  · exact GW_L (L' := [some (rf Γ 44), some (vI w), some (vI ((bsm (fun p => decide ((lv (av S) 0).1 p < aF (av S))) (aN (av S))) : Int)), some (vI ((0 : Nat) : Int)), none, none]) rfl (lp _ none none ⟨hX1, hR1, hf1, fun j hj => absurd hj (by omega)⟩)
  · intro S1 w4 w5 ⟨hX0, hR0, hf, hn⟩
    refine G_iload_n hk dX11_unseenOf_11 rfl ?_
    refine G_bipush hk dX11_unseenOf_12 (by decide) ?_
    refine G_icmp_ge (tgt := 77) hk dX11_unseenOf_14 (by decide) ⟨by omega, by omega⟩ ⟨by omega, by omega⟩ (fun h_14 => ?_) (fun h_14 => ?_)
    · refine G_iconst hk dX11_unseenOf_77 ?_
      exact G_iret hk hr dX11_unseenOf_78 ⟨by
      have hY : a_unseenY (av S) = 30 := by
        unfold a_unseenY
        refine srch_none _ 30 (fun j hj => ?_)
        have h7 := hn j hj
        simp only [decide_eq_false_iff_not]
        omega
      unfold a_unseenOf
      rw [hY]
      rfl, hR0, hf⟩
    · exact absurd h_14 (by omega)--stop
  · intro y hy9 ih S1 w4 w5 ⟨hX0, hR0, hf, hn⟩
    have eA1 := av_frP hf
    refine G_iload_n hk dX11_unseenOf_11 rfl ?_
    refine G_bipush hk dX11_unseenOf_12 (by decide) ?_
    refine G_icmp_ge (tgt := 77) hk dX11_unseenOf_14 (by decide) ⟨by omega, by omega⟩ ⟨by omega, by omega⟩ (fun h_14 => ?_) (fun h_14 => ?_)
    · exact absurd h_14 (by omega)--stop
    · refine G_rload_n hk dX11_unseenOf_17 rfl ?_
      refine G_iload_n hk dX11_unseenOf_18 rfl ?_
      refine G_cV1V hk dX11_unseenOf_19 mvX11_goesOn mlX11_189 (by decide) rfl rfl (Nat.le_of_ble_eq_true rfl) (c_go hR0 (by rw [eA1]; exact hX0) (by omega)) (fun S_19 hp_19 => ?_)
      obtain ⟨hX2, hR2, hf2⟩ := hp_19
      have eA2 := av_frP hf2
      rw [eA1] at hX2
      have e8 : S_19 44 8 = (aN (av S) : Int) := by rw [hR2.2.1, eA2, eA1]
      refine G_rload_n hk dX11_unseenOf_22 rfl ?_
      refine G_cV0P hk dX11_unseenOf_23 mvX11_unseenNow mlX11_198 (by decide) rfl rfl (Nat.le_of_ble_eq_true rfl) (c_X11_unseenNow _ Γ (d + 5) _ hR2 (lv (av S) (y + 1)) (by rw [eA2, eA1]; exact hX2) (99 + 108 * ((y + 1 : Nat) : Int)) (by rw [eA2, eA1]; exact lv_bd0 hR.1.1 _) (by omega)) ?_
      rw [eA2, eA1]
      refine G_iload_n hk dX11_unseenOf_26 rfl ?_
      refine G_iconst hk dX11_unseenOf_27 ?_
      refine G_ixor hk dX11_unseenOf_28 ?_
      refine G_iand hk dX11_unseenOf_29 ?_
      obtain ⟨mm, hmm, emm, hmt⟩ := zandn (bsm_31 (fun p => decide ((lv (av S) (y + 1)).1 p < aF (av S))) (n := aN (av S)) (by omega)) (bsm_31 (fun p => decide ((lv (av S) 0).1 p < aF (av S))) (n := aN (av S)) (by omega))
      rw [emm]
      refine G_istore hk dX11_unseenOf_30 (by decide) rfl ?_
      refine G_iconst hk dX11_unseenOf_32 ?_
      refine G_istore hk dX11_unseenOf_33 (by decide) rfl ?_
      have lp2 := loop_up (P := fun p => (∀ j, j < p → frsh (av S) y j = false) → GW κ Γ 35 [some (rf Γ 44), some (vI w), some (vI ((bsm (fun p => decide ((lv (av S) 0).1 p < aF (av S))) (aN (av S))) : Int)), some (vI (y : Int)), some (vI (mm : Int)), some (vI (p : Int))] [] (wl Γ S_19)) (aN (av S)) ?_ ?_ 0 (Nat.zero_le _) (fun j hj => absurd hj (by omega))
      · exact lp2
      · intro hno
        refine G_iload hk dX11_unseenOf_35 rfl ?_
        refine G_rload_n hk dX11_unseenOf_37 rfl ?_
        refine G_getI hk dX11_unseenOf_38 flX11_97 (by decide) rfl rfl ?_
        rw [e8]
        refine G_icmp_ge (tgt := 71) hk dX11_unseenOf_41 (by decide) ⟨by omega, by omega⟩ ⟨by omega, by omega⟩ (fun h_41 => ?_) (fun h_41 => ?_)
        · refine G_iinc hk dX11_unseenOf_71 rfl (by decide) rfl ?_
          refine G_goto (tgt := 11) hk dX11_unseenOf_74 (by decide) ?_
          refine ih _ _ _ ⟨hX2, hR2, frP_t hf hf2, ?_⟩
          intro j hj
          by_cases e : j = y
          · rw [e]; exact srch_none _ _ hno
          · exact hn j (by omega)
        · exact absurd h_41 (by omega)--stop
      · intro p hp9 ih2 hno
        refine G_iload hk dX11_unseenOf_35 rfl ?_
        refine G_rload_n hk dX11_unseenOf_37 rfl ?_
        refine G_getI hk dX11_unseenOf_38 flX11_97 (by decide) rfl rfl ?_
        rw [e8]
        refine G_icmp_ge (tgt := 71) hk dX11_unseenOf_41 (by decide) ⟨by omega, by omega⟩ ⟨by omega, by omega⟩ (fun h_41 => ?_) (fun h_41 => ?_)
        · exact absurd h_41 (by omega)--stop
        · refine G_iload hk dX11_unseenOf_44 rfl ?_
          refine G_iload hk dX11_unseenOf_46 rfl ?_
          refine G_cS2P hk dX11_unseenOf_48 msX11_isIn mlX11_216 (Nat.le_of_ble_eq_true rfl) (c_X11_isIn _ Γ (d + 5) _ mm p (by omega) (by omega)) ?_
          refine G_bif_eq (tgt := 65) hk dX11_unseenOf_51 (by decide) (fun h_51 => ?_) (fun h_51 => ?_)
          · refine G_iinc hk dX11_unseenOf_65 rfl (by decide) rfl ?_
            refine G_goto (tgt := 35) hk dX11_unseenOf_68 (by decide) ?_
            refine ih2 (fun j hj => ?_)
            by_cases e : j = p
            · rw [e]
              have h9 : mm.testBit p = false := by simpa using h_51
              rw [hmt p, bsm_tb, bsm_tb] at h9
              unfold frsh
              simp only [hp9, decide_true, Bool.true_and] at h9
              by_cases q1 : (lv (av S) (y + 1)).1 p < aF (av S)
              · have q2 : (lv (av S) 0).1 p < aF (av S) := by simpa [q1] using h9
                simp only [decide_eq_false_iff_not]
                intro q3
                exact q3.2 q2
              · simp [q1]
            · exact hno j (by omega)
          · refine G_iload_n hk dX11_unseenOf_54 rfl ?_
            refine G_if_ne (tgt := 62) hk dX11_unseenOf_55 (by decide) ⟨by omega, by omega⟩ (fun h_55 => ?_) (fun h_55 => ?_)
            · refine G_iload hk dX11_unseenOf_62 rfl ?_
              exact G_iret hk hr dX11_unseenOf_64 ⟨by
          have h9 := h_51
          rw [hmt p, bsm_tb, bsm_tb] at h9
          have hfp : frsh (av S) y p = true := by
            unfold frsh
            simp only [hp9, decide_true, Bool.true_and, Bool.and_eq_true, decide_eq_true_eq, Bool.not_eq_true', decide_eq_false_iff_not] at h9
            simp only [decide_eq_true_eq]
            exact h9
          have hs : srch (frsh (av S) y) (aN (av S)) = p := srch_at _ p hno hfp _ hp9
          have hY : a_unseenY (av S) = y := by
            unfold a_unseenY
            refine srch_at _ y (fun j hj => ?_) ?_ 30 (by omega)
            · have h7 := hn j hj
              simp only [decide_eq_false_iff_not]
              omega
            · simp only [decide_eq_true_eq]
              omega
          unfold a_unseenOf
          rw [hY, hs, if_pos (by omega)]
          split <;> first | rfl | (exfalso; omega), hR2, frP_t hf hf2⟩
            · refine G_iload_n hk dX11_unseenOf_58 rfl ?_
              refine G_goto (tgt := 64) hk dX11_unseenOf_59 (by decide) ?_
              exact G_iret hk hr dX11_unseenOf_64 ⟨by
          have h9 := h_51
          rw [hmt p, bsm_tb, bsm_tb] at h9
          have hfp : frsh (av S) y p = true := by
            unfold frsh
            simp only [hp9, decide_true, Bool.true_and, Bool.and_eq_true, decide_eq_true_eq, Bool.not_eq_true', decide_eq_false_iff_not] at h9
            simp only [decide_eq_true_eq]
            exact h9
          have hs : srch (frsh (av S) y) (aN (av S)) = p := srch_at _ p hno hfp _ hp9
          have hY : a_unseenY (av S) = y := by
            unfold a_unseenY
            refine srch_at _ y (fun j hj => ?_) ?_ 30 (by omega)
            · have h7 := hn j hj
              simp only [decide_eq_false_iff_not]
              omega
            · simp only [decide_eq_true_eq]
              omega
          unfold a_unseenOf
          rw [hY, hs, if_pos (by omega)]
          split <;> first | rfl | (exfalso; omega), hR2, frP_t hf hf2⟩

theorem c_X11_unseen (l : Launch) (Γ : Ev) (d : Nat) (S : Sx) (hI : InvM S) (w : Int) (h_w : R32 w) : Ctr l Γ (d + 7) mX11_unseen [rf Γ 44, vI w] S (pI (fun r S2 => r = a_unseen (av S) w ∧ frQ S S2)) := by
  refine Ctr.of (by decide) rfl rfl (Nat.le_of_ble_eq_true rfl) ?_
  intro κ hl hk hr
  subst hl
  refine G_rload_n hk dX11_unseen_0 rfl ?_
  refine G_cV0I hk dX11_unseen_1 mvX11_reads mlX11_113 (by decide) rfl rfl (Nat.le_of_ble_eq_true rfl) (c_rd hI) (fun r_1 S_1 hp_1 => ?_)
  obtain ⟨hr0, hR, hq⟩ := hp_1
  have eQ := av_frQ hq
  refine G_pop hk dX11_unseen_4 rfl ?_
  refine G_iload_n hk dX11_unseen_5 rfl ?_
  refine G_cS1P hk dX11_unseen_6 msX11_isTwo mlX11_124 (Nat.le_of_ble_eq_true rfl) (c_X11_isTwo _ Γ (d + 5) _ _ ⟨by omega, by omega⟩) ?_
  refine G_bif_eq (tgt := 20) hk dX11_unseen_9 (by decide) (fun h_9 => ?_) (fun h_9 => ?_)
  · refine G_bipush hk dX11_unseen_20 (by decide) ?_
    exact G_iret hk hr dX11_unseen_22 ⟨by unfold a_unseen; (repeat' split) <;> first | (exfalso; omega) | rfl, hq⟩
  · refine G_rload_n hk dX11_unseen_12 rfl ?_
    refine G_iload_n hk dX11_unseen_13 rfl ?_
    refine G_cV1I hk dX11_unseen_14 mvX11_unseenOf mlX11_220 (by decide) rfl rfl (Nat.le_of_ble_eq_true rfl) (c_X11_unseenOf _ Γ (d + 0) _ hR _ ⟨by omega, by omega⟩) (fun r_14 S_14 hp_14 => ?_)
    refine G_goto (tgt := 22) hk dX11_unseen_17 (by decide) ?_
    exact G_iret hk hr dX11_unseen_22 ⟨by unfold a_unseen; rw [hp_14.1, eQ]; (repeat' split) <;> first | (exfalso; omega) | rfl, frQ_t hq (frQ_P hp_14.2.2)⟩

def a_feastOf (A : Av) (y z : Int) : Int := ssm (fun p => if (lv A (y.toNat + 1)).1 p < aF A then 0 else ((lv A (y.toNat + 1)).1 p - aF A) / z) (aN A)
def a_feast (A : Av) (y z : Int) : Int := if ¬ (0 ≤ y ∧ y ≤ 29) then -2 else if ¬ (1 ≤ z ∧ z ≤ 9) then -2 else a_feastOf A y z

theorem c_X11_feastOf (l : Launch) (Γ : Ev) (d : Nat) (S : Sx) (hR : RdM S) (y z : Int) (hy : 0 ≤ y ∧ y ≤ 29) (hz : 1 ≤ z ∧ z ≤ 9) : Ctr l Γ (d + 7) mX11_feastOf [rf Γ 44, vI y, vI z] S (pI (fun r S2 => r = a_feastOf (av S) y z ∧ RdM S2 ∧ frP S S2)) := by
  refine Ctr.of (by decide) rfl rfl (Nat.le_of_ble_eq_true rfl) ?_
  intro κ hl hk hr
  subst hl
  have n8 := aN_8 hR.1.1
  have f9 := hR.1.1.2.2.2.2.2.2.1
  refine G_rload_n hk dX11_feastOf_0 rfl ?_
  refine G_iload_n hk dX11_feastOf_1 rfl ?_
  refine G_cV1V hk dX11_feastOf_2 mvX11_lives mlX11_192 (by decide) rfl rfl (Nat.le_of_ble_eq_true rfl) (c_lv hR ⟨by omega, by omega⟩) (fun S_2 hp_2 => ?_)
  obtain ⟨hX1, hR1, hf1⟩ := hp_2
  have eA := av_frP hf1
  have e8 : S_2 44 8 = (aN (av S) : Int) := by rw [hR1.2.1, eA]
  have e14 : S_2 44 14 = aF (av S) := by rw [← eA]; rfl
  refine G_iconst hk dX11_feastOf_5 ?_
  refine G_istore_n hk dX11_feastOf_6 (by decide) rfl ?_
  refine G_iconst hk dX11_feastOf_7 ?_
  refine G_istore hk dX11_feastOf_8 (by decide) rfl ?_
  have lp := loop_up (P := fun k => GW κ Γ 10 [some (rf Γ 44), some (vI y), some (vI z), some (vI (ssm (fun p => if (lv (av S) (y.toNat + 1)).1 p < aF (av S) then 0 else ((lv (av S) (y.toNat + 1)).1 p - aF (av S)) / z) k)), some (vI (k : Int))] [] (wl Γ S_2)) (aN (av S)) ?_ ?_ 0 (Nat.zero_le _)
  · exact lp
  · skip
    refine G_iload hk dX11_feastOf_10 rfl ?_
    refine G_rload_n hk dX11_feastOf_12 rfl ?_
    refine G_getI hk dX11_feastOf_13 flX11_97 (by decide) rfl rfl ?_
    rw [e8]
    refine G_icmp_ge (tgt := 60) hk dX11_feastOf_16 (by decide) ⟨by omega, by omega⟩ ⟨by omega, by omega⟩ (fun h_16 => ?_) (fun h_16 => ?_)
    · refine G_iload_n hk dX11_feastOf_60 rfl ?_
      exact G_iret hk hr dX11_feastOf_61 ⟨rfl, hR1, hf1⟩
    · exact absurd h_16 (by omega)--stop
  · intro k hk9 ih
    have e54 := hX1.1 k hk9
    have s54 := (lv_bd0 hR.1.1 (y.toNat + 1)).1 k hk9
    refine G_iload hk dX11_feastOf_10 rfl ?_
    refine G_rload_n hk dX11_feastOf_12 rfl ?_
    refine G_getI hk dX11_feastOf_13 flX11_97 (by decide) rfl rfl ?_
    rw [e8]
    refine G_icmp_ge (tgt := 60) hk dX11_feastOf_16 (by decide) ⟨by omega, by omega⟩ ⟨by omega, by omega⟩ (fun h_16 => ?_) (fun h_16 => ?_)
    · exact absurd h_16 (by omega)--stop
    · refine G_iload_n hk dX11_feastOf_19 rfl ?_
      refine G_rload_n hk dX11_feastOf_20 rfl ?_
      refine G_getR hk dX11_feastOf_21 flX11_37 (by decide) rfl rfl ?_
      refine G_iload hk dX11_feastOf_24 rfl ?_
      refine G_iald hk dX11_feastOf_26 (by decide) rfl (by decide) (by omega) (by omega) ?_
      rw [Int.toNat_natCast, e54]
      refine G_rload_n hk dX11_feastOf_27 rfl ?_
      refine G_getI hk dX11_feastOf_28 flX11_52 (by decide) rfl rfl ?_
      rw [e14]
      refine G_icmp_ge (tgt := 38) hk dX11_feastOf_31 (by decide) ⟨by omega, by omega⟩ ⟨by omega, by omega⟩ (fun h_31 => ?_) (fun h_31 => ?_)
      · refine G_rload_n hk dX11_feastOf_38 rfl ?_
        refine G_getR hk dX11_feastOf_39 flX11_37 (by decide) rfl rfl ?_
        refine G_iload hk dX11_feastOf_42 rfl ?_
        refine G_iald hk dX11_feastOf_44 (by decide) rfl (by decide) (by omega) (by omega) ?_
        rw [Int.toNat_natCast, e54]
        refine G_rload_n hk dX11_feastOf_45 rfl ?_
        refine G_getI hk dX11_feastOf_46 flX11_52 (by decide) rfl rfl ?_
        rw [e14]
        refine G_isub hk dX11_feastOf_49 ?_
        refine G_iload_n hk dX11_feastOf_50 rfl ?_
        refine G_idiv hk dX11_feastOf_51 (by omega) (by omega) (by omega) (by omega) ?_
        refine G_iadd hk dX11_feastOf_52 ?_
        refine G_istore_n hk dX11_feastOf_53 (by decide) rfl ?_
        refine G_iinc hk dX11_feastOf_54 rfl (by decide) rfl ?_
        refine G_goto (tgt := 10) hk dX11_feastOf_57 (by decide) ?_
        have e9 : ssm (fun p => if (lv (av S) (y.toNat + 1)).1 p < aF (av S) then 0 else ((lv (av S) (y.toNat + 1)).1 p - aF (av S)) / z) k + ((lv (av S) (y.toNat + 1)).1 k - aF (av S)) / z = ssm (fun p => if (lv (av S) (y.toNat + 1)).1 p < aF (av S) then 0 else ((lv (av S) (y.toNat + 1)).1 p - aF (av S)) / z) (k + 1) := by
          simp only [ssm]
          congr 1
          rw [if_neg (by omega)]
        rw [e9]
        exact ih
      · refine G_iconst hk dX11_feastOf_34 ?_
        refine G_goto (tgt := 52) hk dX11_feastOf_35 (by decide) ?_
        refine G_iadd hk dX11_feastOf_52 ?_
        refine G_istore_n hk dX11_feastOf_53 (by decide) rfl ?_
        refine G_iinc hk dX11_feastOf_54 rfl (by decide) rfl ?_
        refine G_goto (tgt := 10) hk dX11_feastOf_57 (by decide) ?_
        have e9 : ssm (fun p => if (lv (av S) (y.toNat + 1)).1 p < aF (av S) then 0 else ((lv (av S) (y.toNat + 1)).1 p - aF (av S)) / z) k + 0 = ssm (fun p => if (lv (av S) (y.toNat + 1)).1 p < aF (av S) then 0 else ((lv (av S) (y.toNat + 1)).1 p - aF (av S)) / z) (k + 1) := by
          simp only [ssm]
          congr 1
          rw [if_pos (by omega)]
        rw [e9]
        exact ih

theorem c_X11_feast (l : Launch) (Γ : Ev) (d : Nat) (S : Sx) (hI : InvM S) (y z : Int) (h_y : R32 y) (h_z : R32 z) : Ctr l Γ (d + 8) mX11_feast [rf Γ 44, vI y, vI z] S (pI (fun r S2 => r = a_feast (av S) y z ∧ frQ S S2)) := by
  refine Ctr.of (by decide) rfl rfl (Nat.le_of_ble_eq_true rfl) ?_
  intro κ hl hk hr
  subst hl
  refine G_rload_n hk dX11_feast_0 rfl ?_
  refine G_cV0I hk dX11_feast_1 mvX11_reads mlX11_113 (by decide) rfl rfl (Nat.le_of_ble_eq_true rfl) (c_rd hI) (fun r_1 S_1 hp_1 => ?_)
  obtain ⟨hr0, hR, hq⟩ := hp_1
  have eQ := av_frQ hq
  refine G_pop hk dX11_feast_4 rfl ?_
  refine G_iload_n hk dX11_feast_5 rfl ?_
  refine G_cS1P hk dX11_feast_6 msX11_isYear mlX11_130 (Nat.le_of_ble_eq_true rfl) (c_X11_isYear _ Γ (d + 6) _ _ ⟨by omega, by omega⟩) ?_
  refine G_bif_eq (tgt := 33) hk dX11_feast_9 (by decide) (fun h_9 => ?_) (fun h_9 => ?_)
  · refine G_bipush hk dX11_feast_33 (by decide) ?_
    exact G_iret hk hr dX11_feast_35 ⟨by unfold a_feast; (repeat' split) <;> first | (exfalso; omega) | rfl, hq⟩
  · refine G_iload_n hk dX11_feast_12 rfl ?_
    refine G_i2l hk dX11_feast_13 ⟨by omega, by omega⟩ ?_
    refine G_lconst (z := 1) hk dX11_feast_14 (by decide) ?_
    refine G_ldc2 (z := (9)) hk dX11_feast_15 kcX11_103 (by decide) ?_
    refine G_cS3P hk dX11_feast_18 msX11_in mlX11_64 (Nat.le_of_ble_eq_true rfl) (c_X11_in _ Γ (d + 7) _ _ _ _ ⟨by omega, by omega⟩ ⟨by omega, by omega⟩ ⟨by omega, by omega⟩) ?_
    refine G_bif_eq (tgt := 33) hk dX11_feast_21 (by decide) (fun h_21 => ?_) (fun h_21 => ?_)
    · refine G_bipush hk dX11_feast_33 (by decide) ?_
      exact G_iret hk hr dX11_feast_35 ⟨by unfold a_feast; (repeat' split) <;> first | (exfalso; omega) | rfl, hq⟩
    · refine G_rload_n hk dX11_feast_24 rfl ?_
      refine G_iload_n hk dX11_feast_25 rfl ?_
      refine G_iload_n hk dX11_feast_26 rfl ?_
      refine G_cV2I hk dX11_feast_27 mvX11_feastOf mlX11_243 (by decide) rfl rfl (Nat.le_of_ble_eq_true rfl) (c_X11_feastOf _ Γ (d + 0) _ hR _ _ ⟨by omega, by omega⟩ ⟨by omega, by omega⟩) (fun r_27 S_27 hp_27 => ?_)
      refine G_goto (tgt := 35) hk dX11_feast_30 (by decide) ?_
      exact G_iret hk hr dX11_feast_35 ⟨by unfold a_feast; rw [hp_27.1, eQ]; (repeat' split) <;> first | (exfalso; omega) | rfl, frQ_t hq (frQ_P hp_27.2.2)⟩

/-- the year y with z taken from p behind its pictures -/
def spyX (A : Av) (y : Nat) (p : Nat) (z : Int) : Sim := burnN (anp A) (anb A) (aTw A) (aP A) (aB A) (y : Int) (if 0 < z then spy1 p z (takeN (aN A) (anp A) (aTw A) (aP A) (-1) 0 (y : Int) (lv A y)) else takeN (aN A) (anp A) (aTw A) (aP A) (-1) 0 (y : Int) (lv A y))
def spc (A : Av) (y p z : Int) (n : Nat) : Bool := decide ((spyX A y.toNat p.toNat ((n : Int) * z)).1 p.toNat < aF A)
def a_spyOf (A : Av) (y p z : Int) : Int := if srch (spc A y p z) 100 < 100 then (srch (spc A y p z) 100 : Int) else -1
def a_spy (A : Av) (y p z : Int) : Int := if ¬ (0 ≤ y ∧ y ≤ 29) then -2 else if ¬ (0 ≤ p ∧ p ≤ (aN A : Int) - 1) then -2 else if ¬ (1 ≤ z ∧ z ≤ 9) then -2 else a_spyOf A y p z
/-- from 99 down, j steps: the least found so far -/
def fdn (c : Nat → Bool) : Nat → Int
  | 0 => -1
  | j + 1 => if c (99 - j) = true then ((99 - j : Nat) : Int) else fdn c j
theorem fdn_spec (c : Nat → Bool) : ∀ j, j ≤ 100 → (fdn c j = -1 ∧ ∀ i, 100 - j ≤ i → i < 100 → c i = false) ∨ ∃ m : Nat, fdn c j = (m : Int) ∧ 100 - j ≤ m ∧ m < 100 ∧ c m = true ∧ ∀ i, 100 - j ≤ i → i < m → c i = false
  | 0, _ => Or.inl ⟨rfl, fun i h1 h2 => absurd h1 (by omega)⟩
  | j + 1, h => by
    have ih := fdn_spec c j (by omega)
    simp only [fdn]
    by_cases e : c (99 - j) = true
    · rw [if_pos e]
      exact Or.inr ⟨99 - j, rfl, by omega, by omega, e, fun i h1 h2 => absurd h1 (by omega)⟩
    · rw [if_neg e]
      have e2 : c (99 - j) = false := by simpa using e
      rcases ih with ⟨h1, h2⟩ | ⟨m, h1, h2, h3, h4, h5⟩
      · refine Or.inl ⟨h1, fun i g1 g2 => ?_⟩
        by_cases q : i = 99 - j
        · rw [q]; exact e2
        · exact h2 i (by omega) g2
      · refine Or.inr ⟨m, h1, by omega, h3, h4, fun i g1 g2 => ?_⟩
        by_cases q : i = 99 - j
        · rw [q]; exact e2
        · exact h5 i (by omega) g2
theorem fdn_100 (c : Nat → Bool) : fdn c 100 = if srch c 100 < 100 then (srch c 100 : Int) else -1 := by
  rcases fdn_spec c 100 (Nat.le_refl _) with ⟨h1, h2⟩ | ⟨m, h1, h2, h3, h4, h5⟩
  · rw [h1, srch_none c 100 (fun j hj => h2 j (by omega) hj), if_neg (by omega)]
  · rw [h1, srch_at c m (fun j hj => h5 j (by omega) hj) h4 100 h3, if_pos h3]
theorem fdn_r (c : Nat → Bool) {j : Nat} (hj : j ≤ 100) : R32 (fdn c j) := by
  rcases fdn_spec c j hj with ⟨h1, h2⟩ | ⟨m, h1, h2, h3, h4, h5⟩
  · rw [h1]; decide
  · rw [h1]; exact ⟨by omega, by omega⟩
theorem liv_spy {A : Av} {m : Mo} {dr : Int} {y : Nat} (h1 : m.1 = -1) (hp : m.2.2.1 = -1) (hy : m.2.2.2.1 = (y : Int)) : ∀ n, n ≤ y → liv (aE A) m (a0 A) dr n = (lv A n, dr)
  | 0, _ => rfl
  | n + 1, hn => by
    have ih := liv_spy (A := A) (dr := dr) h1 hp hy n (by omega)
    show goes (aE A) m (n : Int) (liv (aE A) m (a0 A) dr n) = _
    rw [ih]
    unfold goes
    rw [g2_n (fun h => h.1 hp), g3_n (fun h => by have := h.2; omega)]
    show (burnN (anp A) (anb A) (aTw A) (aP A) (aB A) (n : Int) (takeN (aN A) (anp A) (aTw A) (aP A) m.1 m.2.1 (n : Int) (lv A n)), dr) = _
    rw [h1, takeN_m1 _ _ _ _ 0]
    rfl
theorem liv_spyX {A : Av} {m : Mo} {dr : Int} {y : Nat} (h1 : m.1 = -1) (hp : m.2.2.1 = -1) (hy : m.2.2.2.1 = (y : Int)) : (liv (aE A) m (a0 A) dr (y + 1)).1 = spyX A y m.2.2.2.2.1.toNat m.2.2.2.2.2 := by
  show (goes (aE A) m (y : Int) (liv (aE A) m (a0 A) dr y)).1 = _
  rw [liv_spy h1 hp hy y (Nat.le_refl _)]
  unfold goes spyX
  rw [g2_n (fun h => h.1 hp)]
  have e : g1 (aE A) m (y : Int) (lv A y, dr) = (takeN (aN A) (anp A) (aTw A) (aP A) (-1) 0 (y : Int) (lv A y), dr) := by
    show (takeN (aN A) (anp A) (aTw A) (aP A) m.1 m.2.1 (y : Int) (lv A y), dr) = _
    rw [h1, takeN_m1 _ _ _ _ 0]
  rw [e]
  by_cases hz : 0 < m.2.2.2.2.2
  · rw [g3_y ⟨hz, hy.symm⟩, if_pos hz]
    rfl
  · rw [g3_n (fun h => hz h.1), if_neg hz]
    rfl

theorem c_X11_spyOf (l : Launch) (Γ : Ev) (d : Nat) (S : Sx) (hR : RdM S) (y p z : Int) (hy : 0 ≤ y ∧ y ≤ 29) (hp : 0 ≤ p ∧ p ≤ (aN (av S) : Int) - 1) (hz : 1 ≤ z ∧ z ≤ 9) : Ctr l Γ (d + 7) mX11_spyOf [rf Γ 44, vI y, vI p, vI z] S (pI (fun r S2 => r = a_spyOf (av S) y p z ∧ RdM S2 ∧ frP S S2)) := by
  refine Ctr.of (by decide) rfl rfl (Nat.le_of_ble_eq_true rfl) ?_
  intro κ hl hk hr
  subst hl
  have n8 := aN_8 hR.1.1
  have f9 := hR.1.1.2.2.2.2.2.2.1
  have i4 := hR.1.2.2.2
  refine G_rload_n hk dX11_spyOf_0 rfl ?_
  refine G_iload_n hk dX11_spyOf_1 rfl ?_
  refine G_putI hk dX11_spyOf_2 flX11_177 fpX11_23 (by decide) rfl rfl ?_
  refine G_rload_n hk dX11_spyOf_5 rfl ?_
  refine G_iload_n hk dX11_spyOf_6 rfl ?_
  refine G_putI hk dX11_spyOf_7 flX11_180 fpX11_24 (by decide) rfl rfl ?_
  refine G_iconst hk dX11_spyOf_10 ?_
  refine G_istore hk dX11_spyOf_11 (by decide) rfl ?_
  refine G_bipush hk dX11_spyOf_13 (by decide) ?_
  refine G_istore hk dX11_spyOf_15 (by decide) rfl ?_
  have lp := loop_up (P := fun j => ∀ S1 : Sx, ((∀ c, c ≠ 44 → c ≠ 54 → c ≠ 55 → c ≠ 56 → S1 c = S c) ∧ (∀ k, k ≠ 22 → k ≠ 23 → k ≠ 24 → k ≠ 25 → S1 44 k = S 44 k) ∧ S1 44 23 = y ∧ S1 44 24 = p) → GW κ Γ 17 [some (rf Γ 44), some (vI y), some (vI p), some (vI z), some (vI (fdn (spc (av S) y p z) j)), some (vI (99 - (j : Int)))] [] (wl Γ S1)) 100 ?_ ?_ 0 (Nat.zero_le _)
  · exact lp _ ⟨fun c a _ _ _ => by simp only [su_ne _ a], fun k a b e f => by simp [su_app, b, e], by simp [su_app], by simp [su_app]⟩
  · intro S1 ⟨f1, f2, f3, f4⟩
    refine G_iload hk dX11_spyOf_17 rfl ?_
    refine G_if_lt (tgt := 63) hk dX11_spyOf_19 (by decide) ⟨by omega, by omega⟩ (fun h_19 => ?_) (fun h_19 => ?_)
    · refine G_rload_n hk dX11_spyOf_63 rfl ?_
      refine G_iconst hk dX11_spyOf_64 ?_
      refine G_putI hk dX11_spyOf_65 flX11_174 fpX11_25 (by decide) rfl rfl ?_
      refine G_iload hk dX11_spyOf_68 rfl ?_
      have hfp : frP S (su S1 44 25 0) := by
        refine ⟨fun c a b e f _ => by rw [su_ne _ a]; exact f1 c a b e f, fun k hk9 => ?_, ?_, ?_⟩
        · by_cases q : k = 25
          · rw [q, su_at]; exact i4.2.2.2.2.symm
          · rw [su_nk _ _ _ q]; exact f2 k (by omega) (by omega) (by omega) q
        · rw [su_nk _ _ _ (by decide), f2 20 (by decide) (by decide) (by decide) (by decide)]; exact i4.2.1
        · rw [su_nk _ _ _ (by decide), f3]; exact ⟨by omega, by omega⟩
      exact G_iret hk hr dX11_spyOf_70 ⟨by rw [fdn_100]; rfl, RdM_frP hR hfp, hfp⟩
    · exact absurd h_19 (by omega)--stop
  · intro j hj9 ih S1 ⟨f1, f2, f3, f4⟩
    have hnz : 0 ≤ (99 - (j : Int)) * z ∧ (99 - (j : Int)) * z ≤ 891 := ⟨Int.mul_nonneg (by omega) (by omega), Int.le_trans (Int.mul_le_mul (show (99 - (j : Int)) ≤ 99 by omega) (show z ≤ 9 by omega) (by omega) (by omega)) (by decide)⟩
    have hC2 : SimC (aN (av S)) (anp (av S)) (anb (av S)) (aTw (av S)) (su S1 44 25 ((99 - (j : Int)) * z)) := SimC_mv (fun k h9 => by rw [su_nk _ _ _ (by omega)]; exact f2 k (by omega) (by omega) (by omega) (by omega)) (by rw [su_ne _ (by decide)]; exact f1 50 (by decide) (by decide) (by decide) (by decide)) (by rw [su_ne _ (by decide)]; exact f1 51 (by decide) (by decide) (by decide) (by decide)) (by rw [su_ne _ (by decide)]; exact f1 52 (by decide) (by decide) (by decide) (by decide)) (rdm_sim hR)
    have eM : moS (su S1 44 25 ((99 - (j : Int)) * z)) = (-1, S 44 20, -1, y, p, (99 - (j : Int)) * z) := by
      unfold moS
      rw [su_at, su_nk _ _ _ (show (19 : Nat) ≠ 25 by decide), su_nk _ _ _ (show (20 : Nat) ≠ 25 by decide), su_nk _ _ _ (show (21 : Nat) ≠ 25 by decide), su_nk _ _ _ (show (23 : Nat) ≠ 25 by decide), su_nk _ _ _ (show (24 : Nat) ≠ 25 by decide), f2 19 (by decide) (by decide) (by decide) (by decide), f2 20 (by decide) (by decide) (by decide) (by decide), f2 21 (by decide) (by decide) (by decide) (by decide), f3, f4, i4.1, i4.2.2.1]
    have eE : enS (aN (av S)) (anp (av S)) (anb (av S)) (aTw (av S)) (su S1 44 25 ((99 - (j : Int)) * z)) = aE (av S) := by
      unfold enS
      rw [su_ne _ (show (51 : Nat) ≠ 44 by decide), su_ne _ (show (52 : Nat) ≠ 44 by decide), f1 51 (by decide) (by decide) (by decide) (by decide), f1 52 (by decide) (by decide) (by decide) (by decide)]
      rfl
    have ht2 : ∀ q, q < aN (av S) → su S1 44 25 ((99 - (j : Int)) * z) 50 (2 * q) = a0 (av S) q := fun q hq => by
      rw [su_ne _ (by decide), f1 50 (by decide) (by decide) (by decide) (by decide)]; exact (hR.2.2 q hq).1
    refine G_iload hk dX11_spyOf_17 rfl ?_
    refine G_if_lt (tgt := 63) hk dX11_spyOf_19 (by decide) ⟨by omega, by omega⟩ (fun h_19 => ?_) (fun h_19 => ?_)
    · exact absurd h_19 (by omega)--stop
    · refine G_rload_n hk dX11_spyOf_22 rfl ?_
      refine G_iload hk dX11_spyOf_23 rfl ?_
      refine G_iload_n hk dX11_spyOf_25 rfl ?_
      refine G_imul hk dX11_spyOf_26 ?_
      refine G_putI hk dX11_spyOf_27 flX11_174 fpX11_25 (by decide) rfl rfl ?_
      refine G_rload_n hk dX11_spyOf_30 rfl ?_
      refine G_iload_n hk dX11_spyOf_31 rfl ?_
      refine G_cV1V hk dX11_spyOf_32 mvX11_lives mlX11_192 (by decide) rfl rfl (Nat.le_of_ble_eq_true rfl) (c_X11_lives _ Γ (d + 0) _ _ ⟨by omega, by omega⟩ hC2 (a0 (av S)) ht2 a0_99 (by rw [eM]; exact ⟨by show R32 (-1); decide, ⟨by show -2147483648 ≤ y; omega, by show y < 2147483648; omega⟩, ⟨hnz.1, by show (99 - (j : Int)) * z ≤ 1000; omega⟩, fun _ => ⟨by show 0 ≤ p; omega, by show p ≤ (aN (av S) : Int) - 1; omega⟩⟩)) (fun S_32 hp_32 => ?_)
      obtain ⟨hX2, hd2, hf2⟩ := hp_32
      rw [eM, eE] at hX2
      rw [liv_spyX (y := y.toNat) rfl rfl (by show y = (y.toNat : Int); omega)] at hX2
      have hX2 : MSim (aN (av S)) (spyX (av S) y.toNat p.toNat ((99 - (j : Int)) * z)) S_32 := hX2
      have e14 : S_32 44 14 = aF (av S) := by
        rw [hf2.2 14 (by decide), su_nk _ _ _ (by decide)]; exact f2 14 (by decide) (by decide) (by decide) (by decide)
      have hB2 := SB_liv (E := aE (av S)) (m := (-1, S 44 20, -1, y, p, (99 - (j : Int)) * z)) (t0 := a0 (av S)) (dr := 0) (by rw [← eM, ← eE]; exact EnOk_of hC2) ⟨by show R32 (-1); decide, ⟨by show -2147483648 ≤ y; omega, by show y < 2147483648; omega⟩, ⟨hnz.1, by show (99 - (j : Int)) * z ≤ 1000; omega⟩, fun _ => ⟨by show 0 ≤ p; omega, by show p ≤ (aN (av S) : Int) - 1; omega⟩⟩ a0_99 (y.toNat + 1)
      rw [liv_spyX (y := y.toNat) rfl rfl (by show y = (y.toNat : Int); omega)] at hB2
      have s54 : 0 ≤ (spyX (av S) y.toNat p.toNat ((99 - (j : Int)) * z)).1 p.toNat ∧ (spyX (av S) y.toNat p.toNat ((99 - (j : Int)) * z)).1 p.toNat ≤ 99 + 108 * ((y.toNat + 1 : Nat) : Int) := hB2.1 p.toNat (by show p.toNat < aN (av S); omega)
      have en : ((99 - j : Nat) : Int) = 99 - (j : Int) := by omega
      refine G_rload_n hk dX11_spyOf_35 rfl ?_
      refine G_getR hk dX11_spyOf_36 flX11_37 (by decide) rfl rfl ?_
      refine G_iload_n hk dX11_spyOf_39 rfl ?_
      refine G_iald hk dX11_spyOf_40 (by decide) rfl (by decide) (by omega) (by omega) ?_
      try simp (decide := true) only [su_app, sr_app, ↓reduceIte]
      rw [hX2.1 p.toNat (by omega)]
      refine G_rload_n hk dX11_spyOf_41 rfl ?_
      refine G_getI hk dX11_spyOf_42 flX11_52 (by decide) rfl rfl ?_
      try simp (decide := true) only [su_app, sr_app, ↓reduceIte]
      rw [e14]
      refine G_icmp_ge (tgt := 53) hk dX11_spyOf_45 (by decide) ⟨by omega, by omega⟩ ⟨by omega, by omega⟩ (fun h_45 => ?_) (fun h_45 => ?_)
      · refine G_iload hk dX11_spyOf_53 rfl ?_
        refine G_istore hk dX11_spyOf_55 (by decide) rfl ?_
        refine G_iinc hk dX11_spyOf_57 rfl (by decide) rfl ?_
        refine G_goto (tgt := 17) hk dX11_spyOf_60 (by decide) ?_
        have e9 : fdn (spc (av S) y p z) (j + 1) = fdn (spc (av S) y p z) j := by
          simp only [fdn]
          rw [if_neg (by unfold spc; rw [en]; simp only [decide_eq_true_eq]; omega)]
        have e7 : (99 : Int) - ((j + 1 : Nat) : Int) = 99 - (j : Int) + -1 := by omega
        have h9 := ih S_32 ⟨fun c a b e f => by rw [hf2.1 c a b e f, su_ne _ a]; exact f1 c a b e f, fun k a b e f => by rw [hf2.2 k a, su_nk _ _ _ f]; exact f2 k a b e f, by rw [hf2.2 23 (by decide), su_nk _ _ _ (by decide)]; exact f3, by rw [hf2.2 24 (by decide), su_nk _ _ _ (by decide)]; exact f4⟩
        rw [e9, e7] at h9
        exact h9
      · refine G_iload hk dX11_spyOf_48 rfl ?_
        refine G_goto (tgt := 55) hk dX11_spyOf_50 (by decide) ?_
        refine G_istore hk dX11_spyOf_55 (by decide) rfl ?_
        refine G_iinc hk dX11_spyOf_57 rfl (by decide) rfl ?_
        refine G_goto (tgt := 17) hk dX11_spyOf_60 (by decide) ?_
        have e9 : fdn (spc (av S) y p z) (j + 1) = 99 - (j : Int) := by
          simp only [fdn]
          rw [if_pos (by unfold spc; rw [en]; simp only [decide_eq_true_eq]; omega), en]
        have e7 : (99 : Int) - ((j + 1 : Nat) : Int) = 99 - (j : Int) + -1 := by omega
        have h9 := ih S_32 ⟨fun c a b e f => by rw [hf2.1 c a b e f, su_ne _ a]; exact f1 c a b e f, fun k a b e f => by rw [hf2.2 k a, su_nk _ _ _ f]; exact f2 k a b e f, by rw [hf2.2 23 (by decide), su_nk _ _ _ (by decide)]; exact f3, by rw [hf2.2 24 (by decide), su_nk _ _ _ (by decide)]; exact f4⟩
        rw [e9, e7] at h9
        exact h9

theorem c_X11_spy (l : Launch) (Γ : Ev) (d : Nat) (S : Sx) (hI : InvM S) (y p z : Int) (h_y : R32 y) (h_p : R32 p) (h_z : R32 z) : Ctr l Γ (d + 8) mX11_spy [rf Γ 44, vI y, vI p, vI z] S (pI (fun r S2 => r = a_spy (av S) y p z ∧ frQ S S2)) := by
  refine Ctr.of (by decide) rfl rfl (Nat.le_of_ble_eq_true rfl) ?_
  intro κ hl hk hr
  subst hl
  refine G_rload_n hk dX11_spy_0 rfl ?_
  refine G_cV0I hk dX11_spy_1 mvX11_reads mlX11_113 (by decide) rfl rfl (Nat.le_of_ble_eq_true rfl) (c_rd hI) (fun r_1 S_1 hp_1 => ?_)
  obtain ⟨hr0, hR, hq⟩ := hp_1
  have eQ := av_frQ hq
  have e8 : S_1 44 8 = (aN (av S) : Int) := by rw [hR.2.1, eQ]
  have n8 := aN_8 hI.1
  refine G_pop hk dX11_spy_4 rfl ?_
  refine G_iload_n hk dX11_spy_5 rfl ?_
  refine G_cS1P hk dX11_spy_6 msX11_isYear mlX11_130 (Nat.le_of_ble_eq_true rfl) (c_X11_isYear _ Γ (d + 6) _ _ ⟨by omega, by omega⟩) ?_
  refine G_bif_eq (tgt := 42) hk dX11_spy_9 (by decide) (fun h_9 => ?_) (fun h_9 => ?_)
  · refine G_bipush hk dX11_spy_42 (by decide) ?_
    exact G_iret hk hr dX11_spy_44 ⟨by unfold a_spy; (repeat' split) <;> first | (exfalso; omega) | rfl, hq⟩
  · refine G_rload_n hk dX11_spy_12 rfl ?_
    refine G_iload_n hk dX11_spy_13 rfl ?_
    refine G_cV1P hk dX11_spy_14 mvX11_isPerson mlX11_121 (by decide) rfl rfl (Nat.le_of_ble_eq_true rfl) (c_X11_isPerson _ Γ (d + 6) _ _ ⟨by omega, by omega⟩ ⟨by omega, by omega⟩) ?_
    refine G_bif_eq (tgt := 42) hk dX11_spy_17 (by decide) (fun h_17 => ?_) (fun h_17 => ?_)
    · refine G_bipush hk dX11_spy_42 (by decide) ?_
      exact G_iret hk hr dX11_spy_44 ⟨by unfold a_spy; (repeat' split) <;> first | (exfalso; omega) | rfl, hq⟩
    · refine G_iload_n hk dX11_spy_20 rfl ?_
      refine G_i2l hk dX11_spy_21 ⟨by omega, by omega⟩ ?_
      refine G_lconst (z := 1) hk dX11_spy_22 (by decide) ?_
      refine G_ldc2 (z := (9)) hk dX11_spy_23 kcX11_103 (by decide) ?_
      refine G_cS3P hk dX11_spy_26 msX11_in mlX11_64 (Nat.le_of_ble_eq_true rfl) (c_X11_in _ Γ (d + 7) _ _ _ _ ⟨by omega, by omega⟩ ⟨by omega, by omega⟩ ⟨by omega, by omega⟩) ?_
      refine G_bif_eq (tgt := 42) hk dX11_spy_29 (by decide) (fun h_29 => ?_) (fun h_29 => ?_)
      · refine G_bipush hk dX11_spy_42 (by decide) ?_
        exact G_iret hk hr dX11_spy_44 ⟨by unfold a_spy; (repeat' split) <;> first | (exfalso; omega) | rfl, hq⟩
      · refine G_rload_n hk dX11_spy_32 rfl ?_
        refine G_iload_n hk dX11_spy_33 rfl ?_
        refine G_iload_n hk dX11_spy_34 rfl ?_
        refine G_iload_n hk dX11_spy_35 rfl ?_
        refine G_cV3I hk dX11_spy_36 mvX11_spyOf mlX11_246 (by decide) rfl rfl (Nat.le_of_ble_eq_true rfl) (c_X11_spyOf _ Γ (d + 0) _ hR _ _ _ ⟨by omega, by omega⟩ (by rw [eQ]; exact ⟨by omega, by omega⟩) ⟨by omega, by omega⟩) (fun r_36 S_36 hp_36 => ?_)
        refine G_goto (tgt := 44) hk dX11_spy_39 (by decide) ?_
        exact G_iret hk hr dX11_spy_44 ⟨by unfold a_spy; rw [hp_36.1, eQ]; (repeat' split) <;> first | (exfalso; omega) | rfl, frQ_t hq (frQ_P hp_36.2.2)⟩
