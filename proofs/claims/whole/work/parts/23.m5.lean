theorem Ctr_mono {l : Launch} {Γ : Ev} {d : Nat} {M : Mth} {avs : List Value} {S : Sx} {post post2 : Option Value → Sx → Prop} (h : Ctr l Γ d M avs S post) (hp : ∀ v S2, post v S2 → post2 v S2) : Ctr l Γ d M avs S post2 := by
  intro sz
  have h1 := h sz
  intro p e ha hc hk s m args below hf happ hP hk2
  obtain ⟨t, o, a1, a2, a3, a4⟩ := h1 p e ha hc hk s m args below hf happ hP hk2
  refine ⟨t, o, a1, a2, a3, ⟨⟨?_, a4.1.2⟩, a4.2⟩⟩
  obtain ⟨v, S2, b1, b2, b3⟩ := a4.1.1
  exact ⟨v, S2, b1, hp v S2 b2, b3⟩
theorem c_rd {l : Launch} {Γ : Ev} {d : Nat} {S : Sx} (hI : InvM S) : Ctr l Γ (d + 2) mX11_reads [rf Γ 44] S (pI (fun r S2 => r = flt (av S).1 (av S).2.1 ∧ RdM S2 ∧ frQ S S2)) := by
  have h := c_X11_reads l Γ d S (S 44 6).toNat (by have := hI.2.1; omega) hI.1.1 (fun j hj => hI.1.2.1 j (by have h9 := hI.1.1; have h8 : (av S).1 = (S 44 6).toNat := rfl; omega))
  refine Ctr_mono h ?_
  rintro v S2 ⟨r, rfl, h1, h2, h3, h4⟩
  have hq : frQ S S2 := by
    refine ⟨fun c a b _ _ _ _ => h4.1 c a b, fun k hk => h4.2 k (by omega) (by omega), ?_, ?_⟩
    · rw [h4.2 20 (by decide) (by decide)]; exact hI.2.2.2.2.1
    · rw [h4.2 23 (by decide) (by decide)]; exact hI.2.2.2.2.2.2.1
  refine ⟨r, rfl, h1, ⟨InvM_frQ hI hq, ?_, ?_⟩, hq⟩
  · rw [av_frQ hq]; exact h2
  · rw [av_frQ hq, hq.1 49 (by decide) (by decide) (by decide) (by decide) (by decide) (by decide)]; exact h3
theorem frP_4 {S S2 : Sx} (hR : RdM S) (h : fr4 S S2) : frP S S2 := by
  refine ⟨fun c a b e f _ => h.1 c a b e f, fun k hk => h.2 k (by omega), ?_, ?_⟩
  · rw [h.2 20 (by decide)]; exact hR.1.2.2.2.2.1
  · rw [h.2 23 (by decide)]; exact hR.1.2.2.2.2.2.2.1
theorem c_lv {l : Launch} {Γ : Ev} {d : Nat} {S : Sx} {y : Int} (hR : RdM S) (hy : 0 ≤ y ∧ y ≤ 100) : Ctr l Γ (d + 6) mX11_lives [rf Γ 44, vI y] S (pV (fun S2 => MSim (aN (av S)) (lv (av S) (y.toNat + 1)) S2 ∧ RdM S2 ∧ frP S S2)) := by
  have h := c_X11_lives l Γ d S y hy (rdm_sim hR) (a0 (av S)) (fun p hp => (hR.2.2 p hp).1) a0_99 (rdm_mo hR)
  refine Ctr_mono h ?_
  rintro v S2 ⟨rfl, h1, h2, h3⟩
  have hp := frP_4 hR h3
  refine ⟨rfl, ?_, RdM_frP hR hp, hp⟩
  have i4 := hR.1.2.2.2
  rw [rdm_en, liv_plain (show (moS S).2.2.1 = -1 from i4.2.2.1) (show (moS S).2.2.2.2.2 = 0 from i4.2.2.2.2)] at h1
  have e : (moS S).1 = -1 := i4.1
  rw [e, lvs_m1 _ _ 0] at h1
  exact h1

theorem c_X11_unseenNow (l : Launch) (Γ : Ev) (d : Nat) (S : Sx) (hR : RdM S) (X : Sim) (hX : MSim (aN (av S)) X S) (b : Int) (hB : SB (aN (av S)) (aP (av S)) b X) (hb : b ≤ 100000) : Ctr l Γ d mX11_unseenNow [rf Γ 44] S (pP S (bsm (fun p => decide (X.1 p < aF (av S))) (aN (av S)))) := by
  refine Ctr.of (by decide) rfl rfl (Nat.le_of_ble_eq_true rfl) ?_
  intro κ hl hk hr
  subst hl
  have hC := rdm_sim hR
  have c1 := hC.1
  have hA := hR.1.1
  have f9 := hA.2.2.2.2.2.2.1
  have eF : S 44 14 = aF (av S) := rfl
  refine G_iconst hk dX11_unseenNow_0 ?_
  refine G_istore_n hk dX11_unseenNow_1 (by decide) rfl ?_
  refine G_iconst hk dX11_unseenNow_2 ?_
  refine G_istore_n hk dX11_unseenNow_3 (by decide) rfl ?_
  have lp := loop_up (P := fun k => GW κ Γ 4 [some (rf Γ 44), some (vI (bsm (fun p => decide (X.1 p < aF (av S))) k)), some (vI k)] [] (wl Γ S)) (aN (av S)) ?_ ?_ 0 (Nat.zero_le _)
  · exact lp
  · skip
    refine G_iload_n hk dX11_unseenNow_4 rfl ?_
    refine G_rload_n hk dX11_unseenNow_5 rfl ?_
    refine G_getI hk dX11_unseenNow_6 flX11_97 (by decide) rfl rfl ?_
    refine G_icmp_ge (tgt := 41) hk dX11_unseenNow_9 (by decide) ⟨by omega, by omega⟩ ⟨by omega, by omega⟩ (fun h_9 => ?_) (fun h_9 => ?_)
    · refine G_iload_n hk dX11_unseenNow_41 rfl ?_
      exact G_iret hk hr dX11_unseenNow_42 ⟨rfl, rfl⟩
    · exact absurd h_9 (by omega)--stop
  · intro k hk9 ih
    have s54 := hB.1 k hk9
    rw [← hX.1 k hk9] at s54
    have e54 := hX.1 k hk9
    refine G_iload_n hk dX11_unseenNow_4 rfl ?_
    refine G_rload_n hk dX11_unseenNow_5 rfl ?_
    refine G_getI hk dX11_unseenNow_6 flX11_97 (by decide) rfl rfl ?_
    refine G_icmp_ge (tgt := 41) hk dX11_unseenNow_9 (by decide) ⟨by omega, by omega⟩ ⟨by omega, by omega⟩ (fun h_9 => ?_) (fun h_9 => ?_)
    · exact absurd h_9 (by omega)--stop
    · refine G_iload_n hk dX11_unseenNow_12 rfl ?_
      refine G_rload_n hk dX11_unseenNow_13 rfl ?_
      refine G_getR hk dX11_unseenNow_14 flX11_37 (by decide) rfl rfl ?_
      refine G_iload_n hk dX11_unseenNow_17 rfl ?_
      refine G_iald hk dX11_unseenNow_18 (by decide) rfl (by decide) (by omega) (by omega) ?_
      rw [Int.toNat_natCast]
      refine G_rload_n hk dX11_unseenNow_19 rfl ?_
      refine G_getI hk dX11_unseenNow_20 flX11_52 (by decide) rfl rfl ?_
      refine G_icmp_ge (tgt := 32) hk dX11_unseenNow_23 (by decide) ⟨by omega, by omega⟩ ⟨by omega, by omega⟩ (fun h_23 => ?_) (fun h_23 => ?_)
      · refine G_iconst hk dX11_unseenNow_32 ?_
        refine G_ior hk dX11_unseenNow_33 ?_
        rw [bsm_or0 (fun p => decide (X.1 p < aF (av S))) (by omega) (by simp only [decide_eq_false_iff_not]; omega)]
        refine G_istore_n hk dX11_unseenNow_34 (by decide) rfl ?_
        refine G_iinc hk dX11_unseenNow_35 rfl (by decide) rfl ?_
        refine G_goto (tgt := 4) hk dX11_unseenNow_38 (by decide) ?_
        exact ih
      · refine G_iconst hk dX11_unseenNow_26 ?_
        refine G_iload_n hk dX11_unseenNow_27 rfl ?_
        refine G_ishl hk dX11_unseenNow_28 (by omega) (shl_ok (by omega)) (by omega) (by omega) ?_
        refine G_goto (tgt := 33) hk dX11_unseenNow_29 (by decide) ?_
        refine G_ior hk dX11_unseenNow_33 ?_
        rw [bsm_or1 (fun p => decide (X.1 p < aF (av S))) (by omega) (by simp only [decide_eq_true_eq]; omega)]
        refine G_istore_n hk dX11_unseenNow_34 (by decide) rfl ?_
        refine G_iinc hk dX11_unseenNow_35 rfl (by decide) rfl ?_
        refine G_goto (tgt := 4) hk dX11_unseenNow_38 (by decide) ?_
        exact ih

theorem c_X11_thereNow (l : Launch) (Γ : Ev) (d : Nat) (S : Sx) (hR : RdM S) (X : Sim) (hX : MSim (aN (av S)) X S) (b : Int) (hB : SB (aN (av S)) (aP (av S)) b X) (hb : b ≤ 100000) : Ctr l Γ d mX11_thereNow [rf Γ 44] S (pP S (bsm (fun k => decide (X.2.2 k = 1)) (anp (av S)))) := by
  refine Ctr.of (by decide) rfl rfl (Nat.le_of_ble_eq_true rfl) ?_
  intro κ hl hk hr
  subst hl
  have hC := rdm_sim hR
  have c1 := hC.1
  have hA := hR.1.1
  have f9 := hA.2.2.2.2.2.2.1
  have eF : S 44 14 = aF (av S) := rfl
  refine G_iconst hk dX11_thereNow_0 ?_
  refine G_istore_n hk dX11_thereNow_1 (by decide) rfl ?_
  refine G_iconst hk dX11_thereNow_2 ?_
  refine G_istore_n hk dX11_thereNow_3 (by decide) rfl ?_
  have lp := loop_up (P := fun k => GW κ Γ 4 [some (rf Γ 44), some (vI (bsm (fun k => decide (X.2.2 k = 1)) k)), some (vI k)] [] (wl Γ S)) (anp (av S)) ?_ ?_ 0 (Nat.zero_le _)
  · exact lp
  · skip
    refine G_iload_n hk dX11_thereNow_4 rfl ?_
    refine G_rload_n hk dX11_thereNow_5 rfl ?_
    refine G_getI hk dX11_thereNow_6 flX11_139 (by decide) rfl rfl ?_
    refine G_icmp_ge (tgt := 38) hk dX11_thereNow_9 (by decide) ⟨by omega, by omega⟩ ⟨by omega, by omega⟩ (fun h_9 => ?_) (fun h_9 => ?_)
    · refine G_iload_n hk dX11_thereNow_38 rfl ?_
      exact G_iret hk hr dX11_thereNow_39 ⟨rfl, rfl⟩
    · exact absurd h_9 (by omega)--stop
  · intro k hk9 ih
    have e56 := hX.2.2 k (by omega)
    have s56 := hB.2.2 k (by omega)
    rw [← e56] at s56
    refine G_iload_n hk dX11_thereNow_4 rfl ?_
    refine G_rload_n hk dX11_thereNow_5 rfl ?_
    refine G_getI hk dX11_thereNow_6 flX11_139 (by decide) rfl rfl ?_
    refine G_icmp_ge (tgt := 38) hk dX11_thereNow_9 (by decide) ⟨by omega, by omega⟩ ⟨by omega, by omega⟩ (fun h_9 => ?_) (fun h_9 => ?_)
    · exact absurd h_9 (by omega)--stop
    · refine G_iload_n hk dX11_thereNow_12 rfl ?_
      refine G_rload_n hk dX11_thereNow_13 rfl ?_
      refine G_getR hk dX11_thereNow_14 flX11_43 (by decide) rfl rfl ?_
      refine G_iload_n hk dX11_thereNow_17 rfl ?_
      refine G_iald hk dX11_thereNow_18 (by decide) rfl (by decide) (by omega) (by omega) ?_
      rw [Int.toNat_natCast]
      refine G_iconst hk dX11_thereNow_19 ?_
      refine G_icmp_ne (tgt := 29) hk dX11_thereNow_20 (by decide) ⟨by omega, by omega⟩ ⟨by omega, by omega⟩ (fun h_20 => ?_) (fun h_20 => ?_)
      · refine G_iconst hk dX11_thereNow_29 ?_
        refine G_ior hk dX11_thereNow_30 ?_
        rw [bsm_or0 (fun k => decide (X.2.2 k = 1)) (by omega) (by simp only [decide_eq_false_iff_not]; omega)]
        refine G_istore_n hk dX11_thereNow_31 (by decide) rfl ?_
        refine G_iinc hk dX11_thereNow_32 rfl (by decide) rfl ?_
        refine G_goto (tgt := 4) hk dX11_thereNow_35 (by decide) ?_
        exact ih
      · refine G_iconst hk dX11_thereNow_23 ?_
        refine G_iload_n hk dX11_thereNow_24 rfl ?_
        refine G_ishl hk dX11_thereNow_25 (by omega) (shl_ok (by omega)) (by omega) (by omega) ?_
        refine G_goto (tgt := 30) hk dX11_thereNow_26 (by decide) ?_
        refine G_ior hk dX11_thereNow_30 ?_
        rw [bsm_or1 (fun k => decide (X.2.2 k = 1)) (by omega) (by simp only [decide_eq_true_eq]; omega)]
        refine G_istore_n hk dX11_thereNow_31 (by decide) rfl ?_
        refine G_iinc hk dX11_thereNow_32 rfl (by decide) rfl ?_
        refine G_goto (tgt := 4) hk dX11_thereNow_35 (by decide) ?_
        exact ih

def hol (A : Av) (X : Sim) (w : Int) : Int := ssm (fun k => if X.2.2 k = 1 ∧ aP A (4 * k + 3) = w then X.2.1 (2 * k) + X.2.1 (2 * k + 1) else 0) (anp A)
def allf (A : Av) (X : Sim) : Int := ssm X.1 (aN A) + ssm (fun w => hol A X (w : Int)) 4

theorem c_X11_holds (l : Launch) (Γ : Ev) (d : Nat) (S : Sx) (hR : RdM S) (X : Sim) (hX : MSim (aN (av S)) X S) (b : Int) (hB : SB (aN (av S)) (aP (av S)) b X) (hb : b ≤ 100000) (w : Int) (hw : R32 w) : Ctr l Γ d mX11_holds [rf Γ 44, vI w] S (pP S (hol (av S) X w)) := by
  refine Ctr.of (by decide) rfl rfl (Nat.le_of_ble_eq_true rfl) ?_
  intro κ hl hk hr
  subst hl
  have hC := rdm_sim hR
  have c1 := hC.1
  have hA := hR.1.1
  have f9 := hA.2.2.2.2.2.2.1
  have eF : S 44 14 = aF (av S) := rfl
  refine G_iconst hk dX11_holds_0 ?_
  refine G_istore_n hk dX11_holds_1 (by decide) rfl ?_
  refine G_iconst hk dX11_holds_2 ?_
  refine G_istore_n hk dX11_holds_3 (by decide) rfl ?_
  have lp := loop_up (P := fun k => GW κ Γ 4 [some (rf Γ 44), some (vI w), some (vI (ssm (fun k => if X.2.2 k = 1 ∧ aP (av S) (4 * k + 3) = w then X.2.1 (2 * k) + X.2.1 (2 * k + 1) else 0) k)), some (vI k)] [] (wl Γ S)) (anp (av S)) ?_ ?_ 0 (Nat.zero_le _)
  · exact lp
  · skip
    refine G_iload_n hk dX11_holds_4 rfl ?_
    refine G_rload_n hk dX11_holds_5 rfl ?_
    refine G_getI hk dX11_holds_6 flX11_139 (by decide) rfl rfl ?_
    refine G_icmp_ge (tgt := 68) hk dX11_holds_9 (by decide) ⟨by omega, by omega⟩ ⟨by omega, by omega⟩ (fun h_9 => ?_) (fun h_9 => ?_)
    · refine G_iload_n hk dX11_holds_68 rfl ?_
      exact G_iret hk hr dX11_holds_69 ⟨rfl, rfl⟩
    · exact absurd h_9 (by omega)--stop
  · intro k hk9 ih
    have e56 := hX.2.2 k (by omega)
    have s56 := hB.2.2 k (by omega)
    rw [← e56] at s56
    have hq := hC.2.2.2.1 k hk9
    have e5 := hX.2.1 (2 * k) (by omega)
    have e6 := hX.2.1 (2 * k + 1) (by omega)
    have eP : aP (av S) = S 51 := rfl
    refine G_iload_n hk dX11_holds_4 rfl ?_
    refine G_rload_n hk dX11_holds_5 rfl ?_
    refine G_getI hk dX11_holds_6 flX11_139 (by decide) rfl rfl ?_
    refine G_icmp_ge (tgt := 68) hk dX11_holds_9 (by decide) ⟨by omega, by omega⟩ ⟨by omega, by omega⟩ (fun h_9 => ?_) (fun h_9 => ?_)
    · exact absurd h_9 (by omega)--stop
    · refine G_iload_n hk dX11_holds_12 rfl ?_
      refine G_rload_n hk dX11_holds_13 rfl ?_
      refine G_getR hk dX11_holds_14 flX11_43 (by decide) rfl rfl ?_
      refine G_iload_n hk dX11_holds_17 rfl ?_
      refine G_iald hk dX11_holds_18 (by decide) rfl (by decide) (by omega) (by omega) ?_
      rw [Int.toNat_natCast]
      refine G_iconst hk dX11_holds_19 ?_
      refine G_icmp_ne (tgt := 59) hk dX11_holds_20 (by decide) ⟨by omega, by omega⟩ ⟨by omega, by omega⟩ (fun h_20 => ?_) (fun h_20 => ?_)
      · refine G_iconst hk dX11_holds_59 ?_
        refine G_iadd hk dX11_holds_60 ?_
        refine G_istore_n hk dX11_holds_61 (by decide) rfl ?_
        refine G_iinc hk dX11_holds_62 rfl (by decide) rfl ?_
        refine G_goto (tgt := 4) hk dX11_holds_65 (by decide) ?_
        have e9 : ssm (fun k => if X.2.2 k = 1 ∧ aP (av S) (4 * k + 3) = w then X.2.1 (2 * k) + X.2.1 (2 * k + 1) else 0) k + 0 = ssm (fun k => if X.2.2 k = 1 ∧ aP (av S) (4 * k + 3) = w then X.2.1 (2 * k) + X.2.1 (2 * k + 1) else 0) (k + 1) := by
          simp only [ssm]
          congr 1
          rw [if_neg (by rw [eP]; omega)]
        rw [e9]
        exact ih
      · refine G_rload_n hk dX11_holds_23 rfl ?_
        refine G_getR hk dX11_holds_24 flX11_28 (by decide) rfl rfl ?_
        refine G_iconst hk dX11_holds_27 ?_
        refine G_iload_n hk dX11_holds_28 rfl ?_
        refine G_imul hk dX11_holds_29 ?_
        refine G_iconst hk dX11_holds_30 ?_
        refine G_iadd hk dX11_holds_31 ?_
        refine G_iald hk dX11_holds_32 (by decide) rfl (by decide) (by omega) (by omega) ?_
        rw [show (4 * (k : Int) + 3).toNat = 4 * k + 3 by omega]
        refine G_iload_n hk dX11_holds_33 rfl ?_
        refine G_icmp_ne (tgt := 59) hk dX11_holds_34 (by decide) ⟨by omega, by omega⟩ ⟨by omega, by omega⟩ (fun h_34 => ?_) (fun h_34 => ?_)
        · refine G_iconst hk dX11_holds_59 ?_
          refine G_iadd hk dX11_holds_60 ?_
          refine G_istore_n hk dX11_holds_61 (by decide) rfl ?_
          refine G_iinc hk dX11_holds_62 rfl (by decide) rfl ?_
          refine G_goto (tgt := 4) hk dX11_holds_65 (by decide) ?_
          have e9 : ssm (fun k => if X.2.2 k = 1 ∧ aP (av S) (4 * k + 3) = w then X.2.1 (2 * k) + X.2.1 (2 * k + 1) else 0) k + 0 = ssm (fun k => if X.2.2 k = 1 ∧ aP (av S) (4 * k + 3) = w then X.2.1 (2 * k) + X.2.1 (2 * k + 1) else 0) (k + 1) := by
            simp only [ssm]
            congr 1
            rw [if_neg (by rw [eP]; omega)]
          rw [e9]
          exact ih
        · refine G_rload_n hk dX11_holds_37 rfl ?_
          refine G_getR hk dX11_holds_38 flX11_40 (by decide) rfl rfl ?_
          refine G_iconst hk dX11_holds_41 ?_
          refine G_iload_n hk dX11_holds_42 rfl ?_
          refine G_imul hk dX11_holds_43 ?_
          refine G_iald hk dX11_holds_44 (by decide) rfl (by decide) (by omega) (by omega) ?_
          rw [show (2 * (k : Int)).toNat = 2 * k by omega]
          refine G_rload_n hk dX11_holds_45 rfl ?_
          refine G_getR hk dX11_holds_46 flX11_40 (by decide) rfl rfl ?_
          refine G_iconst hk dX11_holds_49 ?_
          refine G_iload_n hk dX11_holds_50 rfl ?_
          refine G_imul hk dX11_holds_51 ?_
          refine G_iconst hk dX11_holds_52 ?_
          refine G_iadd hk dX11_holds_53 ?_
          refine G_iald hk dX11_holds_54 (by decide) rfl (by decide) (by omega) (by omega) ?_
          rw [show (2 * (k : Int) + 1).toNat = 2 * k + 1 by omega]
          refine G_iadd hk dX11_holds_55 ?_
          refine G_goto (tgt := 60) hk dX11_holds_56 (by decide) ?_
          refine G_iadd hk dX11_holds_60 ?_
          refine G_istore_n hk dX11_holds_61 (by decide) rfl ?_
          refine G_iinc hk dX11_holds_62 rfl (by decide) rfl ?_
          refine G_goto (tgt := 4) hk dX11_holds_65 (by decide) ?_
          have e9 : ssm (fun k => if X.2.2 k = 1 ∧ aP (av S) (4 * k + 3) = w then X.2.1 (2 * k) + X.2.1 (2 * k + 1) else 0) k + (S 55 (2 * k) + S 55 (2 * k + 1)) = ssm (fun k => if X.2.2 k = 1 ∧ aP (av S) (4 * k + 3) = w then X.2.1 (2 * k) + X.2.1 (2 * k + 1) else 0) (k + 1) := by
            simp only [ssm]
            congr 1
            rw [if_pos ⟨by omega, by rw [eP]; omega⟩, e5, e6]
          rw [e9]
          exact ih

theorem c_X11_allNow (l : Launch) (Γ : Ev) (d : Nat) (S : Sx) (hR : RdM S) (X : Sim) (hX : MSim (aN (av S)) X S) (b : Int) (hB : SB (aN (av S)) (aP (av S)) b X) (hb : b ≤ 100000) : Ctr l Γ (d + 1) mX11_allNow [rf Γ 44] S (pP S (allf (av S) X)) := by
  refine Ctr.of (by decide) rfl rfl (Nat.le_of_ble_eq_true rfl) ?_
  intro κ hl hk hr
  subst hl
  have hC := rdm_sim hR
  have c1 := hC.1
  have hA := hR.1.1
  have f9 := hA.2.2.2.2.2.2.1
  have eF : S 44 14 = aF (av S) := rfl
  refine G_iconst hk dX11_allNow_0 ?_
  refine G_istore_n hk dX11_allNow_1 (by decide) rfl ?_
  refine G_iconst hk dX11_allNow_2 ?_
  refine G_istore_n hk dX11_allNow_3 (by decide) rfl ?_
  have lp := loop_up (P := fun k => GW κ Γ 4 [some (rf Γ 44), some (vI (ssm X.1 k)), some (vI k)] [] (wl Γ S)) (aN (av S)) ?_ ?_ 0 (Nat.zero_le _)
  · exact lp
  · skip
    refine G_iload_n hk dX11_allNow_4 rfl ?_
    refine G_rload_n hk dX11_allNow_5 rfl ?_
    refine G_getI hk dX11_allNow_6 flX11_97 (by decide) rfl rfl ?_
    refine G_icmp_ge (tgt := 27) hk dX11_allNow_9 (by decide) ⟨by omega, by omega⟩ ⟨by omega, by omega⟩ (fun h_9 => ?_) (fun h_9 => ?_)
    · refine G_iconst hk dX11_allNow_27 ?_
      refine G_istore_n hk dX11_allNow_28 (by decide) rfl ?_
      have lp2 := loop_up (P := fun k => GW κ Γ 29 [some (rf Γ 44), some (vI (ssm X.1 (aN (av S)) + ssm (fun w => hol (av S) X (w : Int)) k)), some (vI k)] [] (wl Γ S)) 4 ?_ ?_ 0 (Nat.zero_le _)
      · have e0 : ssm X.1 (aN (av S)) + ssm (fun w => hol (av S) X (w : Int)) 0 = ssm X.1 (aN (av S)) := Int.add_zero _
        rw [e0] at lp2
        exact lp2
      · skip
        refine G_iload_n hk dX11_allNow_29 rfl ?_
        refine G_iconst hk dX11_allNow_30 ?_
        refine G_icmp_ge (tgt := 48) hk dX11_allNow_31 (by decide) ⟨by omega, by omega⟩ ⟨by omega, by omega⟩ (fun h_31 => ?_) (fun h_31 => ?_)
        · refine G_iload_n hk dX11_allNow_48 rfl ?_
          exact G_iret hk hr dX11_allNow_49 ⟨rfl, rfl⟩
        · exact absurd h_31 (by omega)--stop
      · intro k hk9 ih
        refine G_iload_n hk dX11_allNow_29 rfl ?_
        refine G_iconst hk dX11_allNow_30 ?_
        refine G_icmp_ge (tgt := 48) hk dX11_allNow_31 (by decide) ⟨by omega, by omega⟩ ⟨by omega, by omega⟩ (fun h_31 => ?_) (fun h_31 => ?_)
        · exact absurd h_31 (by omega)--stop
        · refine G_iload_n hk dX11_allNow_34 rfl ?_
          refine G_rload_n hk dX11_allNow_35 rfl ?_
          refine G_iload_n hk dX11_allNow_36 rfl ?_
          refine G_cV1P hk dX11_allNow_37 mvX11_holds mlX11_195 (by decide) rfl rfl (Nat.le_of_ble_eq_true rfl) (c_X11_holds _ Γ (d + 0) _ hR X hX b hB hb _ ⟨by omega, by omega⟩) ?_
          refine G_iadd hk dX11_allNow_40 ?_
          refine G_istore_n hk dX11_allNow_41 (by decide) rfl ?_
          refine G_iinc hk dX11_allNow_42 rfl (by decide) rfl ?_
          refine G_goto (tgt := 29) hk dX11_allNow_45 (by decide) ?_
          have e9 : ssm X.1 (aN (av S)) + ssm (fun w => hol (av S) X (w : Int)) k + hol (av S) X (k : Int) = ssm X.1 (aN (av S)) + ssm (fun w => hol (av S) X (w : Int)) (k + 1) := by
            simp only [ssm]; omega
          rw [e9]
          exact ih
    · exact absurd h_9 (by omega)--stop
  · intro k hk9 ih
    have e54 := hX.1 k hk9
    refine G_iload_n hk dX11_allNow_4 rfl ?_
    refine G_rload_n hk dX11_allNow_5 rfl ?_
    refine G_getI hk dX11_allNow_6 flX11_97 (by decide) rfl rfl ?_
    refine G_icmp_ge (tgt := 27) hk dX11_allNow_9 (by decide) ⟨by omega, by omega⟩ ⟨by omega, by omega⟩ (fun h_9 => ?_) (fun h_9 => ?_)
    · exact absurd h_9 (by omega)--stop
    · refine G_iload_n hk dX11_allNow_12 rfl ?_
      refine G_rload_n hk dX11_allNow_13 rfl ?_
      refine G_getR hk dX11_allNow_14 flX11_37 (by decide) rfl rfl ?_
      refine G_iload_n hk dX11_allNow_17 rfl ?_
      refine G_iald hk dX11_allNow_18 (by decide) rfl (by decide) (by omega) (by omega) ?_
      rw [Int.toNat_natCast, e54]
      refine G_iadd hk dX11_allNow_19 ?_
      refine G_istore_n hk dX11_allNow_20 (by decide) rfl ?_
      refine G_iinc hk dX11_allNow_21 rfl (by decide) rfl ?_
      refine G_goto (tgt := 4) hk dX11_allNow_24 (by decide) ?_
      exact ih

def a_behindOf (A : Av) (y w : Int) : Int := if w = 0 then bsm (fun p => decide ((lv A (y.toNat + 1)).1 p < aF A)) (aN A) else if w = 1 then bsm (fun k => decide ((lv A (y.toNat + 1)).2.2 k = 1)) (anp A) else allf A (lv A (y.toNat + 1))
def a_behind (A : Av) (y w : Int) : Int := if ¬ (0 ≤ y ∧ y ≤ 29) then -2 else if ¬ (0 ≤ w ∧ w ≤ 2) then -2 else a_behindOf A y w
def a_drawerOf (A : Av) (y w : Int) : Int := hol A (lv A (y.toNat + 1)) w
def a_drawer (A : Av) (y w : Int) : Int := if ¬ (0 ≤ y ∧ y ≤ 29) then -2 else if ¬ (0 ≤ w ∧ w ≤ 3) then -2 else a_drawerOf A y w
def a_tookOf (A : Av) (k w : Int) : Int := (lv A 30).2.1 (2 * k + w).toNat
def a_took (A : Av) (k w : Int) : Int := if ¬ (0 ≤ k ∧ k ≤ (anp A : Int) - 1) then -2 else if ¬ (0 ≤ w ∧ w ≤ 1) then -2 else a_tookOf A k w
def a_solidOf (A : Av) (y p : Int) : Int := (lv A (y.toNat + 1)).1 p.toNat
def a_solid (A : Av) (y p : Int) : Int := if ¬ (0 ≤ y ∧ y ≤ 29) then -2 else if ¬ (0 ≤ p ∧ p ≤ (aN A : Int) - 1) then -2 else a_solidOf A y p
def a_fault (A : Av) : Int := flt A.1 A.2.1
def a_person (A : Av) (p w : Int) : Int := if ¬ (0 ≤ p ∧ p ≤ (aN A : Int) - 1) then -2 else if ¬ (0 ≤ w ∧ w ≤ 1) then -2 else if w = 0 then a0 A p.toNat else aTw A p.toNat

theorem c_X11_behindOf (l : Launch) (Γ : Ev) (d : Nat) (S : Sx) (hR : RdM S) (y w : Int) (hy : 0 ≤ y ∧ y ≤ 29) (hw : 0 ≤ w ∧ w ≤ 2) : Ctr l Γ (d + 7) mX11_behindOf [rf Γ 44, vI y, vI w] S (pI (fun r S2 => r = a_behindOf (av S) y w ∧ RdM S2 ∧ frP S S2)) := by
  refine Ctr.of (by decide) rfl rfl (Nat.le_of_ble_eq_true rfl) ?_
  intro κ hl hk hr
  subst hl
  refine G_rload_n hk dX11_behindOf_0 rfl ?_
  refine G_iload_n hk dX11_behindOf_1 rfl ?_
  refine G_cV1V hk dX11_behindOf_2 mvX11_lives mlX11_192 (by decide) rfl rfl (Nat.le_of_ble_eq_true rfl) (c_lv hR ⟨by omega, by omega⟩) (fun S_2 hp_2 => ?_)
  obtain ⟨hX1, hR1, hf1⟩ := hp_2
  have eA := av_frP hf1
  rw [← eA] at hX1
  refine G_iload_n hk dX11_behindOf_5 rfl ?_
  refine G_if_ne (tgt := 16) hk dX11_behindOf_6 (by decide) ⟨by omega, by omega⟩ (fun h_6 => ?_) (fun h_6 => ?_)
  · refine G_iload_n hk dX11_behindOf_16 rfl ?_
    refine G_iconst hk dX11_behindOf_17 ?_
    refine G_icmp_ne (tgt := 28) hk dX11_behindOf_18 (by decide) ⟨by omega, by omega⟩ ⟨by omega, by omega⟩ (fun h_18 => ?_) (fun h_18 => ?_)
    · refine G_rload_n hk dX11_behindOf_28 rfl ?_
      refine G_cV0P hk dX11_behindOf_29 mvX11_allNow mlX11_204 (by decide) rfl rfl (Nat.le_of_ble_eq_true rfl) (c_X11_allNow _ Γ (d + 5) _ hR1 _ hX1 (99 + 108 * ((y.toNat + 1 : Nat) : Int)) (lv_bd0 hR1.1.1 _) (by omega)) ?_
      exact G_iret hk hr dX11_behindOf_32 ⟨by unfold a_behindOf; rw [eA]; (repeat' split) <;> first | rfl | (exfalso; omega), hR1, hf1⟩
    · refine G_rload_n hk dX11_behindOf_21 rfl ?_
      refine G_cV0P hk dX11_behindOf_22 mvX11_thereNow mlX11_201 (by decide) rfl rfl (Nat.le_of_ble_eq_true rfl) (c_X11_thereNow _ Γ (d + 6) _ hR1 _ hX1 (99 + 108 * ((y.toNat + 1 : Nat) : Int)) (lv_bd0 hR1.1.1 _) (by omega)) ?_
      refine G_goto (tgt := 32) hk dX11_behindOf_25 (by decide) ?_
      exact G_iret hk hr dX11_behindOf_32 ⟨by unfold a_behindOf; rw [eA]; (repeat' split) <;> first | rfl | (exfalso; omega), hR1, hf1⟩
  · refine G_rload_n hk dX11_behindOf_9 rfl ?_
    refine G_cV0P hk dX11_behindOf_10 mvX11_unseenNow mlX11_198 (by decide) rfl rfl (Nat.le_of_ble_eq_true rfl) (c_X11_unseenNow _ Γ (d + 6) _ hR1 _ hX1 (99 + 108 * ((y.toNat + 1 : Nat) : Int)) (lv_bd0 hR1.1.1 _) (by omega)) ?_
    refine G_goto (tgt := 32) hk dX11_behindOf_13 (by decide) ?_
    exact G_iret hk hr dX11_behindOf_32 ⟨by unfold a_behindOf; rw [eA]; (repeat' split) <;> first | rfl | (exfalso; omega), hR1, hf1⟩

theorem c_X11_drawerOf (l : Launch) (Γ : Ev) (d : Nat) (S : Sx) (hR : RdM S) (y w : Int) (hy : 0 ≤ y ∧ y ≤ 29) (hw : R32 w) : Ctr l Γ (d + 7) mX11_drawerOf [rf Γ 44, vI y, vI w] S (pI (fun r S2 => r = a_drawerOf (av S) y w ∧ RdM S2 ∧ frP S S2)) := by
  refine Ctr.of (by decide) rfl rfl (Nat.le_of_ble_eq_true rfl) ?_
  intro κ hl hk hr
  subst hl
  refine G_rload_n hk dX11_drawerOf_0 rfl ?_
  refine G_iload_n hk dX11_drawerOf_1 rfl ?_
  refine G_cV1V hk dX11_drawerOf_2 mvX11_lives mlX11_192 (by decide) rfl rfl (Nat.le_of_ble_eq_true rfl) (c_lv hR ⟨by omega, by omega⟩) (fun S_2 hp_2 => ?_)
  obtain ⟨hX1, hR1, hf1⟩ := hp_2
  have eA := av_frP hf1
  rw [← eA] at hX1
  refine G_rload_n hk dX11_drawerOf_5 rfl ?_
  refine G_iload_n hk dX11_drawerOf_6 rfl ?_
  refine G_cV1P hk dX11_drawerOf_7 mvX11_holds mlX11_195 (by decide) rfl rfl (Nat.le_of_ble_eq_true rfl) (c_X11_holds _ Γ (d + 6) _ hR1 _ hX1 (99 + 108 * ((y.toNat + 1 : Nat) : Int)) (lv_bd0 hR1.1.1 _) (by omega) _ hw) ?_
  exact G_iret hk hr dX11_drawerOf_10 ⟨by unfold a_drawerOf; rw [eA], hR1, hf1⟩

theorem c_X11_tookOf (l : Launch) (Γ : Ev) (d : Nat) (S : Sx) (hR : RdM S) (k w : Int) (hk0 : 0 ≤ k ∧ k ≤ (anp (av S) : Int) - 1) (hw : 0 ≤ w ∧ w ≤ 1) : Ctr l Γ (d + 7) mX11_tookOf [rf Γ 44, vI k, vI w] S (pI (fun r S2 => r = a_tookOf (av S) k w ∧ RdM S2 ∧ frP S S2)) := by
  refine Ctr.of (by decide) rfl rfl (Nat.le_of_ble_eq_true rfl) ?_
  intro κ hl hk hr
  subst hl
  have h12 := hR.1.1.2.2.1
  refine G_rload_n hk dX11_tookOf_0 rfl ?_
  refine G_bipush hk dX11_tookOf_1 (by decide) ?_
  refine G_cV1V hk dX11_tookOf_3 mvX11_lives mlX11_192 (by decide) rfl rfl (Nat.le_of_ble_eq_true rfl) (c_lv hR ⟨by omega, by omega⟩) (fun S_3 hp_3 => ?_)
  obtain ⟨hX1, hR1, hf1⟩ := hp_3
  have eA := av_frP hf1
  rw [← eA] at hX1
  refine G_rload_n hk dX11_tookOf_6 rfl ?_
  refine G_getR hk dX11_tookOf_7 flX11_40 (by decide) rfl rfl ?_
  refine G_iconst hk dX11_tookOf_10 ?_
  refine G_iload_n hk dX11_tookOf_11 rfl ?_
  refine G_imul hk dX11_tookOf_12 ?_
  refine G_iload_n hk dX11_tookOf_13 rfl ?_
  refine G_iadd hk dX11_tookOf_14 ?_
  refine G_iald hk dX11_tookOf_15 (by decide) rfl (by decide) (by omega) (by omega) ?_
  exact G_iret hk hr dX11_tookOf_16 ⟨by rw [hX1.2.1 _ (by omega), eA]; rfl, hR1, hf1⟩

theorem c_X11_fault (l : Launch) (Γ : Ev) (d : Nat) (S : Sx) (hI : InvM S) : Ctr l Γ (d + 3) mX11_fault [rf Γ 44] S (pI (fun r S2 => r = a_fault (av S) ∧ frQ S S2)) := by
  refine Ctr.of (by decide) rfl rfl (Nat.le_of_ble_eq_true rfl) ?_
  intro κ hl hk hr
  subst hl
  refine G_rload_n hk dX11_fault_0 rfl ?_
  refine G_cV0I hk dX11_fault_1 mvX11_reads mlX11_113 (by decide) rfl rfl (Nat.le_of_ble_eq_true rfl) (c_rd hI) (fun r_1 S_1 hp_1 => ?_)
  obtain ⟨hr0, hR, hq⟩ := hp_1
  have eQ := av_frQ hq
  exact G_iret hk hr dX11_fault_4 ⟨hr0, hq⟩

theorem c_X11_behind (l : Launch) (Γ : Ev) (d : Nat) (S : Sx) (hI : InvM S) (y w : Int) (h_y : R32 y) (h_w : R32 w) : Ctr l Γ (d + 8) mX11_behind [rf Γ 44, vI y, vI w] S (pI (fun r S2 => r = a_behind (av S) y w ∧ frQ S S2)) := by
  refine Ctr.of (by decide) rfl rfl (Nat.le_of_ble_eq_true rfl) ?_
  intro κ hl hk hr
  subst hl
  refine G_rload_n hk dX11_behind_0 rfl ?_
  refine G_cV0I hk dX11_behind_1 mvX11_reads mlX11_113 (by decide) rfl rfl (Nat.le_of_ble_eq_true rfl) (c_rd hI) (fun r_1 S_1 hp_1 => ?_)
  obtain ⟨hr0, hR, hq⟩ := hp_1
  have eQ := av_frQ hq
  refine G_pop hk dX11_behind_4 rfl ?_
  refine G_iload_n hk dX11_behind_5 rfl ?_
  refine G_cS1P hk dX11_behind_6 msX11_isYear mlX11_130 (Nat.le_of_ble_eq_true rfl) (c_X11_isYear _ Γ (d + 6) _ _ ⟨by omega, by omega⟩) ?_
  refine G_bif_eq (tgt := 33) hk dX11_behind_9 (by decide) (fun h_9 => ?_) (fun h_9 => ?_)
  · refine G_bipush hk dX11_behind_33 (by decide) ?_
    exact G_iret hk hr dX11_behind_35 ⟨by unfold a_behind; (repeat' split) <;> first | rfl | (exfalso; omega), hq⟩
  · refine G_iload_n hk dX11_behind_12 rfl ?_
    refine G_i2l hk dX11_behind_13 ⟨by omega, by omega⟩ ?_
    refine G_lconst (z := 0) hk dX11_behind_14 (by decide) ?_
    refine G_ldc2 (z := (2)) hk dX11_behind_15 kcX11_77 (by decide) ?_
    refine G_cS3P hk dX11_behind_18 msX11_in mlX11_64 (Nat.le_of_ble_eq_true rfl) (c_X11_in _ Γ (d + 7) _ _ _ _ ⟨by omega, by omega⟩ ⟨by omega, by omega⟩ ⟨by omega, by omega⟩) ?_
    refine G_bif_eq (tgt := 33) hk dX11_behind_21 (by decide) (fun h_21 => ?_) (fun h_21 => ?_)
    · refine G_bipush hk dX11_behind_33 (by decide) ?_
      exact G_iret hk hr dX11_behind_35 ⟨by unfold a_behind; (repeat' split) <;> first | rfl | (exfalso; omega), hq⟩
    · refine G_rload_n hk dX11_behind_24 rfl ?_
      refine G_iload_n hk dX11_behind_25 rfl ?_
      refine G_iload_n hk dX11_behind_26 rfl ?_
      refine G_cV2I hk dX11_behind_27 mvX11_behindOf mlX11_207 (by decide) rfl rfl (Nat.le_of_ble_eq_true rfl) (c_X11_behindOf _ Γ (d + 0) _ hR _ _ ⟨by omega, by omega⟩ ⟨by omega, by omega⟩) (fun r_27 S_27 hp_27 => ?_)
      refine G_goto (tgt := 35) hk dX11_behind_30 (by decide) ?_
      exact G_iret hk hr dX11_behind_35 ⟨by unfold a_behind; rw [hp_27.1, eQ]; (repeat' split) <;> first | rfl | (exfalso; omega), frQ_t hq (frQ_P hp_27.2.2)⟩

theorem c_X11_drawer (l : Launch) (Γ : Ev) (d : Nat) (S : Sx) (hI : InvM S) (y w : Int) (h_y : R32 y) (h_w : R32 w) : Ctr l Γ (d + 8) mX11_drawer [rf Γ 44, vI y, vI w] S (pI (fun r S2 => r = a_drawer (av S) y w ∧ frQ S S2)) := by
  refine Ctr.of (by decide) rfl rfl (Nat.le_of_ble_eq_true rfl) ?_
  intro κ hl hk hr
  subst hl
  refine G_rload_n hk dX11_drawer_0 rfl ?_
  refine G_cV0I hk dX11_drawer_1 mvX11_reads mlX11_113 (by decide) rfl rfl (Nat.le_of_ble_eq_true rfl) (c_rd hI) (fun r_1 S_1 hp_1 => ?_)
  obtain ⟨hr0, hR, hq⟩ := hp_1
  have eQ := av_frQ hq
  refine G_pop hk dX11_drawer_4 rfl ?_
  refine G_iload_n hk dX11_drawer_5 rfl ?_
  refine G_cS1P hk dX11_drawer_6 msX11_isYear mlX11_130 (Nat.le_of_ble_eq_true rfl) (c_X11_isYear _ Γ (d + 6) _ _ ⟨by omega, by omega⟩) ?_
  refine G_bif_eq (tgt := 28) hk dX11_drawer_9 (by decide) (fun h_9 => ?_) (fun h_9 => ?_)
  · refine G_bipush hk dX11_drawer_28 (by decide) ?_
    exact G_iret hk hr dX11_drawer_30 ⟨by unfold a_drawer; (repeat' split) <;> first | rfl | (exfalso; omega), hq⟩
  · refine G_iload_n hk dX11_drawer_12 rfl ?_
    refine G_cS1P hk dX11_drawer_13 msX11_isDrawer mlX11_136 (Nat.le_of_ble_eq_true rfl) (c_X11_isDrawer _ Γ (d + 6) _ _ ⟨by omega, by omega⟩) ?_
    refine G_bif_eq (tgt := 28) hk dX11_drawer_16 (by decide) (fun h_16 => ?_) (fun h_16 => ?_)
    · refine G_bipush hk dX11_drawer_28 (by decide) ?_
      exact G_iret hk hr dX11_drawer_30 ⟨by unfold a_drawer; (repeat' split) <;> first | rfl | (exfalso; omega), hq⟩
    · refine G_rload_n hk dX11_drawer_19 rfl ?_
      refine G_iload_n hk dX11_drawer_20 rfl ?_
      refine G_iload_n hk dX11_drawer_21 rfl ?_
      refine G_cV2I hk dX11_drawer_22 mvX11_drawerOf mlX11_210 (by decide) rfl rfl (Nat.le_of_ble_eq_true rfl) (c_X11_drawerOf _ Γ (d + 0) _ hR _ _ ⟨by omega, by omega⟩ ⟨by omega, by omega⟩) (fun r_22 S_22 hp_22 => ?_)
      refine G_goto (tgt := 30) hk dX11_drawer_25 (by decide) ?_
      exact G_iret hk hr dX11_drawer_30 ⟨by unfold a_drawer; rw [hp_22.1, eQ]; (repeat' split) <;> first | rfl | (exfalso; omega), frQ_t hq (frQ_P hp_22.2.2)⟩

theorem c_X11_took (l : Launch) (Γ : Ev) (d : Nat) (S : Sx) (hI : InvM S) (k w : Int) (h_k : R32 k) (h_w : R32 w) : Ctr l Γ (d + 8) mX11_took [rf Γ 44, vI k, vI w] S (pI (fun r S2 => r = a_took (av S) k w ∧ frQ S S2)) := by
  refine Ctr.of (by decide) rfl rfl (Nat.le_of_ble_eq_true rfl) ?_
  intro κ hl hk hr
  subst hl
  have n12 := hI.1.2.2.1
  have i2 := hI.2.1
  refine G_rload_n hk dX11_took_0 rfl ?_
  refine G_cV0I hk dX11_took_1 mvX11_reads mlX11_113 (by decide) rfl rfl (Nat.le_of_ble_eq_true rfl) (c_rd hI) (fun r_1 S_1 hp_1 => ?_)
  obtain ⟨hr0, hR, hq⟩ := hp_1
  have eQ := av_frQ hq
  have e10 : S_1 44 10 = (anp (av S) : Int) := by
    rw [hq.2.1 10 (by omega)]
    show S 44 10 = ((S 44 10).toNat : Int)
    omega
  refine G_pop hk dX11_took_4 rfl ?_
  refine G_iload_n hk dX11_took_5 rfl ?_
  refine G_i2l hk dX11_took_6 ⟨by omega, by omega⟩ ?_
  refine G_lconst (z := 0) hk dX11_took_7 (by decide) ?_
  refine G_rload_n hk dX11_took_8 rfl ?_
  refine G_getI hk dX11_took_9 flX11_139 (by decide) rfl rfl ?_
  refine G_iconst hk dX11_took_12 ?_
  refine G_isub hk dX11_took_13 ?_
  refine G_i2l hk dX11_took_14 ⟨by omega, by omega⟩ ?_
  refine G_cS3P hk dX11_took_15 msX11_in mlX11_64 (Nat.le_of_ble_eq_true rfl) (c_X11_in _ Γ (d + 7) _ _ _ _ ⟨by omega, by omega⟩ ⟨by omega, by omega⟩ ⟨by omega, by omega⟩) ?_
  refine G_bif_eq (tgt := 37) hk dX11_took_18 (by decide) (fun h_18 => ?_) (fun h_18 => ?_)
  · refine G_bipush hk dX11_took_37 (by decide) ?_
    exact G_iret hk hr dX11_took_39 ⟨by unfold a_took; (repeat' split) <;> first | rfl | (exfalso; omega), hq⟩
  · refine G_iload_n hk dX11_took_21 rfl ?_
    refine G_cS1P hk dX11_took_22 msX11_isTwo mlX11_124 (Nat.le_of_ble_eq_true rfl) (c_X11_isTwo _ Γ (d + 6) _ _ ⟨by omega, by omega⟩) ?_
    refine G_bif_eq (tgt := 37) hk dX11_took_25 (by decide) (fun h_25 => ?_) (fun h_25 => ?_)
    · refine G_bipush hk dX11_took_37 (by decide) ?_
      exact G_iret hk hr dX11_took_39 ⟨by unfold a_took; (repeat' split) <;> first | rfl | (exfalso; omega), hq⟩
    · refine G_rload_n hk dX11_took_28 rfl ?_
      refine G_iload_n hk dX11_took_29 rfl ?_
      refine G_iload_n hk dX11_took_30 rfl ?_
      refine G_cV2I hk dX11_took_31 mvX11_tookOf mlX11_213 (by decide) rfl rfl (Nat.le_of_ble_eq_true rfl) (c_X11_tookOf _ Γ (d + 0) _ hR _ _ (by rw [eQ]; exact ⟨by omega, by omega⟩) ⟨by omega, by omega⟩) (fun r_31 S_31 hp_31 => ?_)
      refine G_goto (tgt := 39) hk dX11_took_34 (by decide) ?_
      exact G_iret hk hr dX11_took_39 ⟨by unfold a_took; rw [hp_31.1, eQ]; (repeat' split) <;> first | rfl | (exfalso; omega), frQ_t hq (frQ_P hp_31.2.2)⟩

theorem c_X11_solid (l : Launch) (Γ : Ev) (d : Nat) (S : Sx) (hI : InvM S) (y p : Int) (h_y : R32 y) (h_p : R32 p) : Ctr l Γ (d + 7) mX11_solid [rf Γ 44, vI y, vI p] S (pI (fun r S2 => r = a_solid (av S) y p ∧ frQ S S2)) := by
  refine Ctr.of (by decide) rfl rfl (Nat.le_of_ble_eq_true rfl) ?_
  intro κ hl hk hr
  subst hl
  refine G_rload_n hk dX11_solid_0 rfl ?_
  refine G_cV0I hk dX11_solid_1 mvX11_reads mlX11_113 (by decide) rfl rfl (Nat.le_of_ble_eq_true rfl) (c_rd hI) (fun r_1 S_1 hp_1 => ?_)
  obtain ⟨hr0, hR, hq⟩ := hp_1
  have eQ := av_frQ hq
  have e8 : S_1 44 8 = (aN (av S) : Int) := by rw [hR.2.1, eQ]
  have n8 := aN_8 hI.1
  refine G_pop hk dX11_solid_4 rfl ?_
  refine G_iload_n hk dX11_solid_5 rfl ?_
  refine G_cS1P hk dX11_solid_6 msX11_isYear mlX11_130 (Nat.le_of_ble_eq_true rfl) (c_X11_isYear _ Γ (d + 5) _ _ ⟨by omega, by omega⟩) ?_
  refine G_bif_eq (tgt := 20) hk dX11_solid_9 (by decide) (fun h_9 => ?_) (fun h_9 => ?_)
  · refine G_bipush hk dX11_solid_20 (by decide) ?_
    exact G_iret hk hr dX11_solid_22 ⟨by unfold a_solid; (repeat' split) <;> first | rfl | (exfalso; omega), hq⟩
  · refine G_rload_n hk dX11_solid_12 rfl ?_
    refine G_iload_n hk dX11_solid_13 rfl ?_
    refine G_cV1P hk dX11_solid_14 mvX11_isPerson mlX11_121 (by decide) rfl rfl (Nat.le_of_ble_eq_true rfl) (c_X11_isPerson _ Γ (d + 5) _ _ ⟨by omega, by omega⟩ ⟨by omega, by omega⟩) ?_
    refine G_bif_ne (tgt := 23) hk dX11_solid_17 (by decide) (fun h_17 => ?_) (fun h_17 => ?_)
    · refine G_rload_n hk dX11_solid_23 rfl ?_
      refine G_iload_n hk dX11_solid_24 rfl ?_
      refine G_cV1V hk dX11_solid_25 mvX11_lives mlX11_192 (by decide) rfl rfl (Nat.le_of_ble_eq_true rfl) (c_lv hR ⟨by omega, by omega⟩) (fun S_25 hp_25 => ?_)
      obtain ⟨hX1, hR1, hf1⟩ := hp_25
      rw [eQ] at hX1
      refine G_rload_n hk dX11_solid_28 rfl ?_
      refine G_getR hk dX11_solid_29 flX11_37 (by decide) rfl rfl ?_
      refine G_iload_n hk dX11_solid_32 rfl ?_
      refine G_iald hk dX11_solid_33 (by decide) rfl (by decide) (by omega) (by omega) ?_
      exact G_iret hk hr dX11_solid_34 ⟨by unfold a_solid a_solidOf; rw [hX1.1 _ (by omega)]; (repeat' split) <;> first | rfl | (exfalso; omega), frQ_t hq (frQ_P hf1)⟩
    · refine G_bipush hk dX11_solid_20 (by decide) ?_
      exact G_iret hk hr dX11_solid_22 ⟨by unfold a_solid; (repeat' split) <;> first | rfl | (exfalso; omega), hq⟩

theorem c_X11_person (l : Launch) (Γ : Ev) (d : Nat) (S : Sx) (hI : InvM S) (p w : Int) (h_p : R32 p) (h_w : R32 w) : Ctr l Γ (d + 3) mX11_person [rf Γ 44, vI p, vI w] S (pI (fun r S2 => r = a_person (av S) p w ∧ frQ S S2)) := by
  refine Ctr.of (by decide) rfl rfl (Nat.le_of_ble_eq_true rfl) ?_
  intro κ hl hk hr
  subst hl
  refine G_rload_n hk dX11_person_0 rfl ?_
  refine G_cV0I hk dX11_person_1 mvX11_reads mlX11_113 (by decide) rfl rfl (Nat.le_of_ble_eq_true rfl) (c_rd hI) (fun r_1 S_1 hp_1 => ?_)
  obtain ⟨hr0, hR, hq⟩ := hp_1
  have eQ := av_frQ hq
  have e8 : S_1 44 8 = (aN (av S) : Int) := by rw [hR.2.1, eQ]
  have n8 := aN_8 hI.1
  refine G_pop hk dX11_person_4 rfl ?_
  refine G_rload_n hk dX11_person_5 rfl ?_
  refine G_iload_n hk dX11_person_6 rfl ?_
  refine G_cV1P hk dX11_person_7 mvX11_isPerson mlX11_121 (by decide) rfl rfl (Nat.le_of_ble_eq_true rfl) (c_X11_isPerson _ Γ (d + 1) _ _ ⟨by omega, by omega⟩ ⟨by omega, by omega⟩) ?_
  refine G_bif_eq (tgt := 20) hk dX11_person_10 (by decide) (fun h_10 => ?_) (fun h_10 => ?_)
  · refine G_bipush hk dX11_person_20 (by decide) ?_
    refine G_goto (tgt := 45) hk dX11_person_22 (by decide) ?_
    exact G_iret hk hr dX11_person_45 ⟨by unfold a_person; (repeat' split) <;> first | rfl | (exfalso; omega), hq⟩
  · refine G_iload_n hk dX11_person_13 rfl ?_
    refine G_cS1P hk dX11_person_14 msX11_isTwo mlX11_124 (Nat.le_of_ble_eq_true rfl) (c_X11_isTwo _ Γ (d + 1) _ _ ⟨by omega, by omega⟩) ?_
    refine G_bif_ne (tgt := 25) hk dX11_person_17 (by decide) (fun h_17 => ?_) (fun h_17 => ?_)
    · refine G_iload_n hk dX11_person_25 rfl ?_
      refine G_if_ne (tgt := 40) hk dX11_person_26 (by decide) ⟨by omega, by omega⟩ (fun h_26 => ?_) (fun h_26 => ?_)
      · refine G_rload_n hk dX11_person_40 rfl ?_
        refine G_iload_n hk dX11_person_41 rfl ?_
        refine G_cV1P hk dX11_person_42 mvX11_twinOf mlX11_127 (by decide) rfl rfl (Nat.le_of_ble_eq_true rfl) (c_tw11 (rdm_sim hR) (by rw [eQ]; exact ⟨by omega, by omega⟩)) ?_
        rw [eQ]
        exact G_iret hk hr dX11_person_45 ⟨by unfold a_person; (repeat' split) <;> first | rfl | (exfalso; omega), hq⟩
      · refine G_rload_n hk dX11_person_29 rfl ?_
        refine G_getR hk dX11_person_30 flX11_25 (by decide) rfl rfl ?_
        refine G_iconst hk dX11_person_33 ?_
        refine G_iload_n hk dX11_person_34 rfl ?_
        refine G_imul hk dX11_person_35 ?_
        refine G_iald hk dX11_person_36 (by decide) rfl (by decide) (by omega) (by omega) ?_
        have e50 := (hR.2.2 p.toNat (by rw [eQ]; omega)).1
        rw [show (2 * p).toNat = 2 * p.toNat by omega, e50, eQ]
        refine G_goto (tgt := 45) hk dX11_person_37 (by decide) ?_
        exact G_iret hk hr dX11_person_45 ⟨by unfold a_person; (repeat' split) <;> first | rfl | (exfalso; omega), hq⟩
    · refine G_bipush hk dX11_person_20 (by decide) ?_
      refine G_goto (tgt := 45) hk dX11_person_22 (by decide) ?_
      exact G_iret hk hr dX11_person_45 ⟨by unfold a_person; (repeat' split) <;> first | rfl | (exfalso; omega), hq⟩
