/-! chance -/
theorem wgt_all : ∀ (c : Fin 17) (n : Fin 10) (k : Fin 11), wgt ((c.val : Nat) : Int) (n.val + 1) k.val = wgt ((c.val : Nat) : Int) n.val k.val * (16 - ((c.val : Nat) : Int)) + (if k.val = 0 then 0 else wgt ((c.val : Nat) : Int) n.val (k.val - 1) * ((c.val : Nat) : Int)) := by decide +kernel
theorem wgt_s {c : Int} (hc : 0 ≤ c ∧ c ≤ 16) {n k : Nat} (hn : n < 10) (hk : k ≤ 10) : wgt c (n + 1) k = wgt c n k * (16 - c) + (if k = 0 then 0 else wgt c n (k - 1) * c) := by
  have h := wgt_all ⟨c.toNat, by omega⟩ ⟨n, by omega⟩ ⟨k, by omega⟩
  simp only [Int.toNat_of_nonneg hc.1] at h
  exact h
theorem wgt_all0 : ∀ (c : Fin 17) (k : Fin 11), wgt ((c.val : Nat) : Int) 0 k.val = if k.val = 0 then 1 else 0 := by decide +kernel
theorem wgt_0 {c : Int} (hc : 0 ≤ c ∧ c ≤ 16) {k : Nat} (hk : k ≤ 10) : wgt c 0 k = if k = 0 then 1 else 0 := by
  have h := wgt_all0 ⟨c.toNat, by omega⟩ ⟨k, by omega⟩
  simp only [Int.toNat_of_nonneg hc.1] at h
  exact h
theorem wgt_allz : ∀ (c : Fin 17) (n : Fin 11) (k : Fin 11), n.val < k.val → wgt ((c.val : Nat) : Int) n.val k.val = 0 := by decide +kernel
theorem wgt_z {c : Int} (hc : 0 ≤ c ∧ c ≤ 16) {n k : Nat} (hn : n ≤ 10) (hk : k ≤ 10) (h : n < k) : wgt c n k = 0 := by
  have h := wgt_allz ⟨c.toNat, by omega⟩ ⟨n, by omega⟩ ⟨k, by omega⟩ h
  simp only [Int.toNat_of_nonneg hc.1] at h
  exact h
theorem abv_11 {c : Int} (hc : 0 ≤ c ∧ c ≤ 16) {n : Nat} (hn : n ≤ 10) (sol z f : Int) : abv c n sol z f 11 = abv c n sol z f (n + 1) := by
  unfold abv
  refine ssm_cut 11 (by omega) (fun i a b => ?_)
  rw [wgt_z hc hn (by omega) (by omega)]
  split <;> rfl
theorem zandL_1 {a : Int} (h0 : 0 ≤ a) (h : a < 4611686018427387904) : zandL a 1 = a % 2 := by
  obtain ⟨n, rfl⟩ := Int.eq_ofNat_of_zero_le h0
  unfold zandL
  have e : Int64.ofInt ((n : Nat) : Int) &&& Int64.ofInt 1 = lN (n &&& 1) := by
    rw [ofInt_lN, show Int64.ofInt 1 = lN 1 from rfl]
    apply Int64.toBitVec_inj.mp
    show BitVec.ofNat 64 n &&& BitVec.ofNat 64 1 = BitVec.ofNat 64 (n &&& 1)
    rw [BitVec.ofNat_and]
  rw [e, Nat.and_one_is_mod, pk_lT (by omega)]
  omega
theorem prt_nat (u v : Nat) : prt (u : Int) (v : Int) 0 = ((u / Nat.gcd u v : Nat) : Int) ∧ prt (u : Int) (v : Int) 1 = ((v / Nat.gcd u v : Nat) : Int) := by
  unfold prt
  rw [if_pos rfl, if_neg (by decide), Int.toNat_natCast, Int.toNat_natCast]
  exact ⟨rfl, rfl⟩
theorem gcd_odd {a t : Nat} (h : t = 0 ∨ a % 2 = 1) : Nat.gcd a (2 ^ t) = 1 := by
  rcases h with h | h
  · rw [h, Nat.pow_zero, Nat.gcd_one_right]
  · have h2 : Nat.Coprime a 2 := by
      show Nat.gcd a 2 = 1
      rw [Nat.gcd_comm, Nat.gcd_rec, h]
      rfl
    exact Nat.Coprime.pow_right t h2
theorem prt_is {a t j : Nat} (h : t = 0 ∨ a % 2 = 1) : prt ((a * 2 ^ j : Nat) : Int) ((2 ^ (t + j) : Nat) : Int) 0 = (a : Int) ∧ prt ((a * 2 ^ j : Nat) : Int) ((2 ^ (t + j) : Nat) : Int) 1 = ((2 ^ t : Nat) : Int) := by
  have hp : 0 < 2 ^ j := Nat.two_pow_pos j
  have g : Nat.gcd (a * 2 ^ j) (2 ^ (t + j)) = 2 ^ j := by
    rw [Nat.pow_add, Nat.gcd_mul_right, gcd_odd h, Nat.one_mul]
  have hh := prt_nat (a * 2 ^ j) (2 ^ (t + j))
  rw [g] at hh
  rw [hh.1, hh.2, Nat.mul_div_cancel _ hp, Nat.pow_add, Nat.mul_div_cancel _ hp]
  exact ⟨rfl, rfl⟩
theorem p16 (n : Nat) : (16 : Int) ^ n = ((2 ^ (4 * n) : Nat) : Int) := by
  rw [Nat.pow_mul, Int.natCast_pow]
  rfl
theorem su_su (S : Sx) (c k : Nat) (a b : Int) : su (su S c k a) c k b = su S c k b := by
  funext c' k'
  simp only [su]
  by_cases h : c' = c
  · rw [if_pos h, if_pos h]
    by_cases g : k' = k
    · rw [if_pos g, if_pos g, if_pos h]
    · rw [if_neg g, if_neg g, if_pos h, if_neg g]
  · rw [if_neg h, if_neg h, if_neg h]

theorem c_X1_countWays (l : Launch) (Γ : Ev) (d : Nat) (S : Sx) (c : Int) (n : Nat) (hc : 0 ≤ c ∧ c ≤ 16) (hn : n ≤ 10) : Ctr l Γ (d + 1) mX1_countWays [rf Γ 33, vI c, vI (n : Int)] S (pV (fun S2 => (∀ t, t ≤ 10 → S2 34 t = wgt c n t) ∧ (∀ i, i ≠ 34 → S2 i = S i))) := by
  refine Ctr.of (by decide) rfl rfl (Nat.le_of_ble_eq_true rfl) ?_
  intro κ hl hk hr
  subst hl
  refine G_rload_n hk dX1_countWays_0 rfl ?_
  refine G_getR hk dX1_countWays_1 flX1_9 (by decide) rfl rfl ?_
  refine G_lconst (z := 0) hk dX1_countWays_4 (by decide) ?_
  refine G_cS2V hk dX1_countWays_5 msJ7_fill_d0a16 mlX1_19 (Nat.le_of_ble_eq_true rfl) (c_fillL _ Γ (d + 0) _ 34 11 (by decide) rfl (by decide) _) (fun S_5 hp_5 => ?_)
  refine G_rload_n hk dX1_countWays_8 rfl ?_
  refine G_getR hk dX1_countWays_9 flX1_9 (by decide) rfl rfl ?_
  refine G_iconst hk dX1_countWays_12 ?_
  refine G_lconst (z := 1) hk dX1_countWays_13 (by decide) ?_
  refine G_last hk dX1_countWays_14 (by decide) rfl (by decide) (by omega) (by omega) ?_
  refine G_iconst hk dX1_countWays_15 ?_
  refine G_istore_n hk dX1_countWays_16 (by decide) rfl ?_
  have lp := loop_up (P := fun s => ∀ (S1 : Sx) (q4 : Option Value), ((∀ i, i ≠ 34 → S1 i = S i) ∧ (∀ t, t ≤ 10 → S1 34 t = wgt c s t)) → GW κ Γ 17 [some (rf Γ 33), some (vI c), some (vI (n : Int)), some (vI (s : Int)), q4] [] (wl Γ S1)) n ?_ ?_ 0 (Nat.zero_le _)
  · refine GW_L rfl (lp _ none ⟨fun i hi => by rw [su_ne _ hi, hp_5, fl_ne hi], fun t ht => ?_⟩)
    rw [show ((0 : Int)).toNat = 0 from rfl, su_row, wgt_0 hc ht]
    by_cases e : t = 0
    · rw [if_pos e, if_pos e]
    · rw [if_neg e, if_neg e, hp_5, fl_at (by omega)]
  · intro S1 q4 ⟨hf, hw⟩
    refine G_iload_n hk dX1_countWays_17 rfl ?_
    refine G_iload_n hk dX1_countWays_18 rfl ?_
    refine G_icmp_ge (tgt := 90) hk dX1_countWays_19 (by decide) ⟨by omega, by omega⟩ ⟨by omega, by omega⟩ (fun h_19 => ?_) (fun h_19 => ?_)
    · exact G_vret hk hr dX1_countWays_90 ⟨hw, hf⟩
    · exact absurd h_19 (by omega)--stop
  · intro s hs9 ih S1 q4 ⟨hf, hw⟩
    refine G_iload_n hk dX1_countWays_17 rfl ?_
    refine G_iload_n hk dX1_countWays_18 rfl ?_
    refine G_icmp_ge (tgt := 90) hk dX1_countWays_19 (by decide) ⟨by omega, by omega⟩ ⟨by omega, by omega⟩ (fun h_19 => ?_) (fun h_19 => ?_)
    · exact absurd h_19 (by omega)--stop
    · refine G_bipush hk dX1_countWays_22 (by decide) ?_
      refine G_istore hk dX1_countWays_24 (by decide) rfl ?_
      have lp2 := loop_up (P := fun u => ∀ S2 : Sx, ((∀ i, i ≠ 34 → S2 i = S i) ∧ (∀ t, t + u ≤ 10 → S2 34 t = wgt c s t) ∧ (∀ t, t ≤ 10 → 10 < t + u → S2 34 t = wgt c (s + 1) t)) → GW κ Γ 26 [some (rf Γ 33), some (vI c), some (vI (n : Int)), some (vI (s : Int)), some (vI (10 - (u : Int)))] [] (wl Γ S2)) 10 ?_ ?_ 0 (Nat.zero_le _) S1 ⟨hf, fun t ht => hw t (by omega), fun t a b => absurd b (by omega)⟩
      · exact lp2
      · intro S2 ⟨g1, g2, g3⟩
        refine G_iload hk dX1_countWays_26 rfl ?_
        refine G_if_le (tgt := 70) hk dX1_countWays_28 (by decide) ⟨by omega, by omega⟩ (fun h_28 => ?_) (fun h_28 => ?_)
        · refine G_rload_n hk dX1_countWays_70 rfl ?_
          refine G_getR hk dX1_countWays_71 flX1_9 (by decide) rfl rfl ?_
          refine G_iconst hk dX1_countWays_74 ?_
          refine G_dup2 hk dX1_countWays_75 rfl rfl ?_
          refine G_lald hk dX1_countWays_76 (by decide) rfl (by decide) (by omega) (by omega) ?_
          rw [show ((0 : Int)).toNat = 0 from rfl, g2 0 (by omega)]
          refine G_bipush hk dX1_countWays_77 (by decide) ?_
          refine G_iload_n hk dX1_countWays_79 rfl ?_
          refine G_isub hk dX1_countWays_80 ?_
          refine G_i2l hk dX1_countWays_81 ⟨by omega, by omega⟩ ?_
          refine G_lmul hk dX1_countWays_82 ?_
          refine G_last hk dX1_countWays_83 (by decide) rfl (by decide) (by omega) (by omega) ?_
          refine G_iinc hk dX1_countWays_84 rfl (by decide) rfl ?_
          refine G_goto (tgt := 17) hk dX1_countWays_87 (by decide) ?_
          refine ih _ _ ⟨fun i hi => by rw [su_ne _ hi]; exact g1 i hi, fun t ht => ?_⟩
          rw [show ((0 : Int)).toNat = 0 from rfl, su_row]
          by_cases e : t = 0
          · rw [if_pos e, e, wgt_s hc (by omega) (by omega), if_pos rfl]
            omega
          · rw [if_neg e]
            exact g3 t ht (by omega)
        · exact absurd h_28 (by omega)--stop
      · intro u hu ih2 S2 ⟨g1, g2, g3⟩
        refine G_iload hk dX1_countWays_26 rfl ?_
        refine G_if_le (tgt := 70) hk dX1_countWays_28 (by decide) ⟨by omega, by omega⟩ (fun h_28 => ?_) (fun h_28 => ?_)
        · exact absurd h_28 (by omega)--stop
        · refine G_rload_n hk dX1_countWays_31 rfl ?_
          refine G_getR hk dX1_countWays_32 flX1_9 (by decide) rfl rfl ?_
          refine G_iload hk dX1_countWays_35 rfl ?_
          refine G_rload_n hk dX1_countWays_37 rfl ?_
          refine G_getR hk dX1_countWays_38 flX1_9 (by decide) rfl rfl ?_
          refine G_iload hk dX1_countWays_41 rfl ?_
          refine G_lald hk dX1_countWays_43 (by decide) rfl (by decide) (by omega) (by omega) ?_
          rw [show (10 - (u : Int)).toNat = 10 - u by omega, g2 (10 - u) (by omega)]
          refine G_bipush hk dX1_countWays_44 (by decide) ?_
          refine G_iload_n hk dX1_countWays_46 rfl ?_
          refine G_isub hk dX1_countWays_47 ?_
          refine G_i2l hk dX1_countWays_48 ⟨by omega, by omega⟩ ?_
          refine G_lmul hk dX1_countWays_49 ?_
          refine G_rload_n hk dX1_countWays_50 rfl ?_
          refine G_getR hk dX1_countWays_51 flX1_9 (by decide) rfl rfl ?_
          refine G_iload hk dX1_countWays_54 rfl ?_
          refine G_iconst hk dX1_countWays_56 ?_
          refine G_isub hk dX1_countWays_57 ?_
          refine G_lald hk dX1_countWays_58 (by decide) rfl (by decide) (by omega) (by omega) ?_
          rw [show (10 - (u : Int) - 1).toNat = 10 - u - 1 by omega, g2 (10 - u - 1) (by omega)]
          refine G_iload_n hk dX1_countWays_59 rfl ?_
          refine G_i2l hk dX1_countWays_60 ⟨by omega, by omega⟩ ?_
          refine G_lmul hk dX1_countWays_61 ?_
          refine G_ladd hk dX1_countWays_62 ?_
          refine G_last hk dX1_countWays_63 (by decide) rfl (by decide) (by omega) (by omega) ?_
          refine G_iinc hk dX1_countWays_64 rfl (by decide) rfl ?_
          refine G_goto (tgt := 26) hk dX1_countWays_67 (by decide) ?_
          have h9 := ih2 (su S2 34 (10 - u) (wgt c s (10 - u) * (16 - c) + wgt c s (10 - u - 1) * c)) ⟨fun i hi => by rw [su_ne _ hi]; exact g1 i hi, fun t ht => by rw [su_nk _ _ _ (by omega)]; exact g2 t (by omega), fun t a b => by
            rw [su_row]
            by_cases e : t = 10 - u
            · rw [if_pos e, e, wgt_s hc (by omega) (by omega), if_neg (by omega)]
            · rw [if_neg e]
              exact g3 t a (by omega)⟩
          rw [show 10 - ((u + 1 : Nat) : Int) = 10 - (u : Int) + -1 by omega] at h9
          rw [show (10 - (u : Int)).toNat = 10 - u by omega]
          exact h9

theorem c_X1_weighUnseen (l : Launch) (Γ : Ev) (d : Nat) (S : Sx) (c : Int) (n : Nat) (hc : 0 ≤ c ∧ c ≤ 16) (hn : n ≤ 10) (hw : ∀ t, t ≤ 10 → S 34 t = wgt c n t) (sol z f : Int) (hs : 0 ≤ sol ∧ sol ≤ 1000000) (hz : 1 ≤ z ∧ z ≤ 9) (hf : 0 ≤ f ∧ f ≤ 99) : Ctr l Γ (d + 1) mX1_weighUnseen [rf Γ 33, vI sol, vI z, vI (n : Int), vI f] S (pV (fun S2 => S2 33 1 = prt (abv c n sol z f (n + 1)) (16 ^ n) 0 ∧ S2 33 2 = prt (abv c n sol z f (n + 1)) (16 ^ n) 1 ∧ (∀ i, i ≠ 33 → S2 i = S i))) := by
  refine Ctr.of (by decide) rfl rfl (Nat.le_of_ble_eq_true rfl) ?_
  intro κ hl hk hr
  subst hl
  refine G_rload_n hk dX1_weighUnseen_0 rfl ?_
  refine G_lconst (z := 0) hk dX1_weighUnseen_1 (by decide) ?_
  refine G_putJ hk dX1_weighUnseen_2 flX1_25 fpX1_1 (by decide) rfl rfl ?_
  refine G_iconst hk dX1_weighUnseen_5 ?_
  refine G_istore hk dX1_weighUnseen_6 (by decide) rfl ?_
  have lp := loop_up (P := fun k => GW κ Γ 8 [some (rf Γ 33), some (vI sol), some (vI z), some (vI (n : Int)), some (vI f), some (vI (k : Int))] [] (wl Γ (su S 33 1 (abv c n sol z f k)))) 11 ?_ ?_ 0 (Nat.zero_le _)
  · exact lp
  · refine G_iload hk dX1_weighUnseen_8 rfl ?_
    refine G_bipush hk dX1_weighUnseen_10 (by decide) ?_
    refine G_icmp_gt (tgt := 52) hk dX1_weighUnseen_12 (by decide) ⟨by omega, by omega⟩ ⟨by omega, by omega⟩ (fun h_12 => ?_) (fun h_12 => ?_)
    · refine G_iconst hk dX1_weighUnseen_52 ?_
      refine G_iload_n hk dX1_weighUnseen_53 rfl ?_
      refine G_imul hk dX1_weighUnseen_54 ?_
      refine G_istore hk dX1_weighUnseen_55 (by decide) rfl ?_
      have lp2 : ∀ (t : Nat) (S1 : Sx) (a j : Nat), ((∀ i, i ≠ 33 → S1 i = S i) ∧ S1 33 1 = (a : Int) ∧ a < 4611686018427387904 ∧ abv c n sol z f (n + 1) = ((a * 2 ^ j : Nat) : Int) ∧ t + j = 4 * n) → GW κ Γ 57 [some (rf Γ 33), some (vI sol), some (vI z), some (vI (n : Int)), some (vI f), some (vI (t : Int))] [] (wl Γ S1) := by
        intro t
        induction t with
        | zero =>
          intro S1 a j ⟨g1, g2, g3, g4, g5⟩
          have hpr := prt_is (a := a) (t := 0) (j := j) (Or.inl rfl)
          rw [← g4, g5, ← p16] at hpr
          refine G_iload hk dX1_weighUnseen_57 rfl ?_
          refine G_if_le (tgt := 89) hk dX1_weighUnseen_59 (by decide) ⟨by omega, by omega⟩ (fun h_59 => ?_) (fun h_59 => ?_)
          · refine G_rload_n hk dX1_weighUnseen_89 rfl ?_
            refine G_lconst (z := 1) hk dX1_weighUnseen_90 (by decide) ?_
            refine G_iload hk dX1_weighUnseen_91 rfl ?_
            refine G_lshl1 hk dX1_weighUnseen_93 (by omega) (by omega) ?_
            refine G_putJ hk dX1_weighUnseen_94 flX1_15 fpX1_2 (by decide) rfl rfl ?_
            exact G_vret hk hr dX1_weighUnseen_97 ⟨by rw [su_nk _ _ _ (by decide), g2]; exact hpr.1.symm, by rw [su_at]; exact hpr.2.symm, fun i hi => by rw [su_ne _ hi]; exact g1 i hi⟩
          · exact absurd h_59 (by omega)--stop
        | succ t iht =>
          intro S1 a j ⟨g1, g2, g3, g4, g5⟩
          refine G_iload hk dX1_weighUnseen_57 rfl ?_
          refine G_if_le (tgt := 89) hk dX1_weighUnseen_59 (by decide) ⟨by omega, by omega⟩ (fun h_59 => ?_) (fun h_59 => ?_)
          · exact absurd h_59 (by omega)--stop
          · refine G_rload_n hk dX1_weighUnseen_62 rfl ?_
            refine G_getJ hk dX1_weighUnseen_63 flX1_25 (by decide) rfl rfl ?_
            rw [g2]
            refine G_lconst (z := 1) hk dX1_weighUnseen_66 (by decide) ?_
            refine G_land hk dX1_weighUnseen_67 ?_
            rw [zandL_1 (by omega) (by omega)]
            refine G_lconst (z := 0) hk dX1_weighUnseen_68 (by decide) ?_
            refine G_lcmp hk dX1_weighUnseen_69 ⟨by omega, by omega⟩ ⟨by omega, by omega⟩ ?_
            refine G_if_ne (tgt := 89) hk dX1_weighUnseen_70 (by decide) (zcmp_r _ _) (fun h_70 => ?_) (fun h_70 => ?_)
            · rw [zcmp_eq] at h_70
              refine G_rload_n hk dX1_weighUnseen_89 rfl ?_
              refine G_lconst (z := 1) hk dX1_weighUnseen_90 (by decide) ?_
              refine G_iload hk dX1_weighUnseen_91 rfl ?_
              refine G_lshl1 hk dX1_weighUnseen_93 (by omega) (by omega) ?_
              refine G_putJ hk dX1_weighUnseen_94 flX1_15 fpX1_2 (by decide) rfl rfl ?_
              exact G_vret hk hr dX1_weighUnseen_97 (by
          have hpr := prt_is (a := a) (t := t + 1) (j := j) (Or.inr (by omega))
          rw [← g4, g5, ← p16] at hpr
          refine ⟨by rw [su_nk _ _ _ (by decide), g2]; exact hpr.1.symm, ?_, fun i hi => by rw [su_ne _ hi]; exact g1 i hi⟩
          rw [su_at, hpr.2, Int.natCast_pow]
          rfl)
            · rw [zcmp_eq] at h_70
              refine G_rload_n hk dX1_weighUnseen_73 rfl ?_
              refine G_dup hk dX1_weighUnseen_74 rfl ?_
              refine G_getJ hk dX1_weighUnseen_75 flX1_25 (by decide) rfl rfl ?_
              rw [g2]
              refine G_iconst hk dX1_weighUnseen_78 ?_
              refine G_lshr1 hk dX1_weighUnseen_79 ⟨by omega, by omega⟩ ?_
              refine G_putJ hk dX1_weighUnseen_80 flX1_25 fpX1_1 (by decide) rfl rfl ?_
              refine G_iinc hk dX1_weighUnseen_83 rfl (by decide) rfl ?_
              refine G_goto (tgt := 57) hk dX1_weighUnseen_86 (by decide) ?_
              have h9 := iht (su S1 33 1 ((a : Int) / 2)) (a / 2) (j + 1) ⟨fun i hi => by rw [su_ne _ hi]; exact g1 i hi, by rw [su_at]; omega, by omega, by
                rw [g4]
                congr 1
                rw [Nat.pow_succ, Nat.mul_comm (2 ^ j) 2, ← Nat.mul_assoc]
                congr 1
                omega, by omega⟩
              rw [show (t : Int) = ((t + 1 : Nat) : Int) + -1 by omega] at h9
              exact h9
      have hab := abv_bd (sol := sol) (z := z) (f := f) hc hn (m := n + 1) (by omega)
      have h8 := lp2 (4 * n) (su S 33 1 (abv c n sol z f 11)) (abv c n sol z f (n + 1)).toNat 0 ⟨fun i hi => by rw [su_ne _ hi], by rw [su_at, abv_11 hc hn, Int.toNat_of_nonneg hab.1], by omega, by rw [Nat.pow_zero, Nat.mul_one, Int.toNat_of_nonneg hab.1], by omega⟩
      rw [show ((4 * n : Nat) : Int) = 4 * (n : Int) by omega] at h8
      exact h8
    · exact absurd h_12 (by omega)--stop
  · intro k hk9 ih
    have hkz : 0 ≤ (k : Int) * z ∧ (k : Int) * z ≤ 90 := ⟨Int.mul_nonneg (by omega) (by omega), by have := Int.mul_le_mul (show (k : Int) ≤ 10 by omega) (show z ≤ 9 by omega) (by omega) (by omega); omega⟩
    have esh : shu sol z f k = decide ((if sol - (k : Int) * z < 0 then 0 else sol - (k : Int) * z) < f) := rfl
    have eab : abv c n sol z f (k + 1) = abv c n sol z f k + (if shu sol z f k = true then wgt c n k else 0) := rfl
    refine G_iload hk dX1_weighUnseen_8 rfl ?_
    refine G_bipush hk dX1_weighUnseen_10 (by decide) ?_
    refine G_icmp_gt (tgt := 52) hk dX1_weighUnseen_12 (by decide) ⟨by omega, by omega⟩ ⟨by omega, by omega⟩ (fun h_12 => ?_) (fun h_12 => ?_)
    · exact absurd h_12 (by omega)--stop
    · refine G_iload_n hk dX1_weighUnseen_15 rfl ?_
      refine G_iload hk dX1_weighUnseen_16 rfl ?_
      refine G_iload_n hk dX1_weighUnseen_18 rfl ?_
      refine G_imul hk dX1_weighUnseen_19 ?_
      refine G_isub hk dX1_weighUnseen_20 ?_
      refine G_iconst hk dX1_weighUnseen_21 ?_
      refine G_cS2P hk dX1_weighUnseen_22 msJ9_max_7cf53 mlX1_28 (Nat.le_of_ble_eq_true rfl) (c_J9_max _ Γ (d + 0) _ _ _ ⟨by omega, by omega⟩ ⟨by omega, by omega⟩) ?_
      refine G_iload hk dX1_weighUnseen_25 rfl ?_
      refine G_icmp_ge (tgt := 46) hk dX1_weighUnseen_27 (by decide) (by split <;> exact ⟨by omega, by omega⟩) ⟨by omega, by omega⟩ (fun h_27 => ?_) (fun h_27 => ?_)
      · refine G_iinc hk dX1_weighUnseen_46 rfl (by decide) rfl ?_
        refine G_goto (tgt := 8) hk dX1_weighUnseen_49 (by decide) ?_
        rw [esh, decide_eq_false (Int.not_lt.mpr h_27), if_neg (by decide), Int.add_zero] at eab
        rw [eab] at ih
        skip
        exact ih
      · refine G_rload_n hk dX1_weighUnseen_30 rfl ?_
        refine G_dup hk dX1_weighUnseen_31 rfl ?_
        refine G_getJ hk dX1_weighUnseen_32 flX1_25 (by decide) rfl rfl ?_
        rw [su_at]
        refine G_rload_n hk dX1_weighUnseen_35 rfl ?_
        refine G_getR hk dX1_weighUnseen_36 flX1_9 (by decide) rfl rfl ?_
        refine G_iload hk dX1_weighUnseen_39 rfl ?_
        refine G_lald hk dX1_weighUnseen_41 (by decide) rfl (by decide) (by omega) (by omega) ?_
        rw [show ((k : Int)).toNat = k from rfl, su_ne _ (by decide), hw k (by omega)]
        refine G_ladd hk dX1_weighUnseen_42 ?_
        refine G_putJ hk dX1_weighUnseen_43 flX1_25 fpX1_1 (by decide) rfl rfl ?_
        refine G_iinc hk dX1_weighUnseen_46 rfl (by decide) rfl ?_
        refine G_goto (tgt := 8) hk dX1_weighUnseen_49 (by decide) ?_
        rw [esh, decide_eq_true (Int.not_le.mp h_27), if_pos rfl] at eab
        rw [eab] at ih
        rw [su_su]
        exact ih

theorem c_X1_above (l : Launch) (Γ : Ev) (d : Nat) (S : Sx) : Ctr l Γ d mX1_above [rf Γ 33] S (pL (fun r S2 => r = S 33 1 ∧ S2 = S)) := by
  refine Ctr.of (by decide) rfl rfl (Nat.le_of_ble_eq_true rfl) ?_
  intro κ hl hk hr
  subst hl
  refine G_rload_n hk dX1_above_0 rfl ?_
  refine G_getJ hk dX1_above_1 flX1_25 (by decide) rfl rfl ?_
  exact G_lret hk hr dX1_above_4 ⟨rfl, rfl⟩

theorem c_X1_below (l : Launch) (Γ : Ev) (d : Nat) (S : Sx) : Ctr l Γ d mX1_below [rf Γ 33] S (pL (fun r S2 => r = S 33 2 ∧ S2 = S)) := by
  refine Ctr.of (by decide) rfl rfl (Nat.le_of_ble_eq_true rfl) ?_
  intro κ hl hk hr
  subst hl
  refine G_rload_n hk dX1_below_0 rfl ?_
  refine G_getJ hk dX1_below_1 flX1_15 (by decide) rfl rfl ?_
  exact G_lret hk hr dX1_below_4 ⟨rfl, rfl⟩
