def chs (n : Nat) : Nat → Int
  | 0 => 1
  | k + 1 => chs n k * ((n : Int) - (k : Int)) / ((k : Int) + 1)
def wm (c x : Int) (k : Nat) : Nat → Int
  | 0 => x
  | i + 1 => wm c x k i * (if i < k then c else 16 - c)
def wgt (c : Int) (n k : Nat) : Int := wm c (chs n k) k n
def shu (sol z f : Int) (k : Nat) : Bool := decide ((if sol - (k : Int) * z < 0 then 0 else sol - (k : Int) * z) < f)
def abv (c : Int) (n : Nat) (sol z f : Int) (m : Nat) : Int := ssm (fun k => if shu sol z f k = true then wgt c n k else 0) m
def prt (a b w : Int) : Int := (if w = 0 then a else b) / ((Nat.gcd a.toNat b.toNat : Nat) : Int)
def a_shotsOf (A : Av) (c y n p z w : Int) : Int := prt (abv c n.toNat (a_solidOf A y p) z (aF A) (n.toNat + 1)) (16 ^ n.toNat) w
def a_shots (A : Av) (c y n p z w : Int) : Int := if ¬ (0 ≤ c ∧ c ≤ 16) then -9223372036854775806 else if ¬ (0 ≤ y ∧ y ≤ 29) then -9223372036854775806 else if ¬ (1 ≤ n ∧ n ≤ 10) then -9223372036854775806 else if ¬ (0 ≤ p ∧ p ≤ (aN A : Int) - 1) then -9223372036854775806 else if ¬ (1 ≤ z ∧ z ≤ 9) then -9223372036854775806 else if ¬ (0 ≤ w ∧ w ≤ 1) then -9223372036854775806 else a_shotsOf A c y n p z w
theorem tn_mod {x y : Int} (hx : 0 ≤ x) (hy : 0 ≤ y) : (x % y).toNat = x.toNat % y.toNat := by
  obtain ⟨a, rfl⟩ := Int.eq_ofNat_of_zero_le hx
  obtain ⟨b, rfl⟩ := Int.eq_ofNat_of_zero_le hy
  rfl
theorem chs_all : ∀ (n : Fin 11) (k : Fin 12), 0 ≤ chs n.val k.val ∧ chs n.val k.val ≤ 252 := by decide +kernel
theorem chs_bd {n k : Nat} (hn : n ≤ 10) (hk : k ≤ 11) : 0 ≤ chs n k ∧ chs n k ≤ 252 := chs_all ⟨n, by omega⟩ ⟨k, by omega⟩
theorem wm_bd {c x : Int} {k : Nat} (hc : 0 ≤ c ∧ c ≤ 16) (hx : 0 ≤ x ∧ x ≤ 252) : ∀ i, 0 ≤ wm c x k i ∧ wm c x k i ≤ 252 * 16 ^ i
  | 0 => by simp only [wm, Int.pow_zero, Int.mul_one]; exact hx
  | i + 1 => by
    have ih := wm_bd (k := k) hc hx i
    have hf : 0 ≤ (if i < k then c else 16 - c) ∧ (if i < k then c else 16 - c) ≤ 16 := by split <;> omega
    simp only [wm]
    refine ⟨Int.mul_nonneg ih.1 hf.1, ?_⟩
    have h1 := Int.mul_le_mul ih.2 hf.2 hf.1 (show (0 : Int) ≤ 252 * 16 ^ i from Int.mul_nonneg (by decide) (Int.pow_nonneg (by decide)))
    rw [Int.pow_succ, ← Int.mul_assoc]
    exact h1
theorem pow16 {n : Nat} (hn : n ≤ 10) : (1 : Int) ≤ 16 ^ n ∧ (16 : Int) ^ n ≤ 1099511627776 := by
  have h : ∀ m : Fin 11, (1 : Int) ≤ 16 ^ m.val ∧ (16 : Int) ^ m.val ≤ 1099511627776 := by decide +kernel
  exact h ⟨n, by omega⟩
theorem abv_bd {c : Int} {n : Nat} {sol z f : Int} (hc : 0 ≤ c ∧ c ≤ 16) (hn : n ≤ 10) {m : Nat} (hm : m ≤ 11) : 0 ≤ abv c n sol z f m ∧ abv c n sol z f m ≤ 3047846232195072 := by
  have h := ssm_bd (f := fun k => if shu sol z f k = true then wgt c n k else 0) (b := 277076930199552) (n := m) (fun k hk => by
    have h1 := wm_bd (k := k) hc (chs_bd hn (show k ≤ 11 by omega)) n
    have h2 := pow16 hn
    have h3 : wgt c n k = wm c (chs n k) k n := rfl
    split <;> omega)
  unfold abv
  omega

theorem c_X11_part (l : Launch) (Γ : Ev) (d : Nat) (S : Sx) (a b w : Int) (ha : 0 ≤ a ∧ a < 4611686018427387904) (hb : 0 < b ∧ b < 4611686018427387904) (hw : R32 w) : Ctr l Γ d mX11_part [vL a, vL b, vI w] S (pL (fun r S2 => r = prt a b w ∧ S2 = S)) := by
  refine Ctr.of (by decide) rfl rfl (Nat.le_of_ble_eq_true rfl) ?_
  intro κ hl hk hr
  subst hl
  refine G_lload_n hk dX11_part_0 rfl ?_
  refine G_lstore hk dX11_part_1 (by decide) rfl ?_
  refine G_lload_n hk dX11_part_3 rfl ?_
  refine G_lstore hk dX11_part_4 (by decide) rfl ?_
  have lp : ∀ (m : Nat) (x y : Int) (w9 : Option Value), y.toNat ≤ m → (0 ≤ x ∧ x < 4611686018427387904) → (0 ≤ y ∧ y < 4611686018427387904) → (0 < x ∨ 0 < y) → Nat.gcd x.toNat y.toNat = Nat.gcd a.toNat b.toNat → GW κ Γ 6 [some (vL a), none, some (vL b), none, some (vI w), some (vL x), none, some (vL y), none, w9, none] [] (wl Γ S) := by
    intro m
    induction m with
    | zero =>
      intro x y w9 h1 h2 h3 h4 h5
      have hy0 : y = 0 := by omega
      have hg : ((Nat.gcd a.toNat b.toNat : Nat) : Int) = x := by
        rw [← h5, hy0]
        simp
        omega
      refine G_lload hk dX11_part_6 rfl ?_
      refine G_lconst (z := 0) hk dX11_part_8 (by decide) ?_
      refine G_lcmp hk dX11_part_9 ⟨by omega, by omega⟩ ⟨by omega, by omega⟩ ?_
      refine G_if_eq (tgt := 31) hk dX11_part_10 (by decide) (zcmp_r _ _) (fun h_10 => ?_) (fun h_10 => ?_)
      · rw [zcmp_eq] at h_10
        refine G_iload hk dX11_part_31 rfl ?_
        refine G_if_ne (tgt := 40) hk dX11_part_33 (by decide) ⟨by omega, by omega⟩ (fun h_33 => ?_) (fun h_33 => ?_)
        · refine G_lload_n hk dX11_part_40 rfl ?_
          refine G_lload hk dX11_part_41 rfl ?_
          refine G_ldiv hk dX11_part_43 (by omega) (by omega) (by omega) (by omega) ?_
          exact G_lret hk hr dX11_part_44 ⟨by unfold prt; rw [hg]; (repeat' split) <;> first | rfl | (exfalso; omega), rfl⟩
        · refine G_lload_n hk dX11_part_36 rfl ?_
          refine G_goto (tgt := 41) hk dX11_part_37 (by decide) ?_
          refine G_lload hk dX11_part_41 rfl ?_
          refine G_ldiv hk dX11_part_43 (by omega) (by omega) (by omega) (by omega) ?_
          exact G_lret hk hr dX11_part_44 ⟨by unfold prt; rw [hg]; (repeat' split) <;> first | rfl | (exfalso; omega), rfl⟩
      · exact absurd ((zcmp_eq _ _).mpr hy0) h_10--stop
    | succ m ih =>
      intro x y w9 h1 h2 h3 h4 h5
      refine G_lload hk dX11_part_6 rfl ?_
      refine G_lconst (z := 0) hk dX11_part_8 (by decide) ?_
      refine G_lcmp hk dX11_part_9 ⟨by omega, by omega⟩ ⟨by omega, by omega⟩ ?_
      refine G_if_eq (tgt := 31) hk dX11_part_10 (by decide) (zcmp_r _ _) (fun h_10 => ?_) (fun h_10 => ?_)
      · have hg : ((Nat.gcd a.toNat b.toNat : Nat) : Int) = x := by
          rw [zcmp_eq] at h_10
          rw [← h5, h_10]
          simp
          omega
        rw [zcmp_eq] at h_10
        refine G_iload hk dX11_part_31 rfl ?_
        refine G_if_ne (tgt := 40) hk dX11_part_33 (by decide) ⟨by omega, by omega⟩ (fun h_33 => ?_) (fun h_33 => ?_)
        · refine G_lload_n hk dX11_part_40 rfl ?_
          refine G_lload hk dX11_part_41 rfl ?_
          refine G_ldiv hk dX11_part_43 (by omega) (by omega) (by omega) (by omega) ?_
          exact G_lret hk hr dX11_part_44 ⟨by unfold prt; rw [hg]; (repeat' split) <;> first | rfl | (exfalso; omega), rfl⟩
        · refine G_lload_n hk dX11_part_36 rfl ?_
          refine G_goto (tgt := 41) hk dX11_part_37 (by decide) ?_
          refine G_lload hk dX11_part_41 rfl ?_
          refine G_ldiv hk dX11_part_43 (by omega) (by omega) (by omega) (by omega) ?_
          exact G_lret hk hr dX11_part_44 ⟨by unfold prt; rw [hg]; (repeat' split) <;> first | rfl | (exfalso; omega), rfl⟩
      · rw [zcmp_eq] at h_10
        refine G_lload hk dX11_part_13 rfl ?_
        refine G_lload hk dX11_part_15 rfl ?_
        refine G_lrem hk dX11_part_17 (by omega) (by omega) (by omega) (by omega) ?_
        refine G_lstore hk dX11_part_18 (by decide) rfl ?_
        refine G_lload hk dX11_part_20 rfl ?_
        refine G_lstore hk dX11_part_22 (by decide) rfl ?_
        refine G_lload hk dX11_part_24 rfl ?_
        refine G_lstore hk dX11_part_26 (by decide) rfl ?_
        refine G_goto (tgt := 6) hk dX11_part_28 (by decide) ?_
        have h6 := Int.emod_nonneg x (show y ≠ 0 by omega)
        have h7 := Int.emod_lt_of_pos x (show 0 < y by omega)
        refine ih y (x % y) _ (by omega) ⟨by omega, by omega⟩ ⟨h6, by omega⟩ (Or.inl (by omega)) ?_
        rw [tn_mod h2.1 h3.1, ← h5, Nat.gcd_comm x.toNat, Nat.gcd_rec y.toNat x.toNat, Nat.gcd_comm]
  exact GW_L rfl (lp b.toNat a b none (Nat.le_refl _) ⟨by omega, by omega⟩ ⟨by omega, by omega⟩ (Or.inr (by omega)) rfl)

theorem c_X11_no (l : Launch) (Γ : Ev) (d : Nat) (S : Sx) (f : Int) (hf : R32 f) : Ctr l Γ d mX11_no [vI f] S (pL (fun r S2 => r = -9223372036854775808 - f ∧ S2 = S)) := by
  refine Ctr.of (by decide) rfl rfl (Nat.le_of_ble_eq_true rfl) ?_
  intro κ hl hk hr
  subst hl
  refine G_ldc2 (z := (-9223372036854775808)) hk dX11_no_0 kcX11_62 (by decide) ?_
  refine G_iload_n hk dX11_no_3 rfl ?_
  refine G_i2l hk dX11_no_4 ⟨by omega, by omega⟩ ?_
  refine G_lsub hk dX11_no_5 ?_
  exact G_lret hk hr dX11_no_6 ⟨rfl, rfl⟩

theorem c_X11_shotsOf (l : Launch) (Γ : Ev) (d : Nat) (S : Sx) (hR : RdM S) (c y n p z w : Int) (hc : 0 ≤ c ∧ c ≤ 16) (hy : 0 ≤ y ∧ y ≤ 29) (hn : 1 ≤ n ∧ n ≤ 10) (hp : 0 ≤ p ∧ p ≤ (aN (av S) : Int) - 1) (hz : 1 ≤ z ∧ z ≤ 9) (hw : R32 w) : Ctr l Γ (d + 7) mX11_shotsOf [rf Γ 44, vI c, vI y, vI n, vI p, vI z, vI w] S (pL (fun r S2 => r = a_shotsOf (av S) c y n p z w ∧ RdM S2 ∧ frP S S2)) := by
  refine Ctr.of (by decide) rfl rfl (Nat.le_of_ble_eq_true rfl) ?_
  intro κ hl hk hr
  subst hl
  have n8 := aN_8 hR.1.1
  have f9 := hR.1.1.2.2.2.2.2.2.1
  refine G_rload_n hk dX11_shotsOf_0 rfl ?_
  refine G_iload_n hk dX11_shotsOf_1 rfl ?_
  refine G_cV1V hk dX11_shotsOf_2 mvX11_lives mlX11_192 (by decide) rfl rfl (Nat.le_of_ble_eq_true rfl) (c_lv hR ⟨by omega, by omega⟩) (fun S_2 hp_2 => ?_)
  obtain ⟨hX1, hR1, hf1⟩ := hp_2
  have eA := av_frP hf1
  have e54 : S_2 54 p.toNat = a_solidOf (av S) y p := hX1.1 p.toNat (by omega)
  have s54 : 0 ≤ a_solidOf (av S) y p ∧ a_solidOf (av S) y p ≤ 99 + 108 * ((y.toNat + 1 : Nat) : Int) := (lv_bd0 hR.1.1 (y.toNat + 1)).1 p.toNat (by omega)
  have e14 : S_2 44 14 = aF (av S) := by rw [← eA]; rfl
  have p16 := pow16 (n := n.toNat) (by omega)
  have ab := abv_bd (n := n.toNat) (sol := a_solidOf (av S) y p) (z := z) (f := aF (av S)) hc (by omega) (m := n.toNat + 1) (by omega)
  refine G_lconst (z := 0) hk dX11_shotsOf_5 (by decide) ?_
  refine G_lstore hk dX11_shotsOf_6 (by decide) rfl ?_
  refine G_lconst (z := 1) hk dX11_shotsOf_8 (by decide) ?_
  refine G_lstore hk dX11_shotsOf_9 (by decide) rfl ?_
  refine G_iconst hk dX11_shotsOf_11 ?_
  refine G_istore hk dX11_shotsOf_12 (by decide) rfl ?_
  have lp := loop_up (P := fun k => GW κ Γ 14 [some (rf Γ 44), some (vI c), some (vI y), some (vI n), some (vI p), some (vI z), some (vI w), some (vL 0), none, some (vL (16 ^ k)), none, some (vI (k : Int))] [] (wl Γ S_2)) n.toNat ?_ ?_ 0 (Nat.zero_le _)
  · exact lp
  · skip
    refine G_iload hk dX11_shotsOf_14 rfl ?_
    refine G_iload_n hk dX11_shotsOf_16 rfl ?_
    refine G_icmp_ge (tgt := 34) hk dX11_shotsOf_17 (by decide) ⟨by omega, by omega⟩ ⟨by omega, by omega⟩ (fun h_17 => ?_) (fun h_17 => ?_)
    · refine G_lconst (z := 1) hk dX11_shotsOf_34 (by decide) ?_
      refine G_lstore hk dX11_shotsOf_35 (by decide) rfl ?_
      refine G_iconst hk dX11_shotsOf_37 ?_
      refine G_istore hk dX11_shotsOf_38 (by decide) rfl ?_
      have lp2 := loop_up (P := fun k => ∀ w14 w16 : Option Value, GW κ Γ 40 [some (rf Γ 44), some (vI c), some (vI y), some (vI n), some (vI p), some (vI z), some (vI w), some (vL (abv c n.toNat (a_solidOf (av S) y p) z (aF (av S)) k)), none, some (vL (16 ^ n.toNat)), none, some (vL (chs n.toNat k)), none, some (vI (k : Int)), w14, none, w16] [] (wl Γ S_2)) (n.toNat + 1) ?_ ?_ 0 (Nat.zero_le _)
      · exact GW_L rfl (lp2 none none)
      · intro w14 w16
        refine G_iload hk dX11_shotsOf_40 rfl ?_
        refine G_iload_n hk dX11_shotsOf_42 rfl ?_
        refine G_icmp_gt (tgt := 143) hk dX11_shotsOf_43 (by decide) ⟨by omega, by omega⟩ ⟨by omega, by omega⟩ (fun h_43 => ?_) (fun h_43 => ?_)
        · refine G_lload hk dX11_shotsOf_143 rfl ?_
          refine G_lload hk dX11_shotsOf_145 rfl ?_
          refine G_iload hk dX11_shotsOf_147 rfl ?_
          refine G_cS3J hk dX11_shotsOf_149 msX11_part mlX11_295 (Nat.le_of_ble_eq_true rfl) (c_X11_part _ Γ (d + 6) _ _ _ _ ⟨by omega, by omega⟩ ⟨by omega, by omega⟩ ⟨by omega, by omega⟩) (fun r_149 S_149 hp_149 => ?_)
          obtain ⟨rfl, rfl⟩ := hp_149
          exact G_lret hk hr dX11_shotsOf_152 ⟨rfl, hR1, hf1⟩
        · exact absurd h_43 (by omega)--stop
      · intro k hk9 ih w14 w16
        have cb := chs_bd (n := n.toNat) (k := k) (by omega) (by omega)
        have hm9 : 0 ≤ chs n.toNat k * (((n.toNat : Nat) : Int) - (k : Int)) ∧ chs n.toNat k * (((n.toNat : Nat) : Int) - (k : Int)) ≤ 2520 := ⟨Int.mul_nonneg cb.1 (by omega), Int.le_trans (Int.mul_le_mul cb.2 (show ((n.toNat : Nat) : Int) - (k : Int) ≤ 10 by omega) (by omega) (by decide)) (by decide)⟩
        have hkz : 0 ≤ (k : Int) * z ∧ (k : Int) * z ≤ 90 := ⟨Int.mul_nonneg (by omega) (by omega), Int.le_trans (Int.mul_le_mul (show (k : Int) ≤ 10 by omega) (show z ≤ 9 by omega) (by omega) (by decide)) (by decide)⟩
        refine G_iload hk dX11_shotsOf_40 rfl ?_
        refine G_iload_n hk dX11_shotsOf_42 rfl ?_
        refine G_icmp_gt (tgt := 143) hk dX11_shotsOf_43 (by decide) ⟨by omega, by omega⟩ ⟨by omega, by omega⟩ (fun h_43 => ?_) (fun h_43 => ?_)
        · exact absurd h_43 (by omega)--stop
        · refine G_lload hk dX11_shotsOf_46 rfl ?_
          refine G_lstore hk dX11_shotsOf_48 (by decide) rfl ?_
          refine G_iconst hk dX11_shotsOf_50 ?_
          refine G_istore hk dX11_shotsOf_51 (by decide) rfl ?_
          have lp3 := loop_up (P := fun i => GW κ Γ 53 [some (rf Γ 44), some (vI c), some (vI y), some (vI n), some (vI p), some (vI z), some (vI w), some (vL (abv c n.toNat (a_solidOf (av S) y p) z (aF (av S)) k)), none, some (vL (16 ^ n.toNat)), none, some (vL (chs n.toNat k)), none, some (vI (k : Int)), some (vL (wm c (chs n.toNat k) k i)), none, some (vI (i : Int))] [] (wl Γ S_2)) n.toNat ?_ ?_ 0 (Nat.zero_le _)
          · exact lp3
          · skip
            refine G_iload hk dX11_shotsOf_53 rfl ?_
            refine G_iload_n hk dX11_shotsOf_55 rfl ?_
            refine G_icmp_ge (tgt := 87) hk dX11_shotsOf_56 (by decide) ⟨by omega, by omega⟩ ⟨by omega, by omega⟩ (fun h_56 => ?_) (fun h_56 => ?_)
            · refine G_lload hk dX11_shotsOf_87 rfl ?_
              refine G_rload_n hk dX11_shotsOf_89 rfl ?_
              refine G_getR hk dX11_shotsOf_90 flX11_37 (by decide) rfl rfl ?_
              refine G_iload hk dX11_shotsOf_93 rfl ?_
              refine G_iald hk dX11_shotsOf_95 (by decide) rfl (by decide) (by omega) (by omega) ?_
              rw [e54]
              refine G_iload hk dX11_shotsOf_96 rfl ?_
              refine G_iload hk dX11_shotsOf_98 rfl ?_
              refine G_imul hk dX11_shotsOf_100 ?_
              refine G_isub hk dX11_shotsOf_101 ?_
              refine G_cS1P hk dX11_shotsOf_102 msX11_least0 mlX11_292 (Nat.le_of_ble_eq_true rfl) (c_X11_least0 _ Γ (d + 6) _ _ ⟨by omega, by omega⟩) ?_
              refine G_rload_n hk dX11_shotsOf_105 rfl ?_
              refine G_getI hk dX11_shotsOf_106 flX11_52 (by decide) rfl rfl ?_
              rw [e14]
              refine G_icmp_ge (tgt := 117) hk dX11_shotsOf_109 (by decide) ⟨by split <;> omega, by split <;> omega⟩ ⟨by omega, by omega⟩ (fun h_109 => ?_) (fun h_109 => ?_)
              · have h9 := Int.not_lt.mpr h_109
                refine G_lconst (z := 0) hk dX11_shotsOf_117 (by decide) ?_
                refine G_ladd hk dX11_shotsOf_118 ?_
                refine G_lstore hk dX11_shotsOf_119 (by decide) rfl ?_
                refine G_lload hk dX11_shotsOf_121 rfl ?_
                refine G_iload_n hk dX11_shotsOf_123 rfl ?_
                refine G_iload hk dX11_shotsOf_124 rfl ?_
                refine G_isub hk dX11_shotsOf_126 ?_
                refine G_i2l hk dX11_shotsOf_127 ⟨by omega, by omega⟩ ?_
                refine G_lmul hk dX11_shotsOf_128 ?_
                refine G_iload hk dX11_shotsOf_129 rfl ?_
                refine G_iconst hk dX11_shotsOf_131 ?_
                refine G_iadd hk dX11_shotsOf_132 ?_
                refine G_i2l hk dX11_shotsOf_133 ⟨by omega, by omega⟩ ?_
                refine G_ldiv hk dX11_shotsOf_134 (by rw [show ((n.toNat : Nat) : Int) = n by omega] at hm9; exact hm9.1) (by rw [show ((n.toNat : Nat) : Int) = n by omega] at hm9; omega) (by omega) (by omega) ?_
                refine G_lstore hk dX11_shotsOf_135 (by decide) rfl ?_
                refine G_iinc hk dX11_shotsOf_137 rfl (by decide) rfl ?_
                refine G_goto (tgt := 40) hk dX11_shotsOf_140 (by decide) ?_
                have e9 : abv c n.toNat (a_solidOf (av S) y p) z (aF (av S)) (k + 1) = abv c n.toNat (a_solidOf (av S) y p) z (aF (av S)) k + 0 := by
                  unfold abv
                  simp only [ssm]
                  congr 1
                  rw [if_neg (by unfold shu; simp only [decide_eq_true_eq]; exact h9)]
                  skip
                rw [← e9]
                have e10 : chs n.toNat (k + 1) = chs n.toNat k * (n - (k : Int)) / ((k : Int) + 1) := by
                  simp only [chs]
                  rw [show ((n.toNat : Nat) : Int) = n by omega]
                rw [← e10]
                exact ih _ _
              · have h9 := Int.not_le.mp h_109
                refine G_lload hk dX11_shotsOf_112 rfl ?_
                refine G_goto (tgt := 118) hk dX11_shotsOf_114 (by decide) ?_
                refine G_ladd hk dX11_shotsOf_118 ?_
                refine G_lstore hk dX11_shotsOf_119 (by decide) rfl ?_
                refine G_lload hk dX11_shotsOf_121 rfl ?_
                refine G_iload_n hk dX11_shotsOf_123 rfl ?_
                refine G_iload hk dX11_shotsOf_124 rfl ?_
                refine G_isub hk dX11_shotsOf_126 ?_
                refine G_i2l hk dX11_shotsOf_127 ⟨by omega, by omega⟩ ?_
                refine G_lmul hk dX11_shotsOf_128 ?_
                refine G_iload hk dX11_shotsOf_129 rfl ?_
                refine G_iconst hk dX11_shotsOf_131 ?_
                refine G_iadd hk dX11_shotsOf_132 ?_
                refine G_i2l hk dX11_shotsOf_133 ⟨by omega, by omega⟩ ?_
                refine G_ldiv hk dX11_shotsOf_134 (by rw [show ((n.toNat : Nat) : Int) = n by omega] at hm9; exact hm9.1) (by rw [show ((n.toNat : Nat) : Int) = n by omega] at hm9; omega) (by omega) (by omega) ?_
                refine G_lstore hk dX11_shotsOf_135 (by decide) rfl ?_
                refine G_iinc hk dX11_shotsOf_137 rfl (by decide) rfl ?_
                refine G_goto (tgt := 40) hk dX11_shotsOf_140 (by decide) ?_
                have e9 : abv c n.toNat (a_solidOf (av S) y p) z (aF (av S)) (k + 1) = abv c n.toNat (a_solidOf (av S) y p) z (aF (av S)) k + wm c (chs n.toNat k) k n.toNat := by
                  unfold abv
                  simp only [ssm]
                  congr 1
                  rw [if_pos (by unfold shu; simp only [decide_eq_true_eq]; exact h9)]
                  rfl
                rw [← e9]
                have e10 : chs n.toNat (k + 1) = chs n.toNat k * (n - (k : Int)) / ((k : Int) + 1) := by
                  simp only [chs]
                  rw [show ((n.toNat : Nat) : Int) = n by omega]
                rw [← e10]
                exact ih _ _
            · exact absurd h_56 (by omega)--stop
          · intro i hi9 ih3
            refine G_iload hk dX11_shotsOf_53 rfl ?_
            refine G_iload_n hk dX11_shotsOf_55 rfl ?_
            refine G_icmp_ge (tgt := 87) hk dX11_shotsOf_56 (by decide) ⟨by omega, by omega⟩ ⟨by omega, by omega⟩ (fun h_56 => ?_) (fun h_56 => ?_)
            · exact absurd h_56 (by omega)--stop
            · refine G_lload hk dX11_shotsOf_59 rfl ?_
              refine G_iload hk dX11_shotsOf_61 rfl ?_
              refine G_iload hk dX11_shotsOf_63 rfl ?_
              refine G_icmp_ge (tgt := 73) hk dX11_shotsOf_65 (by decide) ⟨by omega, by omega⟩ ⟨by omega, by omega⟩ (fun h_65 => ?_) (fun h_65 => ?_)
              · refine G_bipush hk dX11_shotsOf_73 (by decide) ?_
                refine G_iload_n hk dX11_shotsOf_75 rfl ?_
                refine G_isub hk dX11_shotsOf_76 ?_
                refine G_i2l hk dX11_shotsOf_77 ⟨by omega, by omega⟩ ?_
                refine G_lmul hk dX11_shotsOf_78 ?_
                refine G_lstore hk dX11_shotsOf_79 (by decide) rfl ?_
                refine G_iinc hk dX11_shotsOf_81 rfl (by decide) rfl ?_
                refine G_goto (tgt := 53) hk dX11_shotsOf_84 (by decide) ?_
                have e9 : wm c (chs n.toNat k) k (i + 1) = wm c (chs n.toNat k) k i * (16 - c) := by
                  simp only [wm]
                  rw [if_neg (by omega)]
                rw [← e9]
                exact ih3
              · refine G_iload_n hk dX11_shotsOf_68 rfl ?_
                refine G_i2l hk dX11_shotsOf_69 ⟨by omega, by omega⟩ ?_
                refine G_goto (tgt := 78) hk dX11_shotsOf_70 (by decide) ?_
                refine G_lmul hk dX11_shotsOf_78 ?_
                refine G_lstore hk dX11_shotsOf_79 (by decide) rfl ?_
                refine G_iinc hk dX11_shotsOf_81 rfl (by decide) rfl ?_
                refine G_goto (tgt := 53) hk dX11_shotsOf_84 (by decide) ?_
                have e9 : wm c (chs n.toNat k) k (i + 1) = wm c (chs n.toNat k) k i * c := by
                  simp only [wm]
                  rw [if_pos (by omega)]
                rw [← e9]
                exact ih3
    · exact absurd h_17 (by omega)--stop
  · intro k hk9 ih
    refine G_iload hk dX11_shotsOf_14 rfl ?_
    refine G_iload_n hk dX11_shotsOf_16 rfl ?_
    refine G_icmp_ge (tgt := 34) hk dX11_shotsOf_17 (by decide) ⟨by omega, by omega⟩ ⟨by omega, by omega⟩ (fun h_17 => ?_) (fun h_17 => ?_)
    · exact absurd h_17 (by omega)--stop
    · refine G_lload hk dX11_shotsOf_20 rfl ?_
      refine G_ldc2 (z := (16)) hk dX11_shotsOf_22 kcX11_290 (by decide) ?_
      refine G_lmul hk dX11_shotsOf_25 ?_
      refine G_lstore hk dX11_shotsOf_26 (by decide) rfl ?_
      refine G_iinc hk dX11_shotsOf_28 rfl (by decide) rfl ?_
      refine G_goto (tgt := 14) hk dX11_shotsOf_31 (by decide) ?_
      rw [← Int.pow_succ]
      exact ih

theorem c_X11_shots (l : Launch) (Γ : Ev) (d : Nat) (S : Sx) (hI : InvM S) (c y n p z w : Int) (h_c : R32 c) (h_y : R32 y) (h_n : R32 n) (h_p : R32 p) (h_z : R32 z) (h_w : R32 w) : Ctr l Γ (d + 8) mX11_shots [rf Γ 44, vI c, vI y, vI n, vI p, vI z, vI w] S (pL (fun r S2 => r = a_shots (av S) c y n p z w ∧ frQ S S2)) := by
  refine Ctr.of (by decide) rfl rfl (Nat.le_of_ble_eq_true rfl) ?_
  intro κ hl hk hr
  subst hl
  refine G_rload_n hk dX11_shots_0 rfl ?_
  refine G_cV0I hk dX11_shots_1 mvX11_reads mlX11_113 (by decide) rfl rfl (Nat.le_of_ble_eq_true rfl) (c_rd hI) (fun r_1 S_1 hp_1 => ?_)
  obtain ⟨hr0, hR, hq⟩ := hp_1
  have eQ := av_frQ hq
  have e8 : S_1 44 8 = (aN (av S) : Int) := by rw [hR.2.1, eQ]
  have n8 := aN_8 hI.1
  refine G_pop hk dX11_shots_4 rfl ?_
  refine G_iload_n hk dX11_shots_5 rfl ?_
  refine G_i2l hk dX11_shots_6 ⟨by omega, by omega⟩ ?_
  refine G_lconst (z := 0) hk dX11_shots_7 (by decide) ?_
  refine G_ldc2 (z := (16)) hk dX11_shots_8 kcX11_290 (by decide) ?_
  refine G_cS3P hk dX11_shots_11 msX11_in mlX11_64 (Nat.le_of_ble_eq_true rfl) (c_X11_in _ Γ (d + 7) _ _ _ _ ⟨by omega, by omega⟩ ⟨by omega, by omega⟩ ⟨by omega, by omega⟩) ?_
  refine G_bif_eq (tgt := 70) hk dX11_shots_14 (by decide) (fun h_14 => ?_) (fun h_14 => ?_)
  · refine G_iconst hk dX11_shots_70 ?_
    refine G_istore hk dX11_shots_71 (by decide) rfl ?_
    refine G_iload hk dX11_shots_73 rfl ?_
    refine G_if_eq (tgt := 94) hk dX11_shots_75 (by decide) ⟨by omega, by omega⟩ (fun h_75 => ?_) (fun h_75 => ?_)
    · refine G_bipush hk dX11_shots_94 (by decide) ?_
      refine G_cS1J hk dX11_shots_96 msX11_no mlX11_305 (Nat.le_of_ble_eq_true rfl) (c_X11_no _ Γ (d + 7) _ _ ⟨by omega, by omega⟩) (fun r_96 S_96 hp_96 => ?_)
      obtain ⟨rfl, rfl⟩ := hp_96
      exact G_lret hk hr dX11_shots_99 ⟨by unfold a_shots; (repeat' split) <;> first | (exfalso; omega) | rfl, hq⟩
    · exact absurd h_75 (by omega)--stop
  · refine G_iload_n hk dX11_shots_17 rfl ?_
    refine G_cS1P hk dX11_shots_18 msX11_isYear mlX11_130 (Nat.le_of_ble_eq_true rfl) (c_X11_isYear _ Γ (d + 6) _ _ ⟨by omega, by omega⟩) ?_
    refine G_bif_eq (tgt := 70) hk dX11_shots_21 (by decide) (fun h_21 => ?_) (fun h_21 => ?_)
    · refine G_iconst hk dX11_shots_70 ?_
      refine G_istore hk dX11_shots_71 (by decide) rfl ?_
      refine G_iload hk dX11_shots_73 rfl ?_
      refine G_if_eq (tgt := 94) hk dX11_shots_75 (by decide) ⟨by omega, by omega⟩ (fun h_75 => ?_) (fun h_75 => ?_)
      · refine G_bipush hk dX11_shots_94 (by decide) ?_
        refine G_cS1J hk dX11_shots_96 msX11_no mlX11_305 (Nat.le_of_ble_eq_true rfl) (c_X11_no _ Γ (d + 7) _ _ ⟨by omega, by omega⟩) (fun r_96 S_96 hp_96 => ?_)
        obtain ⟨rfl, rfl⟩ := hp_96
        exact G_lret hk hr dX11_shots_99 ⟨by unfold a_shots; (repeat' split) <;> first | (exfalso; omega) | rfl, hq⟩
      · exact absurd h_75 (by omega)--stop
    · refine G_iload_n hk dX11_shots_24 rfl ?_
      refine G_i2l hk dX11_shots_25 ⟨by omega, by omega⟩ ?_
      refine G_lconst (z := 1) hk dX11_shots_26 (by decide) ?_
      refine G_ldc2 (z := (10)) hk dX11_shots_27 kcX11_299 (by decide) ?_
      refine G_cS3P hk dX11_shots_30 msX11_in mlX11_64 (Nat.le_of_ble_eq_true rfl) (c_X11_in _ Γ (d + 7) _ _ _ _ ⟨by omega, by omega⟩ ⟨by omega, by omega⟩ ⟨by omega, by omega⟩) ?_
      refine G_bif_eq (tgt := 70) hk dX11_shots_33 (by decide) (fun h_33 => ?_) (fun h_33 => ?_)
      · refine G_iconst hk dX11_shots_70 ?_
        refine G_istore hk dX11_shots_71 (by decide) rfl ?_
        refine G_iload hk dX11_shots_73 rfl ?_
        refine G_if_eq (tgt := 94) hk dX11_shots_75 (by decide) ⟨by omega, by omega⟩ (fun h_75 => ?_) (fun h_75 => ?_)
        · refine G_bipush hk dX11_shots_94 (by decide) ?_
          refine G_cS1J hk dX11_shots_96 msX11_no mlX11_305 (Nat.le_of_ble_eq_true rfl) (c_X11_no _ Γ (d + 7) _ _ ⟨by omega, by omega⟩) (fun r_96 S_96 hp_96 => ?_)
          obtain ⟨rfl, rfl⟩ := hp_96
          exact G_lret hk hr dX11_shots_99 ⟨by unfold a_shots; (repeat' split) <;> first | (exfalso; omega) | rfl, hq⟩
        · exact absurd h_75 (by omega)--stop
      · refine G_rload_n hk dX11_shots_36 rfl ?_
        refine G_iload hk dX11_shots_37 rfl ?_
        refine G_cV1P hk dX11_shots_39 mvX11_isPerson mlX11_121 (by decide) rfl rfl (Nat.le_of_ble_eq_true rfl) (c_X11_isPerson _ Γ (d + 6) _ _ ⟨by omega, by omega⟩ ⟨by omega, by omega⟩) ?_
        refine G_bif_eq (tgt := 70) hk dX11_shots_42 (by decide) (fun h_42 => ?_) (fun h_42 => ?_)
        · refine G_iconst hk dX11_shots_70 ?_
          refine G_istore hk dX11_shots_71 (by decide) rfl ?_
          refine G_iload hk dX11_shots_73 rfl ?_
          refine G_if_eq (tgt := 94) hk dX11_shots_75 (by decide) ⟨by omega, by omega⟩ (fun h_75 => ?_) (fun h_75 => ?_)
          · refine G_bipush hk dX11_shots_94 (by decide) ?_
            refine G_cS1J hk dX11_shots_96 msX11_no mlX11_305 (Nat.le_of_ble_eq_true rfl) (c_X11_no _ Γ (d + 7) _ _ ⟨by omega, by omega⟩) (fun r_96 S_96 hp_96 => ?_)
            obtain ⟨rfl, rfl⟩ := hp_96
            exact G_lret hk hr dX11_shots_99 ⟨by unfold a_shots; (repeat' split) <;> first | (exfalso; omega) | rfl, hq⟩
          · exact absurd h_75 (by omega)--stop
        · refine G_iload hk dX11_shots_45 rfl ?_
          refine G_i2l hk dX11_shots_47 ⟨by omega, by omega⟩ ?_
          refine G_lconst (z := 1) hk dX11_shots_48 (by decide) ?_
          refine G_ldc2 (z := (9)) hk dX11_shots_49 kcX11_103 (by decide) ?_
          refine G_cS3P hk dX11_shots_52 msX11_in mlX11_64 (Nat.le_of_ble_eq_true rfl) (c_X11_in _ Γ (d + 7) _ _ _ _ ⟨by omega, by omega⟩ ⟨by omega, by omega⟩ ⟨by omega, by omega⟩) ?_
          refine G_bif_eq (tgt := 70) hk dX11_shots_55 (by decide) (fun h_55 => ?_) (fun h_55 => ?_)
          · refine G_iconst hk dX11_shots_70 ?_
            refine G_istore hk dX11_shots_71 (by decide) rfl ?_
            refine G_iload hk dX11_shots_73 rfl ?_
            refine G_if_eq (tgt := 94) hk dX11_shots_75 (by decide) ⟨by omega, by omega⟩ (fun h_75 => ?_) (fun h_75 => ?_)
            · refine G_bipush hk dX11_shots_94 (by decide) ?_
              refine G_cS1J hk dX11_shots_96 msX11_no mlX11_305 (Nat.le_of_ble_eq_true rfl) (c_X11_no _ Γ (d + 7) _ _ ⟨by omega, by omega⟩) (fun r_96 S_96 hp_96 => ?_)
              obtain ⟨rfl, rfl⟩ := hp_96
              exact G_lret hk hr dX11_shots_99 ⟨by unfold a_shots; (repeat' split) <;> first | (exfalso; omega) | rfl, hq⟩
            · exact absurd h_75 (by omega)--stop
          · refine G_iload hk dX11_shots_58 rfl ?_
            refine G_cS1P hk dX11_shots_60 msX11_isTwo mlX11_124 (Nat.le_of_ble_eq_true rfl) (c_X11_isTwo _ Γ (d + 6) _ _ ⟨by omega, by omega⟩) ?_
            refine G_bif_eq (tgt := 70) hk dX11_shots_63 (by decide) (fun h_63 => ?_) (fun h_63 => ?_)
            · refine G_iconst hk dX11_shots_70 ?_
              refine G_istore hk dX11_shots_71 (by decide) rfl ?_
              refine G_iload hk dX11_shots_73 rfl ?_
              refine G_if_eq (tgt := 94) hk dX11_shots_75 (by decide) ⟨by omega, by omega⟩ (fun h_75 => ?_) (fun h_75 => ?_)
              · refine G_bipush hk dX11_shots_94 (by decide) ?_
                refine G_cS1J hk dX11_shots_96 msX11_no mlX11_305 (Nat.le_of_ble_eq_true rfl) (c_X11_no _ Γ (d + 7) _ _ ⟨by omega, by omega⟩) (fun r_96 S_96 hp_96 => ?_)
                obtain ⟨rfl, rfl⟩ := hp_96
                exact G_lret hk hr dX11_shots_99 ⟨by unfold a_shots; (repeat' split) <;> first | (exfalso; omega) | rfl, hq⟩
              · exact absurd h_75 (by omega)--stop
            · refine G_iconst hk dX11_shots_66 ?_
              refine G_goto (tgt := 71) hk dX11_shots_67 (by decide) ?_
              refine G_istore hk dX11_shots_71 (by decide) rfl ?_
              refine G_iload hk dX11_shots_73 rfl ?_
              refine G_if_eq (tgt := 94) hk dX11_shots_75 (by decide) ⟨by omega, by omega⟩ (fun h_75 => ?_) (fun h_75 => ?_)
              · exact absurd h_75 (by omega)--stop
              · refine G_rload_n hk dX11_shots_78 rfl ?_
                refine G_iload_n hk dX11_shots_79 rfl ?_
                refine G_iload_n hk dX11_shots_80 rfl ?_
                refine G_iload_n hk dX11_shots_81 rfl ?_
                refine G_iload hk dX11_shots_82 rfl ?_
                refine G_iload hk dX11_shots_84 rfl ?_
                refine G_iload hk dX11_shots_86 rfl ?_
                refine G_cV6J hk dX11_shots_88 mvX11_shotsOf mlX11_301 (by decide) rfl rfl (Nat.le_of_ble_eq_true rfl) (c_X11_shotsOf _ Γ (d + 0) _ hR _ _ _ _ _ _ ⟨by omega, by omega⟩ ⟨by omega, by omega⟩ ⟨by omega, by omega⟩ (by rw [eQ]; exact ⟨by omega, by omega⟩) ⟨by omega, by omega⟩ ⟨by omega, by omega⟩) (fun r_88 S_88 hp_88 => ?_)
                refine G_goto (tgt := 99) hk dX11_shots_91 (by decide) ?_
                exact G_lret hk hr dX11_shots_99 ⟨by unfold a_shots; rw [hp_88.1, eQ]; (repeat' split) <;> first | (exfalso; omega) | rfl, frQ_t hq (frQ_P hp_88.2.2)⟩
