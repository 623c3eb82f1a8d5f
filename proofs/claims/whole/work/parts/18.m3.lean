theorem MSim_tak1 {N : Nat} {tw : Nat → Int} {X : Sim} {S : Sx} {p k : Nat} {z : Int} (h : MSim N X S) (hp : p < N) (htw : tw p = -1) : MSim N (tak tw p k z X) (su (su (su (su S 54 p (S 54 p - lsr z (S 54 p))) 55 (2 * k) (lsr z (S 54 p))) 55 (2 * k + 1) 0) 56 k 1) := by
  refine ⟨fun j hj => ?_, fun j hj => ?_, fun j hj => ?_⟩
  · have g := h.1 j hj
    simp (decide := true) only [su_app, ↓reduceIte, tak, sTk, htw]
    rw [if_neg (show ¬ (-1 : Int) = (j : Int) by omega)]
    by_cases e : j = p
    · subst e; simp [g]
    · simp [e, g]
  · have g := h.2.1 j hj
    simp (decide := true) only [su_app, ↓reduceIte, tak, bTk, upf, htw, h.1 p hp]
    by_cases e : j = 2 * k + 1
    · simp [e]
    · by_cases e2 : j = 2 * k
      · simp [e, e2]
      · simp [e, e2, g]
  · have g := h.2.2 j hj
    simp (decide := true) only [su_app, ↓reduceIte, tak, upf, g]
theorem MSim_tak2 {N : Nat} {tw : Nat → Int} {X : Sim} {S : Sx} {p q k : Nat} {z : Int} (h : MSim N X S) (hp : p < N) (hq : q < N) (htw : tw p = (q : Int)) (hne : q ≠ p) : MSim N (tak tw p k z X) (su (su (su (su (su S 54 p (S 54 p - lsr z (S 54 p))) 55 (2 * k) (lsr z (S 54 p))) 54 q (S 54 q - lsr (z / 2) (S 54 q))) 55 (2 * k + 1) (lsr (z / 2) (S 54 q))) 56 k 1) := by
  refine ⟨fun j hj => ?_, fun j hj => ?_, fun j hj => ?_⟩
  · have g := h.1 j hj
    simp (decide := true) only [su_app, ↓reduceIte, tak, sTk, htw]
    by_cases e : j = q
    · subst e; simp [g]
    · rw [if_neg e, if_neg (show ¬ (q : Int) = (j : Int) by omega)]
      by_cases e2 : j = p
      · subst e2; simp [g]
      · simp [e2, g]
  · have g := h.2.1 j hj
    simp (decide := true) only [su_app, ↓reduceIte, tak, bTk, upf, htw, h.1 p hp, h.1 q hq, Int.toNat_natCast]
    rw [if_neg (show ¬ (q : Int) = -1 by omega)]
    by_cases e : j = 2 * k + 1
    · simp [e]
    · by_cases e2 : j = 2 * k
      · simp [e, e2]
      · simp [e, e2, g]
  · have g := h.2.2 j hj
    simp (decide := true) only [su_app, ↓reduceIte, tak, upf, g]
theorem MSim_bur1 {N : Nat} {tw : Nat → Int} {X : Sim} {S : Sx} {p k : Nat} (h : MSim N X S) (hk : k < 12) (htw : tw p = -1) : MSim N (bur tw p k X) (su (su S 54 p (S 54 p + S 55 (2 * k))) 56 k 2) := by
  refine ⟨fun j hj => ?_, fun j hj => ?_, fun j hj => ?_⟩
  · have g := h.1 j hj
    simp (decide := true) only [su_app, ↓reduceIte, bur, sBu, htw, h.2.1 (2 * k) (by omega)]
    rw [if_neg (show ¬ (-1 : Int) = (j : Int) by omega)]
    by_cases e : j = p
    · subst e; simp [g]
    · simp [e, g]
  · simp (decide := true) only [su_app, ↓reduceIte, bur]
    exact h.2.1 j hj
  · have g := h.2.2 j hj
    simp (decide := true) only [su_app, ↓reduceIte, bur, upf, g]
theorem MSim_bur2 {N : Nat} {tw : Nat → Int} {X : Sim} {S : Sx} {p q k : Nat} (h : MSim N X S) (hk : k < 12) (htw : tw p = (q : Int)) (hne : q ≠ p) : MSim N (bur tw p k X) (su (su (su S 54 p (S 54 p + S 55 (2 * k))) 54 q (S 54 q + S 55 (2 * k + 1))) 56 k 2) := by
  refine ⟨fun j hj => ?_, fun j hj => ?_, fun j hj => ?_⟩
  · have g := h.1 j hj
    simp (decide := true) only [su_app, ↓reduceIte, bur, sBu, htw, h.2.1 (2 * k) (by omega), h.2.1 (2 * k + 1) (by omega)]
    by_cases e : j = q
    · subst e; simp [g]
    · rw [if_neg e, if_neg (show ¬ (q : Int) = (j : Int) by omega)]
      by_cases e2 : j = p
      · subst e2; simp [g]
      · simp [e2, g]
  · simp (decide := true) only [su_app, ↓reduceIte, bur]
    exact h.2.1 j hj
  · have g := h.2.2 j hj
    simp (decide := true) only [su_app, ↓reduceIte, bur, upf, g]
theorem take1_y {N : Nat} {tw P : Nat → Int} {ot os y : Int} {k : Nat} {X : Sim} (h : P (4 * k) = y ∧ (0 ≤ P (4 * k + 1) ∧ P (4 * k + 1) ≤ (N : Int) - 1) ∧ 0 < szf P ot os k) : take1 N tw P ot os y k X = tak tw (P (4 * k + 1)).toNat k (szf P ot os k) X := if_pos h
theorem take1_n {N : Nat} {tw P : Nat → Int} {ot os y : Int} {k : Nat} {X : Sim} (h : ¬ (P (4 * k) = y ∧ (0 ≤ P (4 * k + 1) ∧ P (4 * k + 1) ≤ (N : Int) - 1) ∧ 0 < szf P ot os k)) : take1 N tw P ot os y k X = X := if_neg h
theorem burn1_y {np : Nat} {tw P B : Nat → Int} {y : Int} {j : Nat} {X : Sim} (h : B (2 * j) = y ∧ B (2 * j + 1) < (np : Int) ∧ X.2.2 (B (2 * j + 1)).toNat = 1) : burn1 np tw P B y j X = bur tw (P (4 * (B (2 * j + 1)).toNat + 1)).toNat (B (2 * j + 1)).toNat X := if_pos h
theorem burn1_n {np : Nat} {tw P B : Nat → Int} {y : Int} {j : Nat} {X : Sim} (h : ¬ (B (2 * j) = y ∧ B (2 * j + 1) < (np : Int) ∧ X.2.2 (B (2 * j + 1)).toNat = 1)) : burn1 np tw P B y j X = X := if_neg h
def fr3 (S S2 : Sx) : Prop := ∀ c, c ≠ 54 → c ≠ 55 → c ≠ 56 → S2 c = S c
theorem fr3_t {S S1 S2 : Sx} (h1 : fr3 S S1) (h2 : fr3 S1 S2) : fr3 S S2 := fun c a b e => by rw [h2 c a b e, h1 c a b e]
theorem SimC_fr {N np nb : Nat} {tw : Nat → Int} {S S' : Sx} (f : fr3 S S') (h : SimC N np nb tw S) : SimC N np nb tw S' := SimC_mv (fun k _ => by rw [f 44 (by decide) (by decide) (by decide)]) (f 50 (by decide) (by decide) (by decide)) (f 51 (by decide) (by decide) (by decide)) (f 52 (by decide) (by decide) (by decide)) h

theorem c_X11_takes (l : Launch) (Γ : Ev) (d : Nat) (S : Sx) (p z : Int) (hp : 0 ≤ p ∧ p < 8) (hz : R32 z) (hs : R32 (S 54 p.toNat)) : Ctr l Γ (d + 1) mX11_takes [rf Γ 44, vI p, vI z] S (pI (fun r S2 => r = lsr z (S 54 p.toNat) ∧ S2 = su S 54 p.toNat (S 54 p.toNat - lsr z (S 54 p.toNat)))) := by
  refine Ctr.of (by decide) rfl rfl (Nat.le_of_ble_eq_true rfl) ?_
  intro κ hl hk hr
  subst hl
  refine G_iload_n hk dX11_takes_0 rfl ?_
  refine G_rload_n hk dX11_takes_1 rfl ?_
  refine G_getR hk dX11_takes_2 flX11_37 (by decide) rfl rfl ?_
  refine G_iload_n hk dX11_takes_5 rfl ?_
  refine G_iald hk dX11_takes_6 (by decide) rfl (by decide) (by omega) (by omega) ?_
  refine G_cS2P hk dX11_takes_7 msX11_lesser mlX11_151 (Nat.le_of_ble_eq_true rfl) (c_X11_lesser _ Γ (d + 0) _ _ _ ⟨by omega, by omega⟩ ⟨by omega, by omega⟩) ?_
  refine G_istore_n hk dX11_takes_10 (by decide) rfl ?_
  refine G_rload_n hk dX11_takes_11 rfl ?_
  refine G_getR hk dX11_takes_12 flX11_37 (by decide) rfl rfl ?_
  refine G_iload_n hk dX11_takes_15 rfl ?_
  refine G_dup2 hk dX11_takes_16 rfl rfl ?_
  refine G_iald hk dX11_takes_17 (by decide) rfl (by decide) (by omega) (by omega) ?_
  refine G_iload_n hk dX11_takes_18 rfl ?_
  refine G_isub hk dX11_takes_19 ?_
  refine G_iast hk dX11_takes_20 (by decide) rfl (by decide) (by omega) (by omega) ?_
  refine G_iload_n hk dX11_takes_21 rfl ?_
  exact G_iret hk hr dX11_takes_22 ⟨rfl, rfl⟩

theorem c_X11_lot (l : Launch) (Γ : Ev) (d : Nat) (S : Sx) (m : Int) (hm : 0 < m ∧ m < 1000) : Ctr l Γ d mX11_lot [rf Γ 44, vI m] S (pI (fun r S2 => r = ((1103515245 * S 44 22 + 12345) % 4294967296 / 65536) % m ∧ S2 = su S 44 22 (1103515245 * S 44 22 + 12345))) := by
  refine Ctr.of (by decide) rfl rfl (Nat.le_of_ble_eq_true rfl) ?_
  intro κ hl hk hr
  subst hl
  refine G_rload_n hk dX11_lot_0 rfl ?_
  refine G_ldc (z := (1103515245)) hk dX11_lot_1 kcX11_154 (by decide) ?_
  refine G_rload_n hk dX11_lot_3 rfl ?_
  refine G_getI hk dX11_lot_4 flX11_155 (by decide) rfl rfl ?_
  refine G_imul hk dX11_lot_7 ?_
  refine G_sipush hk dX11_lot_8 (by decide) ?_
  refine G_iadd hk dX11_lot_11 ?_
  refine G_putI hk dX11_lot_12 flX11_155 fpX11_22 (by decide) rfl rfl ?_
  refine G_rload_n hk dX11_lot_15 rfl ?_
  refine G_getI hk dX11_lot_16 flX11_155 (by decide) rfl rfl ?_
  try simp (decide := true) only [su_app, sr_app, ↓reduceIte]
  refine G_bipush hk dX11_lot_19 (by decide) ?_
  refine G_iushr hk dX11_lot_21 ?_
  refine G_iload_n hk dX11_lot_22 rfl ?_
  refine G_irem hk dX11_lot_23 (by omega) (by omega) (by omega) (by omega) ?_
  exact G_iret hk hr dX11_lot_24 ⟨rfl, rfl⟩

theorem c_X11_sizeOf (l : Launch) (Γ : Ev) (d : Nat) (S : Sx) (k : Nat) (hk : k < 12) (h1 : R32 (S 44 19)) : Ctr l Γ d mX11_sizeOf [rf Γ 44, vI (k : Int)] S (pP S (szf (S 51) (S 44 19) (S 44 20) k)) := by
  refine Ctr.of (by decide) rfl rfl (Nat.le_of_ble_eq_true rfl) ?_
  intro κ hl hk hr
  subst hl
  refine G_iload_n hk dX11_sizeOf_0 rfl ?_
  refine G_rload_n hk dX11_sizeOf_1 rfl ?_
  refine G_getI hk dX11_sizeOf_2 flX11_56 (by decide) rfl rfl ?_
  refine G_icmp_ne (tgt := 15) hk dX11_sizeOf_5 (by decide) ⟨by omega, by omega⟩ ⟨by omega, by omega⟩ (fun h_5 => ?_) (fun h_5 => ?_)
  · refine G_rload_n hk dX11_sizeOf_15 rfl ?_
    refine G_getR hk dX11_sizeOf_16 flX11_28 (by decide) rfl rfl ?_
    refine G_iconst hk dX11_sizeOf_19 ?_
    refine G_iload_n hk dX11_sizeOf_20 rfl ?_
    refine G_imul hk dX11_sizeOf_21 ?_
    refine G_iconst hk dX11_sizeOf_22 ?_
    refine G_iadd hk dX11_sizeOf_23 ?_
    refine G_iald hk dX11_sizeOf_24 (by decide) rfl (by decide) (by omega) (by omega) ?_
    exact G_iret hk hr dX11_sizeOf_25 ⟨by unfold szf; first | (rw [if_pos (by omega)]; done) | (rw [if_neg (by omega), show (4 * (k : Int) + 2).toNat = 4 * k + 2 by omega]), rfl⟩
  · refine G_rload_n hk dX11_sizeOf_8 rfl ?_
    refine G_getI hk dX11_sizeOf_9 flX11_158 (by decide) rfl rfl ?_
    refine G_goto (tgt := 25) hk dX11_sizeOf_12 (by decide) ?_
    exact G_iret hk hr dX11_sizeOf_25 ⟨by unfold szf; first | (rw [if_pos (by omega)]; done) | (rw [if_neg (by omega), show (4 * (k : Int) + 2).toNat = 4 * k + 2 by omega]), rfl⟩

theorem c_tw11 {l : Launch} {Γ : Ev} {d : Nat} {S : Sx} {N np nb : Nat} {tw : Nat → Int} {p : Int} (h : SimC N np nb tw S) (hp : 0 ≤ p ∧ p ≤ (N : Int) - 1) : Ctr l Γ (d + 2) mX11_twinOf [rf Γ 44, vI p] S (pP S (tw p.toNat)) := by
  have h1 := h.1
  have h2 := h.2.2.1 p.toNat (by omega)
  rw [Int.toNat_of_nonneg hp.1] at h2
  have h3 := c_X11_twinOf l Γ d S p ⟨by omega, by omega⟩ ⟨by omega, by omega⟩ h2.2
  rw [h2.1] at h3
  exact h3

theorem c_X11_takesAll (l : Launch) (Γ : Ev) (d : Nat) (S : Sx) (y : Int) (hy : R32 y) {N np nb : Nat} {tw : Nat → Int} (b : Int) (hC : SimC N np nb tw S) (X : Sim) (hX : MSim N X S) (hB : SB N (S 51) b X) (hb : b ≤ 100000) : Ctr l Γ (d + 4) mX11_takesAll [rf Γ 44, vI y] S (pV (fun S2 => MSim N (takeN N np tw (S 51) (S 44 19) (S 44 20) y X) S2 ∧ fr3 S S2)) := by
  refine Ctr.of (by decide) rfl rfl (Nat.le_of_ble_eq_true rfl) ?_
  intro κ hl hk hr
  subst hl
  have c1 := hC.1
  refine G_iconst hk dX11_takesAll_0 ?_
  refine G_istore_n hk dX11_takesAll_1 (by decide) rfl ?_
  have lp := loop_up (P := fun k => ∀ (S1 : Sx) (w : Option Value), MSim N (itN (take1 N tw (S 51) (S 44 19) (S 44 20) y) k X) S1 ∧ fr3 S S1 → GW κ Γ 2 [some (rf Γ 44), some (vI y), some (vI k), w] [] (wl Γ S1)) np ?_ ?_ 0 (Nat.zero_le _)
  · exact GW_L (L' := [some (rf Γ 44), some (vI y), some (vI (0 : Nat)), none]) rfl (lp S none ⟨hX, fun _ _ _ _ => rfl⟩)
  · intro S1 w ⟨hX1, hf⟩
    have e44 : S1 44 = S 44 := hf 44 (by decide) (by decide) (by decide)
    refine G_iload_n hk dX11_takesAll_2 rfl ?_
    refine G_rload_n hk dX11_takesAll_3 rfl ?_
    refine G_getI hk dX11_takesAll_4 flX11_139 (by decide) rfl rfl ?_
    rw [e44]
    refine G_icmp_ge (tgt := 119) hk dX11_takesAll_7 (by decide) ⟨by omega, by omega⟩ ⟨by omega, by omega⟩ (fun h_7 => ?_) (fun h_7 => ?_)
    · exact G_vret hk hr dX11_takesAll_119 ⟨hX1, hf⟩
    · exact absurd h_7 (by omega)--stop
  · intro k hk9 ih S1 w ⟨hX1, hf⟩
    have hC1 := SimC_fr hf hC
    have e51 : S1 51 = S 51 := hf 51 (by decide) (by decide) (by decide)
    have e44 : S1 44 = S 44 := hf 44 (by decide) (by decide) (by decide)
    have e19 : S1 44 19 = S 44 19 := by rw [e44]
    have e20 : S1 44 20 = S 44 20 := by rw [e44]
    have c19 : R32 (S1 44 19) := hC1.2.2.2.2.2.1
    have c10 : S1 44 10 = np := hC1.1.2.2.1
    have c8 : S1 44 8 = N := hC1.1.1
    have c1 := hC.1
    have z9 := szf_9 hC hk9
    have hq := hC.2.2.2.1 k hk9
    have hB1 := SB_takeN (ot := S 44 19) (os := S 44 20) (y := y) hC.2.1 hB k (fun i hi => szf_9 hC (by omega))
    refine G_iload_n hk dX11_takesAll_2 rfl ?_
    refine G_rload_n hk dX11_takesAll_3 rfl ?_
    refine G_getI hk dX11_takesAll_4 flX11_139 (by decide) rfl rfl ?_
    refine G_icmp_ge (tgt := 119) hk dX11_takesAll_7 (by decide) ⟨by omega, by omega⟩ ⟨by omega, by omega⟩ (fun h_7 => ?_) (fun h_7 => ?_)
    · exact absurd h_7 (by omega)--stop
    · refine G_rload_n hk dX11_takesAll_10 rfl ?_
      refine G_getR hk dX11_takesAll_11 flX11_28 (by decide) rfl rfl ?_
      refine G_iconst hk dX11_takesAll_14 ?_
      refine G_iload_n hk dX11_takesAll_15 rfl ?_
      refine G_imul hk dX11_takesAll_16 ?_
      refine G_iconst hk dX11_takesAll_17 ?_
      refine G_iadd hk dX11_takesAll_18 ?_
      refine G_iald hk dX11_takesAll_19 (by decide) rfl (by decide) (by omega) (by omega) ?_
      rw [e51, show (4 * (k : Int) + 1).toNat = 4 * k + 1 by omega]
      refine G_istore_n hk dX11_takesAll_20 (by decide) rfl ?_
      refine G_rload_n hk dX11_takesAll_21 rfl ?_
      refine G_getR hk dX11_takesAll_22 flX11_28 (by decide) rfl rfl ?_
      refine G_iconst hk dX11_takesAll_25 ?_
      refine G_iload_n hk dX11_takesAll_26 rfl ?_
      refine G_imul hk dX11_takesAll_27 ?_
      refine G_iald hk dX11_takesAll_28 (by decide) rfl (by decide) (by omega) (by omega) ?_
      rw [e51, show (4 * (k : Int)).toNat = 4 * k by omega]
      refine G_iload_n hk dX11_takesAll_29 rfl ?_
      refine G_icmp_ne (tgt := 113) hk dX11_takesAll_30 (by decide) ⟨by omega, by omega⟩ ⟨by omega, by omega⟩ (fun h_30 => ?_) (fun h_30 => ?_)
      · refine G_iinc hk dX11_takesAll_113 rfl (by decide) rfl ?_
        refine G_goto (tgt := 2) hk dX11_takesAll_116 (by decide) ?_
        refine ih _ _ ⟨?_, ?_⟩
        · show MSim N (take1 N tw (S 51) (S 44 19) (S 44 20) y k _) _
          rw [take1_n (by omega)]
          exact hX1
        · exact hf
      · refine G_rload_n hk dX11_takesAll_33 rfl ?_
        refine G_iload_n hk dX11_takesAll_34 rfl ?_
        refine G_cV1P hk dX11_takesAll_35 mvX11_isPerson mlX11_121 (by decide) rfl rfl (Nat.le_of_ble_eq_true rfl) (c_X11_isPerson _ Γ (d + 2) _ _ ⟨by omega, by omega⟩ ⟨by omega, by omega⟩) ?_
        refine G_bif_eq (tgt := 113) hk dX11_takesAll_38 (by decide) (fun h_38 => ?_) (fun h_38 => ?_)
        · refine G_iinc hk dX11_takesAll_113 rfl (by decide) rfl ?_
          refine G_goto (tgt := 2) hk dX11_takesAll_116 (by decide) ?_
          refine ih _ _ ⟨?_, ?_⟩
          · show MSim N (take1 N tw (S 51) (S 44 19) (S 44 20) y k _) _
            rw [take1_n (by omega)]
            exact hX1
          · exact hf
        · have s54 := hB1.1 (S 51 (4 * k + 1)).toNat (by omega)
          rw [← hX1.1 (S 51 (4 * k + 1)).toNat (by omega)] at s54
          have t54 := hC.2.1 (S 51 (4 * k + 1)).toNat (by omega)
          refine G_rload_n hk dX11_takesAll_41 rfl ?_
          refine G_iload_n hk dX11_takesAll_42 rfl ?_
          refine G_cV1P hk dX11_takesAll_43 mvX11_sizeOf mlX11_161 (by decide) rfl rfl (Nat.le_of_ble_eq_true rfl) (c_X11_sizeOf _ Γ (d + 3) _ k (by omega) c19) ?_
          rw [e51, e19, e20]
          refine G_if_le (tgt := 113) hk dX11_takesAll_46 (by decide) ⟨by omega, by omega⟩ (fun h_46 => ?_) (fun h_46 => ?_)
          · refine G_iinc hk dX11_takesAll_113 rfl (by decide) rfl ?_
            refine G_goto (tgt := 2) hk dX11_takesAll_116 (by decide) ?_
            refine ih _ _ ⟨?_, ?_⟩
            · show MSim N (take1 N tw (S 51) (S 44 19) (S 44 20) y k _) _
              rw [take1_n (by omega)]
              exact hX1
            · exact hf
          · refine G_rload_n hk dX11_takesAll_49 rfl ?_
            refine G_getR hk dX11_takesAll_50 flX11_40 (by decide) rfl rfl ?_
            refine G_iconst hk dX11_takesAll_53 ?_
            refine G_iload_n hk dX11_takesAll_54 rfl ?_
            refine G_imul hk dX11_takesAll_55 ?_
            refine G_rload_n hk dX11_takesAll_56 rfl ?_
            refine G_iload_n hk dX11_takesAll_57 rfl ?_
            refine G_rload_n hk dX11_takesAll_58 rfl ?_
            refine G_iload_n hk dX11_takesAll_59 rfl ?_
            refine G_cV1P hk dX11_takesAll_60 mvX11_sizeOf mlX11_161 (by decide) rfl rfl (Nat.le_of_ble_eq_true rfl) (c_X11_sizeOf _ Γ (d + 3) _ k (by omega) c19) ?_
            rw [e51, e19, e20]
            refine G_cV2I hk dX11_takesAll_63 mvX11_takes mlX11_164 (by decide) rfl rfl (Nat.le_of_ble_eq_true rfl) (c_X11_takes _ Γ (d + 2) _ _ _ ⟨by omega, by omega⟩ ⟨by omega, by omega⟩ ⟨by omega, by omega⟩) (fun r_63 S_63 hp_63 => ?_)
            obtain ⟨rfl, rfl⟩ := hp_63
            refine G_iast hk dX11_takesAll_66 (by decide) rfl (by decide) (by omega) (by omega) ?_
            refine G_rload_n hk dX11_takesAll_67 rfl ?_
            refine G_getR hk dX11_takesAll_68 flX11_40 (by decide) rfl rfl ?_
            refine G_iconst hk dX11_takesAll_71 ?_
            refine G_iload_n hk dX11_takesAll_72 rfl ?_
            refine G_imul hk dX11_takesAll_73 ?_
            refine G_iconst hk dX11_takesAll_74 ?_
            refine G_iadd hk dX11_takesAll_75 ?_
            refine G_rload_n hk dX11_takesAll_76 rfl ?_
            refine G_iload_n hk dX11_takesAll_77 rfl ?_
            refine G_cV1P hk dX11_takesAll_78 mvX11_twinOf mlX11_127 (by decide) rfl rfl (Nat.le_of_ble_eq_true rfl) (c_tw11 (SimC_mv (fun _ _ => rfl) rfl rfl rfl hC1) ⟨by omega, by omega⟩) ?_
            refine G_iconst hk dX11_takesAll_81 ?_
            refine G_icmp_ne (tgt := 89) hk dX11_takesAll_82 (by decide) ⟨by omega, by omega⟩ ⟨by omega, by omega⟩ (fun h_82 => ?_) (fun h_82 => ?_)
            · have t55 : 0 ≤ tw (S 51 (4 * k + 1)).toNat ∧ tw (S 51 (4 * k + 1)).toNat < (N : Int) ∧ tw (S 51 (4 * k + 1)).toNat ≠ ((S 51 (4 * k + 1)).toNat : Int) := by
                rcases t54 with h | h
                · exact absurd h h_82
                · exact h
              have s55 := hB1.1 (tw (S 51 (4 * k + 1)).toNat).toNat (by omega)
              rw [← hX1.1 (tw (S 51 (4 * k + 1)).toNat).toNat (by omega)] at s55
              have g54 : su (su S1 54 (S 51 (4 * k + 1)).toNat (S1 54 (S 51 (4 * k + 1)).toNat - lsr (szf (S 51) (S 44 19) (S 44 20) k) (S1 54 (S 51 (4 * k + 1)).toNat))) 55 (2 * (k : Int)).toNat (lsr (szf (S 51) (S 44 19) (S 44 20) k) (S1 54 (S 51 (4 * k + 1)).toNat)) 54 (tw (S 51 (4 * k + 1)).toNat).toNat = S1 54 (tw (S 51 (4 * k + 1)).toNat).toNat := by
                simp (decide := true) only [su_app, ↓reduceIte]
                rw [if_neg (by omega)]
              refine G_rload_n hk dX11_takesAll_89 rfl ?_
              refine G_rload_n hk dX11_takesAll_90 rfl ?_
              refine G_iload_n hk dX11_takesAll_91 rfl ?_
              refine G_cV1P hk dX11_takesAll_92 mvX11_twinOf mlX11_127 (by decide) rfl rfl (Nat.le_of_ble_eq_true rfl) (c_tw11 (SimC_mv (fun _ _ => rfl) rfl rfl rfl hC1) ⟨by omega, by omega⟩) ?_
              refine G_rload_n hk dX11_takesAll_95 rfl ?_
              refine G_iload_n hk dX11_takesAll_96 rfl ?_
              refine G_cV1P hk dX11_takesAll_97 mvX11_sizeOf mlX11_161 (by decide) rfl rfl (Nat.le_of_ble_eq_true rfl) (c_X11_sizeOf _ Γ (d + 3) _ k (by omega) (by simp (decide := true) only [su_app, ↓reduceIte]; exact c19)) ?_
              simp (decide := true) only [su_app, ↓reduceIte, su_ne]
              rw [e51, e19, e20]
              refine G_iconst hk dX11_takesAll_100 ?_
              refine G_idiv hk dX11_takesAll_101 (by omega) (by omega) (by omega) (by omega) ?_
              refine G_cV2I hk dX11_takesAll_102 mvX11_takes mlX11_164 (by decide) rfl rfl (Nat.le_of_ble_eq_true rfl) (c_X11_takes _ Γ (d + 2) _ _ _ ⟨by omega, by omega⟩ ⟨by omega, by omega⟩ (by rw [g54]; exact ⟨by omega, by omega⟩)) (fun r_102 S_102 hp_102 => ?_)
              obtain ⟨rfl, rfl⟩ := hp_102
              rw [g54]
              refine G_iast hk dX11_takesAll_105 (by decide) rfl (by decide) (by omega) (by omega) ?_
              refine G_rload_n hk dX11_takesAll_106 rfl ?_
              refine G_getR hk dX11_takesAll_107 flX11_43 (by decide) rfl rfl ?_
              refine G_iload_n hk dX11_takesAll_110 rfl ?_
              refine G_iconst hk dX11_takesAll_111 ?_
              refine G_iast hk dX11_takesAll_112 (by decide) rfl (by decide) (by omega) (by omega) ?_
              refine G_iinc hk dX11_takesAll_113 rfl (by decide) rfl ?_
              refine G_goto (tgt := 2) hk dX11_takesAll_116 (by decide) ?_
              refine ih _ _ ⟨?_, ?_⟩
              · show MSim N (take1 N tw (S 51) (S 44 19) (S 44 20) y k _) _
                rw [take1_y ⟨by omega, ⟨by omega, by omega⟩, by omega⟩, show (2 * (k : Int)).toNat = 2 * k by omega, show (2 * (k : Int) + 1).toNat = 2 * k + 1 by omega, Int.toNat_natCast]
                exact MSim_tak2 hX1 (by omega) (by omega) (by omega) (by omega)
              · refine fr3_t hf (fun c a b e => ?_)
                simp only [su_ne _ a, su_ne _ b, su_ne _ e]
            · refine G_iconst hk dX11_takesAll_85 ?_
              refine G_goto (tgt := 105) hk dX11_takesAll_86 (by decide) ?_
              refine G_iast hk dX11_takesAll_105 (by decide) rfl (by decide) (by omega) (by omega) ?_
              refine G_rload_n hk dX11_takesAll_106 rfl ?_
              refine G_getR hk dX11_takesAll_107 flX11_43 (by decide) rfl rfl ?_
              refine G_iload_n hk dX11_takesAll_110 rfl ?_
              refine G_iconst hk dX11_takesAll_111 ?_
              refine G_iast hk dX11_takesAll_112 (by decide) rfl (by decide) (by omega) (by omega) ?_
              refine G_iinc hk dX11_takesAll_113 rfl (by decide) rfl ?_
              refine G_goto (tgt := 2) hk dX11_takesAll_116 (by decide) ?_
              refine ih _ _ ⟨?_, ?_⟩
              · show MSim N (take1 N tw (S 51) (S 44 19) (S 44 20) y k _) _
                rw [take1_y ⟨by omega, ⟨by omega, by omega⟩, by omega⟩, show (2 * (k : Int)).toNat = 2 * k by omega, show (2 * (k : Int) + 1).toNat = 2 * k + 1 by omega, Int.toNat_natCast]
                exact MSim_tak1 hX1 (by omega) h_82
              · refine fr3_t hf (fun c a b e => ?_)
                simp only [su_ne _ a, su_ne _ b, su_ne _ e]

theorem c_X11_burnsAll (l : Launch) (Γ : Ev) (d : Nat) (S : Sx) (y : Int) (hy : R32 y) {N np nb : Nat} {tw : Nat → Int} (b : Int) (hC : SimC N np nb tw S) (X : Sim) (hX : MSim N X S) (hB : SB N (S 51) b X) (hb : b ≤ 100000) : Ctr l Γ (d + 3) mX11_burnsAll [rf Γ 44, vI y] S (pV (fun S2 => MSim N (burnN np nb tw (S 51) (S 52) y X) S2 ∧ fr3 S S2)) := by
  refine Ctr.of (by decide) rfl rfl (Nat.le_of_ble_eq_true rfl) ?_
  intro κ hl hk hr
  subst hl
  have c1 := hC.1
  refine G_iconst hk dX11_burnsAll_0 ?_
  refine G_istore_n hk dX11_burnsAll_1 (by decide) rfl ?_
  have lp := loop_up (P := fun j => ∀ (S1 : Sx) (w w2 : Option Value), MSim N (itN (burn1 np tw (S 51) (S 52) y) j X) S1 ∧ fr3 S S1 → GW κ Γ 2 [some (rf Γ 44), some (vI y), some (vI j), w, w2] [] (wl Γ S1)) nb ?_ ?_ 0 (Nat.zero_le _)
  · exact GW_L (L' := [some (rf Γ 44), some (vI y), some (vI (0 : Nat)), none, none]) rfl (lp S none none ⟨hX, fun _ _ _ _ => rfl⟩)
  · intro S1 w w2 ⟨hX1, hf⟩
    have e44 : S1 44 = S 44 := hf 44 (by decide) (by decide) (by decide)
    refine G_iload_n hk dX11_burnsAll_2 rfl ?_
    refine G_rload_n hk dX11_burnsAll_3 rfl ?_
    refine G_getI hk dX11_burnsAll_4 flX11_144 (by decide) rfl rfl ?_
    rw [e44]
    refine G_icmp_ge (tgt := 128) hk dX11_burnsAll_7 (by decide) ⟨by omega, by omega⟩ ⟨by omega, by omega⟩ (fun h_7 => ?_) (fun h_7 => ?_)
    · exact G_vret hk hr dX11_burnsAll_128 ⟨hX1, hf⟩
    · exact absurd h_7 (by omega)--stop
  · intro j hk9 ih S1 w w2 ⟨hX1, hf⟩
    have hC1 := SimC_fr hf hC
    have e51 : S1 51 = S 51 := hf 51 (by decide) (by decide) (by decide)
    have e52 : S1 52 = S 52 := hf 52 (by decide) (by decide) (by decide)
    have c10 : S1 44 10 = np := hC1.1.2.2.1
    have c12 : S1 44 12 = nb := hC1.1.2.2.2.2.1
    have c8 : S1 44 8 = N := hC1.1.1
    have c1 := hC.1
    have hj := hC.2.2.2.2.1 j hk9
    have hB1 := SB_burnN (np := np) (tw := tw) (y := y) hB j (fun i hi => (hC.2.2.2.2.1 i (by omega)).2)
    refine G_iload_n hk dX11_burnsAll_2 rfl ?_
    refine G_rload_n hk dX11_burnsAll_3 rfl ?_
    refine G_getI hk dX11_burnsAll_4 flX11_144 (by decide) rfl rfl ?_
    refine G_icmp_ge (tgt := 128) hk dX11_burnsAll_7 (by decide) ⟨by omega, by omega⟩ ⟨by omega, by omega⟩ (fun h_7 => ?_) (fun h_7 => ?_)
    · exact absurd h_7 (by omega)--stop
    · refine G_rload_n hk dX11_burnsAll_10 rfl ?_
      refine G_getR hk dX11_burnsAll_11 flX11_31 (by decide) rfl rfl ?_
      refine G_iconst hk dX11_burnsAll_14 ?_
      refine G_iload_n hk dX11_burnsAll_15 rfl ?_
      refine G_imul hk dX11_burnsAll_16 ?_
      refine G_iconst hk dX11_burnsAll_17 ?_
      refine G_iadd hk dX11_burnsAll_18 ?_
      refine G_iald hk dX11_burnsAll_19 (by decide) rfl (by decide) (by omega) (by omega) ?_
      rw [e52, show (2 * (j : Int) + 1).toNat = 2 * j + 1 by omega]
      refine G_istore_n hk dX11_burnsAll_20 (by decide) rfl ?_
      refine G_rload_n hk dX11_burnsAll_21 rfl ?_
      refine G_getR hk dX11_burnsAll_22 flX11_31 (by decide) rfl rfl ?_
      refine G_iconst hk dX11_burnsAll_25 ?_
      refine G_iload_n hk dX11_burnsAll_26 rfl ?_
      refine G_imul hk dX11_burnsAll_27 ?_
      refine G_iald hk dX11_burnsAll_28 (by decide) rfl (by decide) (by omega) (by omega) ?_
      rw [e52, show (2 * (j : Int)).toNat = 2 * j by omega]
      refine G_iload_n hk dX11_burnsAll_29 rfl ?_
      refine G_icmp_ne (tgt := 122) hk dX11_burnsAll_30 (by decide) ⟨by omega, by omega⟩ ⟨by omega, by omega⟩ (fun h_30 => ?_) (fun h_30 => ?_)
      · refine G_iinc hk dX11_burnsAll_122 rfl (by decide) rfl ?_
        refine G_goto (tgt := 2) hk dX11_burnsAll_125 (by decide) ?_
        refine ih _ _ _ ⟨?_, ?_⟩
        · show MSim N (burn1 np tw (S 51) (S 52) y j _) _
          rw [burn1_n (by omega)]
          exact hX1
        · exact hf
      · refine G_iload_n hk dX11_burnsAll_33 rfl ?_
        refine G_rload_n hk dX11_burnsAll_34 rfl ?_
        refine G_getI hk dX11_burnsAll_35 flX11_139 (by decide) rfl rfl ?_
        refine G_icmp_ge (tgt := 122) hk dX11_burnsAll_38 (by decide) ⟨by omega, by omega⟩ ⟨by omega, by omega⟩ (fun h_38 => ?_) (fun h_38 => ?_)
        · refine G_iinc hk dX11_burnsAll_122 rfl (by decide) rfl ?_
          refine G_goto (tgt := 2) hk dX11_burnsAll_125 (by decide) ?_
          refine ih _ _ _ ⟨?_, ?_⟩
          · show MSim N (burn1 np tw (S 51) (S 52) y j _) _
            rw [burn1_n (by omega)]
            exact hX1
          · exact hf
        · refine G_rload_n hk dX11_burnsAll_41 rfl ?_
          refine G_getR hk dX11_burnsAll_42 flX11_43 (by decide) rfl rfl ?_
          refine G_iload_n hk dX11_burnsAll_45 rfl ?_
          have x56 := hX1.2.2 (S 52 (2 * j + 1)).toNat (by omega)
          have y56 := hB1.2.2 (S 52 (2 * j + 1)).toNat (by omega)
          rw [← x56] at y56
          refine G_iald hk dX11_burnsAll_46 (by decide) rfl (by decide) (by omega) (by omega) ?_
          refine G_iconst hk dX11_burnsAll_47 ?_
          refine G_icmp_ne (tgt := 122) hk dX11_burnsAll_48 (by decide) ⟨by omega, by omega⟩ ⟨by omega, by omega⟩ (fun h_48 => ?_) (fun h_48 => ?_)
          · refine G_iinc hk dX11_burnsAll_122 rfl (by decide) rfl ?_
            refine G_goto (tgt := 2) hk dX11_burnsAll_125 (by decide) ?_
            refine ih _ _ _ ⟨?_, ?_⟩
            · show MSim N (burn1 np tw (S 51) (S 52) y j _) _
              rw [burn1_n (by omega)]
              exact hX1
            · exact hf
          · have hp9 := y56.2.2 (by omega)
            refine G_rload_n hk dX11_burnsAll_51 rfl ?_
            refine G_getR hk dX11_burnsAll_52 flX11_28 (by decide) rfl rfl ?_
            refine G_iconst hk dX11_burnsAll_55 ?_
            refine G_iload_n hk dX11_burnsAll_56 rfl ?_
            refine G_imul hk dX11_burnsAll_57 ?_
            refine G_iconst hk dX11_burnsAll_58 ?_
            refine G_iadd hk dX11_burnsAll_59 ?_
            have hq := hC.2.2.2.1 (S 52 (2 * j + 1)).toNat (by omega)
            refine G_iald hk dX11_burnsAll_60 (by decide) rfl (by decide) (by omega) (by omega) ?_
            rw [e51, show (4 * S 52 (2 * j + 1) + 1).toNat = 4 * (S 52 (2 * j + 1)).toNat + 1 by omega]
            refine G_istore hk dX11_burnsAll_61 (by decide) rfl ?_
            refine G_rload_n hk dX11_burnsAll_63 rfl ?_
            refine G_getR hk dX11_burnsAll_64 flX11_37 (by decide) rfl rfl ?_
            refine G_iload hk dX11_burnsAll_67 rfl ?_
            have s54 := hB1.1 (S 51 (4 * (S 52 (2 * j + 1)).toNat + 1)).toNat (by omega)
            rw [← hX1.1 (S 51 (4 * (S 52 (2 * j + 1)).toNat + 1)).toNat (by omega)] at s54
            have t54 := hC.2.1 (S 51 (4 * (S 52 (2 * j + 1)).toNat + 1)).toNat (by omega)
            refine G_dup2 hk dX11_burnsAll_69 rfl rfl ?_
            refine G_iald hk dX11_burnsAll_70 (by decide) rfl (by decide) (by omega) (by omega) ?_
            refine G_rload_n hk dX11_burnsAll_71 rfl ?_
            refine G_getR hk dX11_burnsAll_72 flX11_40 (by decide) rfl rfl ?_
            refine G_iconst hk dX11_burnsAll_75 ?_
            refine G_iload_n hk dX11_burnsAll_76 rfl ?_
            refine G_imul hk dX11_burnsAll_77 ?_
            refine G_iald hk dX11_burnsAll_78 (by decide) rfl (by decide) (by omega) (by omega) ?_
            rw [show (2 * S 52 (2 * j + 1)).toNat = 2 * (S 52 (2 * j + 1)).toNat by omega]
            refine G_iadd hk dX11_burnsAll_79 ?_
            refine G_iast hk dX11_burnsAll_80 (by decide) rfl (by decide) (by omega) (by omega) ?_
            refine G_rload_n hk dX11_burnsAll_81 rfl ?_
            refine G_iload hk dX11_burnsAll_82 rfl ?_
            refine G_cV1P hk dX11_burnsAll_84 mvX11_twinOf mlX11_127 (by decide) rfl rfl (Nat.le_of_ble_eq_true rfl) (c_tw11 (SimC_mv (fun _ _ => rfl) rfl rfl rfl hC1) ⟨by omega, by omega⟩) ?_
            refine G_iconst hk dX11_burnsAll_87 ?_
            refine G_icmp_eq (tgt := 115) hk dX11_burnsAll_88 (by decide) ⟨by omega, by omega⟩ ⟨by omega, by omega⟩ (fun h_88 => ?_) (fun h_88 => ?_)
            · refine G_rload_n hk dX11_burnsAll_115 rfl ?_
              refine G_getR hk dX11_burnsAll_116 flX11_43 (by decide) rfl rfl ?_
              refine G_iload_n hk dX11_burnsAll_119 rfl ?_
              refine G_iconst hk dX11_burnsAll_120 ?_
              refine G_iast hk dX11_burnsAll_121 (by decide) rfl (by decide) (by omega) (by omega) ?_
              refine G_iinc hk dX11_burnsAll_122 rfl (by decide) rfl ?_
              refine G_goto (tgt := 2) hk dX11_burnsAll_125 (by decide) ?_
              refine ih _ _ _ ⟨?_, ?_⟩
              · show MSim N (burn1 np tw (S 51) (S 52) y j _) _
                rw [burn1_y ⟨by omega, by omega, by omega⟩]
                exact MSim_bur1 hX1 (by omega) h_88
              · refine fr3_t hf (fun c a b e => ?_)
                simp only [su_ne _ a, su_ne _ b, su_ne _ e]
            · have t55 : 0 ≤ tw (S 51 (4 * (S 52 (2 * j + 1)).toNat + 1)).toNat ∧ tw (S 51 (4 * (S 52 (2 * j + 1)).toNat + 1)).toNat < (N : Int) ∧ tw (S 51 (4 * (S 52 (2 * j + 1)).toNat + 1)).toNat ≠ ((S 51 (4 * (S 52 (2 * j + 1)).toNat + 1)).toNat : Int) := by
                rcases t54 with h | h
                · exact absurd h h_88
                · exact h
              refine G_rload_n hk dX11_burnsAll_91 rfl ?_
              refine G_getR hk dX11_burnsAll_92 flX11_37 (by decide) rfl rfl ?_
              refine G_rload_n hk dX11_burnsAll_95 rfl ?_
              refine G_iload hk dX11_burnsAll_96 rfl ?_
              refine G_cV1P hk dX11_burnsAll_98 mvX11_twinOf mlX11_127 (by decide) rfl rfl (Nat.le_of_ble_eq_true rfl) (c_tw11 (SimC_mv (fun _ _ => rfl) rfl rfl rfl hC1) ⟨by omega, by omega⟩) ?_
              refine G_dup2 hk dX11_burnsAll_101 rfl rfl ?_
              refine G_iald hk dX11_burnsAll_102 (by decide) rfl (by decide) (by omega) (by omega) ?_
              try simp (decide := true) only [su_app, sr_app, ↓reduceIte]
              rw [if_neg (show ¬ (tw (S 51 (4 * (S 52 (2 * j + 1)).toNat + 1)).toNat).toNat = (S 51 (4 * (S 52 (2 * j + 1)).toNat + 1)).toNat by omega)]
              refine G_rload_n hk dX11_burnsAll_103 rfl ?_
              refine G_getR hk dX11_burnsAll_104 flX11_40 (by decide) rfl rfl ?_
              refine G_iconst hk dX11_burnsAll_107 ?_
              refine G_iload_n hk dX11_burnsAll_108 rfl ?_
              refine G_imul hk dX11_burnsAll_109 ?_
              refine G_iconst hk dX11_burnsAll_110 ?_
              refine G_iadd hk dX11_burnsAll_111 ?_
              refine G_iald hk dX11_burnsAll_112 (by decide) rfl (by decide) (by omega) (by omega) ?_
              try simp (decide := true) only [su_app, sr_app, ↓reduceIte]
              rw [show (2 * S 52 (2 * j + 1) + 1).toNat = 2 * (S 52 (2 * j + 1)).toNat + 1 by omega]
              refine G_iadd hk dX11_burnsAll_113 ?_
              refine G_iast hk dX11_burnsAll_114 (by decide) rfl (by decide) (by omega) (by omega) ?_
              refine G_rload_n hk dX11_burnsAll_115 rfl ?_
              refine G_getR hk dX11_burnsAll_116 flX11_43 (by decide) rfl rfl ?_
              refine G_iload_n hk dX11_burnsAll_119 rfl ?_
              refine G_iconst hk dX11_burnsAll_120 ?_
              refine G_iast hk dX11_burnsAll_121 (by decide) rfl (by decide) (by omega) (by omega) ?_
              refine G_iinc hk dX11_burnsAll_122 rfl (by decide) rfl ?_
              refine G_goto (tgt := 2) hk dX11_burnsAll_125 (by decide) ?_
              refine ih _ _ _ ⟨?_, ?_⟩
              · show MSim N (burn1 np tw (S 51) (S 52) y j _) _
                rw [burn1_y ⟨by omega, by omega, by omega⟩]
                exact MSim_bur2 hX1 (by omega) (by omega) (by omega)
              · refine fr3_t hf (fun c a b e => ?_)
                simp only [su_ne _ a, su_ne _ b, su_ne _ e]
