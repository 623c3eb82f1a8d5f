theorem c_X11_begins (l : Launch) (Γ : Ev) (d : Nat) (S : Sx) (N : Nat) (hN : S 44 8 = N) (h8 : N ≤ 8) (t0 : Nat → Int) (ht : ∀ p, p < N → S 50 (2 * p) = t0 p) : Ctr l Γ d mX11_begins [rf Γ 44] S (pV (fun S2 => MSim N (X0 t0) S2 ∧ fr3 S S2)) := by
  refine Ctr.of (by decide) rfl rfl (Nat.le_of_ble_eq_true rfl) ?_
  intro κ hl hk hr
  subst hl
  refine G_iconst hk dX11_begins_0 ?_
  refine G_istore_n hk dX11_begins_1 (by decide) rfl ?_
  have lp := loop_up (P := fun k => ∀ S1 : Sx, ((∀ p, p < k → S1 54 p = t0 p) ∧ fr3 S S1) → GW κ Γ 2 [some (rf Γ 44), some (vI k)] [] (wl Γ S1)) N ?_ ?_ 0 (Nat.zero_le _)
  · exact lp S ⟨fun j hj => absurd hj (by omega), fun _ _ _ _ => rfl⟩
  · intro S1 ⟨hs, hf⟩
    have e8 : S1 44 8 = N := by rw [hf 44 (by decide) (by decide) (by decide)]; exact hN
    refine G_iload_n hk dX11_begins_2 rfl ?_
    refine G_rload_n hk dX11_begins_3 rfl ?_
    refine G_getI hk dX11_begins_4 flX11_97 (by decide) rfl rfl ?_
    refine G_icmp_ge (tgt := 30) hk dX11_begins_7 (by decide) ⟨by omega, by omega⟩ ⟨by omega, by omega⟩ (fun h_7 => ?_) (fun h_7 => ?_)
    · refine G_iconst hk dX11_begins_30 ?_
      refine G_istore_n hk dX11_begins_31 (by decide) rfl ?_
      have lp2 := loop_up (P := fun k => ∀ S1 : Sx, ((∀ p, p < N → S1 54 p = t0 p) ∧ (∀ j, j < 2 * k → S1 55 j = 0) ∧ (∀ j, j < k → S1 56 j = 0) ∧ fr3 S S1) → GW κ Γ 32 [some (rf Γ 44), some (vI k)] [] (wl Γ S1)) 12 ?_ ?_ 0 (Nat.zero_le _)
      · exact lp2 S1 ⟨hs, fun j hj => absurd hj (by omega), fun j hj => absurd hj (by omega), hf⟩
      · intro S1 ⟨hs, h5, h6, hf⟩
        refine G_iload_n hk dX11_begins_32 rfl ?_
        refine G_bipush hk dX11_begins_33 (by decide) ?_
        refine G_icmp_ge (tgt := 71) hk dX11_begins_35 (by decide) ⟨by omega, by omega⟩ ⟨by omega, by omega⟩ (fun h_35 => ?_) (fun h_35 => ?_)
        · exact G_vret hk hr dX11_begins_71 ⟨⟨hs, fun j hj => h5 j (by omega), h6⟩, hf⟩
        · exact absurd h_35 (by omega)--stop
      · intro k hk9 ih S1 ⟨hs, h5, h6, hf⟩
        refine G_iload_n hk dX11_begins_32 rfl ?_
        refine G_bipush hk dX11_begins_33 (by decide) ?_
        refine G_icmp_ge (tgt := 71) hk dX11_begins_35 (by decide) ⟨by omega, by omega⟩ ⟨by omega, by omega⟩ (fun h_35 => ?_) (fun h_35 => ?_)
        · exact absurd h_35 (by omega)--stop
        · refine G_rload_n hk dX11_begins_38 rfl ?_
          refine G_getR hk dX11_begins_39 flX11_43 (by decide) rfl rfl ?_
          refine G_iload_n hk dX11_begins_42 rfl ?_
          refine G_iconst hk dX11_begins_43 ?_
          refine G_iast hk dX11_begins_44 (by decide) rfl (by decide) (by omega) (by omega) ?_
          refine G_rload_n hk dX11_begins_45 rfl ?_
          refine G_getR hk dX11_begins_46 flX11_40 (by decide) rfl rfl ?_
          refine G_iconst hk dX11_begins_49 ?_
          refine G_iload_n hk dX11_begins_50 rfl ?_
          refine G_imul hk dX11_begins_51 ?_
          refine G_iconst hk dX11_begins_52 ?_
          refine G_iast hk dX11_begins_53 (by decide) rfl (by decide) (by omega) (by omega) ?_
          refine G_rload_n hk dX11_begins_54 rfl ?_
          refine G_getR hk dX11_begins_55 flX11_40 (by decide) rfl rfl ?_
          refine G_iconst hk dX11_begins_58 ?_
          refine G_iload_n hk dX11_begins_59 rfl ?_
          refine G_imul hk dX11_begins_60 ?_
          refine G_iconst hk dX11_begins_61 ?_
          refine G_iadd hk dX11_begins_62 ?_
          refine G_iconst hk dX11_begins_63 ?_
          refine G_iast hk dX11_begins_64 (by decide) rfl (by decide) (by omega) (by omega) ?_
          refine G_iinc hk dX11_begins_65 rfl (by decide) rfl ?_
          refine G_goto (tgt := 32) hk dX11_begins_68 (by decide) ?_
          refine ih _ ⟨?_, ?_, ?_, ?_⟩
          · intro p hp
            rw [su_ne _ (show (54 : Nat) ≠ 55 by decide), su_ne _ (show (54 : Nat) ≠ 55 by decide), su_ne _ (show (54 : Nat) ≠ 56 by decide)]
            exact hs p hp
          · intro j hj
            simp (decide := true) only [su_app, ↓reduceIte]
            by_cases e : j < 2 * k
            · rw [if_neg (by omega), if_neg (by omega)]; exact h5 j e
            · by_cases e2 : j = 2 * k
              · rw [if_neg (by omega), if_pos (by omega)]
              · rw [if_pos (by omega)]
          · intro j hj
            simp (decide := true) only [su_app, ↓reduceIte]
            by_cases e : j = k
            · rw [if_pos (by omega)]
            · rw [if_neg (by omega)]; exact h6 j (by omega)
          · exact fr3_t hf (fun c a b e => by simp only [su_ne _ a, su_ne _ b, su_ne _ e])
    · exact absurd h_7 (by omega)--stop
  · intro k hk9 ih S1 ⟨hs, hf⟩
    have e8 : S1 44 8 = N := by rw [hf 44 (by decide) (by decide) (by decide)]; exact hN
    refine G_iload_n hk dX11_begins_2 rfl ?_
    refine G_rload_n hk dX11_begins_3 rfl ?_
    refine G_getI hk dX11_begins_4 flX11_97 (by decide) rfl rfl ?_
    refine G_icmp_ge (tgt := 30) hk dX11_begins_7 (by decide) ⟨by omega, by omega⟩ ⟨by omega, by omega⟩ (fun h_7 => ?_) (fun h_7 => ?_)
    · exact absurd h_7 (by omega)--stop
    · refine G_rload_n hk dX11_begins_10 rfl ?_
      refine G_getR hk dX11_begins_11 flX11_37 (by decide) rfl rfl ?_
      refine G_iload_n hk dX11_begins_14 rfl ?_
      refine G_rload_n hk dX11_begins_15 rfl ?_
      refine G_getR hk dX11_begins_16 flX11_25 (by decide) rfl rfl ?_
      refine G_iconst hk dX11_begins_19 ?_
      refine G_iload_n hk dX11_begins_20 rfl ?_
      refine G_imul hk dX11_begins_21 ?_
      refine G_iald hk dX11_begins_22 (by decide) rfl (by decide) (by omega) (by omega) ?_
      rw [hf 50 (by decide) (by decide) (by decide), show (2 * (k : Int)).toNat = 2 * k by omega, ht k (by omega)]
      refine G_iast hk dX11_begins_23 (by decide) rfl (by decide) (by omega) (by omega) ?_
      refine G_iinc hk dX11_begins_24 rfl (by decide) rfl ?_
      refine G_goto (tgt := 2) hk dX11_begins_27 (by decide) ?_
      refine ih _ ⟨?_, ?_⟩
      · intro p hp
        simp (decide := true) only [su_app, ↓reduceIte]
        by_cases e : p = k
        · rw [if_pos (by omega), e]
        · rw [if_neg (by omega)]; exact hs p (by omega)
      · exact fr3_t hf (fun c a b e => by simp only [su_ne _ a])

theorem MSim_take {N : Nat} {tw : Nat → Int} {X : Sim} {S : Sx} {p : Nat} {z : Int} (h : MSim N X S) (htw : tw p = -1) : MSim N (sTk tw p z X.1, X.2) (su S 54 p (S 54 p - lsr z (S 54 p))) := by
  refine ⟨fun j hj => ?_, fun j hj => ?_, fun j hj => ?_⟩
  · have g := h.1 j hj
    simp (decide := true) only [su_app, ↓reduceIte, sTk, htw]
    rw [if_neg (show ¬ (-1 : Int) = (j : Int) by omega)]
    by_cases e : j = p
    · subst e; simp [g]
    · simp [e, g]
  · exact h.2.1 j hj
  · exact h.2.2 j hj
theorem MSim_take2 {N : Nat} {tw : Nat → Int} {X : Sim} {S : Sx} {p q : Nat} {z : Int} (h : MSim N X S) (htw : tw p = (q : Int)) (hne : q ≠ p) : MSim N (sTk tw p z X.1, X.2) (su (su S 54 p (S 54 p - lsr z (S 54 p))) 54 q (S 54 q - lsr (z / 2) (S 54 q))) := by
  refine ⟨fun j hj => ?_, fun j hj => ?_, fun j hj => ?_⟩
  · have g := h.1 j hj
    simp (decide := true) only [su_app, ↓reduceIte, sTk, htw]
    by_cases e : j = q
    · subst e; simp [g]
    · rw [if_neg e, if_neg (show ¬ (q : Int) = (j : Int) by omega)]
      by_cases e2 : j = p
      · subst e2; simp [g]
      · simp [e2, g]
  · exact h.2.1 j hj
  · exact h.2.2 j hj
theorem MSim_spy {N : Nat} {X : Sim} {S : Sx} {p : Nat} {z : Int} (h : MSim N X S) (hp : p < N) : MSim N (spy1 p z X) (su S 54 p (S 54 p - lsr z (S 54 p))) := by
  refine ⟨fun j hj => ?_, fun j hj => h.2.1 j hj, fun j hj => h.2.2 j hj⟩
  have g := h.1 j hj
  simp (decide := true) only [su_app, ↓reduceIte, spy1, upf, h.1 p hp, g]

theorem c_lot {l : Launch} {Γ : Ev} {d : Nat} {S : Sx} {m : Int} (hm : 0 < m ∧ m < 1000) : Ctr l Γ d mX11_lot [rf Γ 44, vI m] S (pI (fun r S2 => r = lotv (lotf (S 44 22)) m ∧ S2 = su S 44 22 (lotf (S 44 22)))) := c_X11_lot l Γ d S m hm
theorem g2_y {E : En} {m : Mo} {Z : Sim × Int} (h : m.2.2.1 ≠ -1 ∧ 0 < (E.1 : Int)) : g2 E m Z = plate1 E.1 E.2.1 Z := if_pos h
theorem g2_n {E : En} {m : Mo} {Z : Sim × Int} (h : ¬ (m.2.2.1 ≠ -1 ∧ 0 < (E.1 : Int))) : g2 E m Z = Z := if_neg h
theorem g3_y {m : Mo} {y : Int} {Z : Sim × Int} (h : 0 < m.2.2.2.2.2 ∧ y = m.2.2.2.1) : g3 m y Z = (spy1 m.2.2.2.2.1.toNat m.2.2.2.2.2 Z.1, Z.2) := if_pos h
theorem g3_n {m : Mo} {y : Int} {Z : Sim × Int} (h : ¬ (0 < m.2.2.2.2.2 ∧ y = m.2.2.2.1)) : g3 m y Z = Z := if_neg h

theorem c_X11_goesOn (l : Launch) (Γ : Ev) (d : Nat) (S : Sx) (y : Int) (hy : R32 y) {N np nb : Nat} {tw : Nat → Int} (b : Int) (hC : SimC N np nb tw S) (Z : Sim × Int) (hX : MSim N Z.1 S) (hd : S 44 22 = Z.2) (hB : SB N (S 51) b Z.1) (hb : b ≤ 90000) (hM : MoOk N (moS S)) : Ctr l Γ (d + 5) mX11_goesOn [rf Γ 44, vI y] S (pV (fun S2 => MSim N (goes (enS N np nb tw S) (moS S) y Z).1 S2 ∧ S2 44 22 = (goes (enS N np nb tw S) (moS S) y Z).2 ∧ fr4 S S2)) := by
  refine Ctr.of (by decide) rfl rfl (Nat.le_of_ble_eq_true rfl) ?_
  intro κ hl hk hr
  subst hl
  have hE := EnOk_of hC
  have hB1 : SB N (S 51) b (g1 (enS N np nb tw S) (moS S) y Z).1 := SB_g1 (E := enS N np nb tw S) hE hB
  have hB2 : SB N (S 51) b (g2 (enS N np nb tw S) (moS S) (g1 (enS N np nb tw S) (moS S) y Z)).1 := SB_g2 (E := enS N np nb tw S) (m := moS S) hB1
  have hB3 : SB N (S 51) b (g3 (moS S) y (g2 (enS N np nb tw S) (moS S) (g1 (enS N np nb tw S) (moS S) y Z))).1 := SB_g3 (E := enS N np nb tw S) (y := y) hM hB2
  have c1 := hC.1
  have m1 := hM.1
  have m2 := hM.2.1
  have m3 := hM.2.2.1
  have m4 := hM.2.2.2
  simp only [moS] at m1 m2 m3 m4
  have K95 : ∀ (S1 : Sx) (w2 w3 : Option Value), (MSim N (g3 (moS S) y (g2 (enS N np nb tw S) (moS S) (g1 (enS N np nb tw S) (moS S) y Z))).1 S1 ∧ S1 44 22 = (g3 (moS S) y (g2 (enS N np nb tw S) (moS S) (g1 (enS N np nb tw S) (moS S) y Z))).2 ∧ fr4 S S1) → GW κ Γ 95 [some (rf Γ 44), some (vI y), w2, w3] [] (wl Γ S1) := by
    intro S1 w2 w3 ⟨hX1, hd1, hf⟩
    have hC1 := SimC_fr4 hf hC
    have e51 : S1 51 = S 51 := hf.1 51 (by decide) (by decide) (by decide) (by decide)
    have e52 : S1 52 = S 52 := hf.1 52 (by decide) (by decide) (by decide) (by decide)
    refine G_rload_n hk dX11_goesOn_95 rfl ?_
    refine G_iload_n hk dX11_goesOn_96 rfl ?_
    refine G_cV1V hk dX11_goesOn_97 mvX11_burnsAll mlX11_183 (by decide) rfl rfl (Nat.le_of_ble_eq_true rfl) (c_X11_burnsAll _ Γ (d + 1) _ _ hy b hC1 _ hX1 (by rw [e51]; exact hB3) (by omega)) (fun S_97 hp_97 => ?_)
    rw [e51, e52] at hp_97
    exact G_vret hk hr dX11_goesOn_100 ⟨hp_97.1, by rw [hp_97.2 44 (by decide) (by decide) (by decide)]; exact hd1, fr4_t hf (fr4_3 hp_97.2)⟩
  have K67 : ∀ (S1 : Sx) (w2 w3 : Option Value), (MSim N (g2 (enS N np nb tw S) (moS S) (g1 (enS N np nb tw S) (moS S) y Z)).1 S1 ∧ S1 44 22 = (g2 (enS N np nb tw S) (moS S) (g1 (enS N np nb tw S) (moS S) y Z)).2 ∧ fr4 S S1) → GW κ Γ 67 [some (rf Γ 44), some (vI y), w2, w3] [] (wl Γ S1) := by
    intro S1 w2 w3 ⟨hX1, hd1, hf⟩
    have e23 : S1 44 23 = S 44 23 := hf.2 23 (by decide)
    have e24 : S1 44 24 = S 44 24 := hf.2 24 (by decide)
    have e25 : S1 44 25 = S 44 25 := hf.2 25 (by decide)
    refine G_rload_n hk dX11_goesOn_67 rfl ?_
    refine G_getI hk dX11_goesOn_68 flX11_174 (by decide) rfl rfl ?_
    refine G_if_le (tgt := 95) hk dX11_goesOn_71 (by decide) ⟨by omega, by omega⟩ (fun h_71 => ?_) (fun h_71 => ?_)
    · refine K95 _ _ _ ⟨?_, ?_, ?_⟩
      · rw [g3_n (by simp only [moS]; omega)]; exact hX1
      · rw [g3_n (by simp only [moS]; omega)]; exact hd1
      · exact hf
    · refine G_iload_n hk dX11_goesOn_74 rfl ?_
      refine G_rload_n hk dX11_goesOn_75 rfl ?_
      refine G_getI hk dX11_goesOn_76 flX11_177 (by decide) rfl rfl ?_
      refine G_icmp_ne (tgt := 95) hk dX11_goesOn_79 (by decide) ⟨by omega, by omega⟩ ⟨by omega, by omega⟩ (fun h_79 => ?_) (fun h_79 => ?_)
      · refine K95 _ _ _ ⟨?_, ?_, ?_⟩
        · rw [g3_n (by simp only [moS]; omega)]; exact hX1
        · rw [g3_n (by simp only [moS]; omega)]; exact hd1
        · exact hf
      · refine G_rload_n hk dX11_goesOn_82 rfl ?_
        refine G_rload_n hk dX11_goesOn_83 rfl ?_
        refine G_getI hk dX11_goesOn_84 flX11_180 (by decide) rfl rfl ?_
        rw [e24]
        refine G_rload_n hk dX11_goesOn_87 rfl ?_
        refine G_getI hk dX11_goesOn_88 flX11_174 (by decide) rfl rfl ?_
        rw [e25]
        have m5 := m4 (by omega)
        have s54 := hB2.1 (S 44 24).toNat (by omega)
        rw [← hX1.1 (S 44 24).toNat (by omega)] at s54
        refine G_cV2I hk dX11_goesOn_91 mvX11_takes mlX11_164 (by decide) rfl rfl (Nat.le_of_ble_eq_true rfl) (c_X11_takes _ Γ (d + 3) _ _ _ ⟨by omega, by omega⟩ ⟨by omega, by omega⟩ ⟨by omega, by omega⟩) (fun r_91 S_91 hp_91 => ?_)
        obtain ⟨rfl, rfl⟩ := hp_91
        refine G_pop hk dX11_goesOn_94 rfl ?_
        refine K95 _ _ _ ⟨?_, ?_, ?_⟩
        · rw [g3_y (by simp only [moS]; omega)]
          exact MSim_spy hX1 (by simp only [moS]; omega)
        · rw [g3_y (by simp only [moS]; omega)]
          exact hd1
        · exact fr4_t hf ⟨fun c a b e f => su_ne _ b, fun k a => rfl⟩
  refine G_rload_n hk dX11_goesOn_0 rfl ?_
  refine G_iload_n hk dX11_goesOn_1 rfl ?_
  refine G_cV1V hk dX11_goesOn_2 mvX11_takesAll mlX11_167 (by decide) rfl rfl (Nat.le_of_ble_eq_true rfl) (c_X11_takesAll _ Γ (d + 0) _ _ hy b hC _ hX hB (by omega)) (fun S_2 hp_2 => ?_)
  obtain ⟨hX1, hf3⟩ := hp_2
  have hX1 : MSim N (g1 (enS N np nb tw S) (moS S) y Z).1 S_2 := hX1
  have hC1 := SimC_fr hf3 hC
  have r44 : S_2 44 = S 44 := hf3 44 (by decide) (by decide) (by decide)
  have e21 : S_2 44 21 = S 44 21 := by rw [r44]
  have e8 : S_2 44 8 = N := by rw [r44]; exact c1.1
  have e22 : S_2 44 22 = Z.2 := by rw [r44]; exact hd
  have hf := fr4_3 hf3
  refine G_rload_n hk dX11_goesOn_5 rfl ?_
  refine G_getI hk dX11_goesOn_6 flX11_59 (by decide) rfl rfl ?_
  rw [e21]
  refine G_iconst hk dX11_goesOn_9 ?_
  refine G_icmp_eq (tgt := 67) hk dX11_goesOn_10 (by decide) ⟨by omega, by omega⟩ ⟨by omega, by omega⟩ (fun h_10 => ?_) (fun h_10 => ?_)
  · refine GW_L (L' := [some (rf Γ 44), some (vI y), none, none]) rfl (K67 _ none none ⟨?_, ?_, ?_⟩)
    · rw [g2_n (by simp only [moS, enS]; omega)]; exact hX1
    · rw [g2_n (by simp only [moS, enS]; omega)]; exact e22
    · exact hf
  · refine G_rload_n hk dX11_goesOn_13 rfl ?_
    refine G_getI hk dX11_goesOn_14 flX11_97 (by decide) rfl rfl ?_
    rw [e8]
    refine G_if_le (tgt := 67) hk dX11_goesOn_17 (by decide) ⟨by omega, by omega⟩ (fun h_17 => ?_) (fun h_17 => ?_)
    · refine GW_L (L' := [some (rf Γ 44), some (vI y), none, none]) rfl (K67 _ none none ⟨?_, ?_, ?_⟩)
      · rw [g2_n (by simp only [moS, enS]; omega)]; exact hX1
      · rw [g2_n (by simp only [moS, enS]; omega)]; exact e22
      · exact hf
    · refine G_rload_n hk dX11_goesOn_20 rfl ?_
      refine G_rload_n hk dX11_goesOn_21 rfl ?_
      refine G_getI hk dX11_goesOn_22 flX11_97 (by decide) rfl rfl ?_
      rw [e8]
      refine G_cV1I hk dX11_goesOn_25 mvX11_lot mlX11_171 (by decide) rfl rfl (Nat.le_of_ble_eq_true rfl) (c_lot ⟨by omega, by omega⟩) (fun r_25 S_25 hp_25 => ?_)
      obtain ⟨rfl, rfl⟩ := hp_25
      refine G_istore_n hk dX11_goesOn_28 (by decide) rfl ?_
      refine G_rload_n hk dX11_goesOn_29 rfl ?_
      refine G_bipush hk dX11_goesOn_30 (by decide) ?_
      refine G_cV1I hk dX11_goesOn_32 mvX11_lot mlX11_171 (by decide) rfl rfl (Nat.le_of_ble_eq_true rfl) (c_lot ⟨by omega, by omega⟩) (fun r_32 S_32 hp_32 => ?_)
      obtain ⟨rfl, rfl⟩ := hp_32
      simp (decide := true) only [su_app, ↓reduceIte]
      refine G_iconst hk dX11_goesOn_35 ?_
      refine G_iadd hk dX11_goesOn_36 ?_
      refine G_istore_n hk dX11_goesOn_37 (by decide) rfl ?_
      have p1 := lotv_in (lotf (S_2 44 22)) (show (0 : Int) < (N : Int) by omega)
      have z1 := lotv_in (lotf (lotf (S_2 44 22))) (show (0 : Int) < 9 by decide)
      have s54 := hB1.1 (lotv (lotf (S_2 44 22)) N).toNat (by omega)
      rw [← hX1.1 (lotv (lotf (S_2 44 22)) N).toNat (by omega)] at s54
      have t54 := hC.2.1 (lotv (lotf (S_2 44 22)) N).toNat (by omega)
      refine G_rload_n hk dX11_goesOn_38 rfl ?_
      refine G_iload_n hk dX11_goesOn_39 rfl ?_
      refine G_iload_n hk dX11_goesOn_40 rfl ?_
      refine G_cV2I hk dX11_goesOn_41 mvX11_takes mlX11_164 (by decide) rfl rfl (Nat.le_of_ble_eq_true rfl) (c_X11_takes _ Γ (d + 3) _ _ _ ⟨by omega, by omega⟩ ⟨by omega, by omega⟩ (show R32 (S_2 54 (lotv (lotf (S_2 44 22)) N).toNat) from ⟨by omega, by omega⟩)) (fun r_41 S_41 hp_41 => ?_)
      obtain ⟨rfl, rfl⟩ := hp_41
      simp (decide := true) only [su_app, ↓reduceIte]
      refine G_pop hk dX11_goesOn_44 rfl ?_
      refine G_rload_n hk dX11_goesOn_45 rfl ?_
      refine G_iload_n hk dX11_goesOn_46 rfl ?_
      refine G_cV1P hk dX11_goesOn_47 mvX11_twinOf mlX11_127 (by decide) rfl rfl (Nat.le_of_ble_eq_true rfl) (c_tw11 (SimC_mv (fun k h9 => by have h8 : ¬ k = 22 := (by omega); simp [su_app, h8]) rfl rfl rfl hC1) ⟨by omega, by omega⟩) ?_
      refine G_iconst hk dX11_goesOn_50 ?_
      refine G_icmp_eq (tgt := 67) hk dX11_goesOn_51 (by decide) ⟨by omega, by omega⟩ ⟨by omega, by omega⟩ (fun h_51 => ?_) (fun h_51 => ?_)
      · refine K67 _ _ _ ⟨?_, ?_, ?_⟩
        · rw [g2_y (by simp only [moS, enS]; omega)]
          show MSim N (sTk tw (lotv (lotf Z.2) N).toNat (lotv (lotf (lotf Z.2)) 9 + 1) _, _) _
          rw [← e22]
          exact MSim_take (S := su (su S_2 44 22 (lotf (S_2 44 22))) 44 22 (lotf (lotf (S_2 44 22)))) hX1 h_51
        · rw [g2_y (by simp only [moS, enS]; omega)]
          show _ = lotf (lotf Z.2)
          rw [← e22]
          simp (decide := true) only [su_app, ↓reduceIte]
        · exact fr4_t hf ⟨fun c a b e f => by simp only [su_ne _ a, su_ne _ b], fun k a => by simp (decide := true) only [su_app, ↓reduceIte, if_neg a]⟩
      · have t55 : 0 ≤ tw (lotv (lotf (S_2 44 22)) N).toNat ∧ tw (lotv (lotf (S_2 44 22)) N).toNat < (N : Int) ∧ tw (lotv (lotf (S_2 44 22)) N).toNat ≠ ((lotv (lotf (S_2 44 22)) N).toNat : Int) := by
          rcases t54 with h | h
          · exact absurd h h_51
          · exact h
        have s55 := hB1.1 (tw (lotv (lotf (S_2 44 22)) N).toNat).toNat (by omega)
        rw [← hX1.1 (tw (lotv (lotf (S_2 44 22)) N).toNat).toNat (by omega)] at s55
        have g54 : su (su (su S_2 44 22 (lotf (S_2 44 22))) 44 22 (lotf (lotf (S_2 44 22)))) 54 (lotv (lotf (S_2 44 22)) N).toNat (S_2 54 (lotv (lotf (S_2 44 22)) N).toNat - lsr (lotv (lotf (lotf (S_2 44 22))) 9 + 1) (S_2 54 (lotv (lotf (S_2 44 22)) N).toNat)) 54 (tw (lotv (lotf (S_2 44 22)) N).toNat).toNat = S_2 54 (tw (lotv (lotf (S_2 44 22)) N).toNat).toNat := by
          simp (decide := true) only [su_app, ↓reduceIte]
          rw [if_neg (by omega)]
        refine G_rload_n hk dX11_goesOn_54 rfl ?_
        refine G_rload_n hk dX11_goesOn_55 rfl ?_
        refine G_iload_n hk dX11_goesOn_56 rfl ?_
        refine G_cV1P hk dX11_goesOn_57 mvX11_twinOf mlX11_127 (by decide) rfl rfl (Nat.le_of_ble_eq_true rfl) (c_tw11 (SimC_mv (fun k h9 => by have h8 : ¬ k = 22 := (by omega); simp [su_app, h8]) rfl rfl rfl hC1) ⟨by omega, by omega⟩) ?_
        refine G_iload_n hk dX11_goesOn_60 rfl ?_
        refine G_iconst hk dX11_goesOn_61 ?_
        refine G_idiv hk dX11_goesOn_62 (by omega) (by omega) (by omega) (by omega) ?_
        refine G_cV2I hk dX11_goesOn_63 mvX11_takes mlX11_164 (by decide) rfl rfl (Nat.le_of_ble_eq_true rfl) (c_X11_takes _ Γ (d + 3) _ _ _ ⟨by omega, by omega⟩ ⟨by omega, by omega⟩ (by rw [g54]; exact ⟨by omega, by omega⟩)) (fun r_63 S_63 hp_63 => ?_)
        obtain ⟨rfl, rfl⟩ := hp_63
        rw [g54]
        refine G_pop hk dX11_goesOn_66 rfl ?_
        refine K67 _ _ _ ⟨?_, ?_, ?_⟩
        · rw [g2_y (by simp only [moS, enS]; omega)]
          show MSim N (sTk tw (lotv (lotf Z.2) N).toNat (lotv (lotf (lotf Z.2)) 9 + 1) _, _) _
          rw [← e22]
          exact MSim_take2 (S := su (su S_2 44 22 (lotf (S_2 44 22))) 44 22 (lotf (lotf (S_2 44 22)))) hX1 (by omega) (by omega)
        · rw [g2_y (by simp only [moS, enS]; omega)]
          show _ = lotf (lotf Z.2)
          rw [← e22]
          simp (decide := true) only [su_app, ↓reduceIte]
        · exact fr4_t hf ⟨fun c a b e f => by simp only [su_ne _ a, su_ne _ b], fun k a => by simp (decide := true) only [su_app, ↓reduceIte, if_neg a]⟩

theorem c_X11_lives (l : Launch) (Γ : Ev) (d : Nat) (S : Sx) (y : Int) (hy : 0 ≤ y ∧ y ≤ 100) {N np nb : Nat} {tw : Nat → Int} (hC : SimC N np nb tw S) (t0 : Nat → Int) (ht : ∀ p, p < N → S 50 (2 * p) = t0 p) (h99 : ∀ p, p < N → 0 ≤ t0 p ∧ t0 p ≤ 99) (hM : MoOk N (moS S)) : Ctr l Γ (d + 6) mX11_lives [rf Γ 44, vI y] S (pV (fun S2 => MSim N (liv (enS N np nb tw S) (moS S) t0 (S 44 22) (y.toNat + 1)).1 S2 ∧ S2 44 22 = (liv (enS N np nb tw S) (moS S) t0 (S 44 22) (y.toNat + 1)).2 ∧ fr4 S S2)) := by
  refine Ctr.of (by decide) rfl rfl (Nat.le_of_ble_eq_true rfl) ?_
  intro κ hl hk hr
  subst hl
  have c1 := hC.1
  refine G_rload_n hk dX11_lives_0 rfl ?_
  refine G_cV0V hk dX11_lives_1 mvX11_begins mlX11_186 (by decide) rfl rfl (Nat.le_of_ble_eq_true rfl) (c_X11_begins _ Γ (d + 5) _ N c1.1 c1.2.1 t0 ht) (fun S_1 hp_1 => ?_)
  refine G_iconst hk dX11_lives_4 ?_
  refine G_istore_n hk dX11_lives_5 (by decide) rfl ?_
  have lp := loop_up (P := fun k => ∀ S1 : Sx, (MSim N (liv (enS N np nb tw S) (moS S) t0 (S 44 22) k).1 S1 ∧ S1 44 22 = (liv (enS N np nb tw S) (moS S) t0 (S 44 22) k).2 ∧ fr4 S S1) → GW κ Γ 6 [some (rf Γ 44), some (vI y), some (vI k)] [] (wl Γ S1)) (y.toNat + 1) ?_ ?_ 0 (Nat.zero_le _)
  · exact lp _ ⟨hp_1.1, by rw [hp_1.2 44 (by decide) (by decide) (by decide)]; rfl, fr4_3 hp_1.2⟩
  · intro S1 ⟨hX1, hd1, hf⟩
    refine G_iload_n hk dX11_lives_6 rfl ?_
    refine G_iload_n hk dX11_lives_7 rfl ?_
    refine G_icmp_gt (tgt := 22) hk dX11_lives_8 (by decide) ⟨by omega, by omega⟩ ⟨by omega, by omega⟩ (fun h_8 => ?_) (fun h_8 => ?_)
    · exact G_vret hk hr dX11_lives_22 ⟨hX1, hd1, hf⟩
    · exact absurd h_8 (by omega)--stop
  · intro k hk9 ih S1 ⟨hX1, hd1, hf⟩
    have hC1 := SimC_fr4 hf hC
    have e51 : S1 51 = S 51 := hf.1 51 (by decide) (by decide) (by decide) (by decide)
    have hB1 := SB_liv (dr := S 44 22) (EnOk_of hC) hM h99 k
    refine G_iload_n hk dX11_lives_6 rfl ?_
    refine G_iload_n hk dX11_lives_7 rfl ?_
    refine G_icmp_gt (tgt := 22) hk dX11_lives_8 (by decide) ⟨by omega, by omega⟩ ⟨by omega, by omega⟩ (fun h_8 => ?_) (fun h_8 => ?_)
    · exact absurd h_8 (by omega)--stop
    · refine G_rload_n hk dX11_lives_11 rfl ?_
      refine G_iload_n hk dX11_lives_12 rfl ?_
      refine G_cV1V hk dX11_lives_13 mvX11_goesOn mlX11_189 (by decide) rfl rfl (Nat.le_of_ble_eq_true rfl) (c_X11_goesOn _ Γ (d + 0) _ _ ⟨by omega, by omega⟩ (99 + 108 * (k : Int)) hC1 _ hX1 hd1 (by rw [e51]; exact hB1) (by omega) (by rw [moS_fr hf]; exact hM)) (fun S_13 hp_13 => ?_)
      rw [moS_fr hf, enS_fr hf] at hp_13
      refine G_iinc hk dX11_lives_16 rfl (by decide) rfl ?_
      refine G_goto (tgt := 6) hk dX11_lives_19 (by decide) ?_
      exact ih _ ⟨hp_13.1, hp_13.2.1, fr4_t hf hp_13.2.2⟩
