/-- years with plates by a seed -/
def pls (A : Av) (dr : Int) (n : Nat) : Sim × Int := liv (aE A) (-1, 0, 0, 0, 0, 0) (a0 A) dr n
theorem goes_pl {A : Av} {m : Mo} {y : Int} {Z : Sim × Int} (h1 : m.1 = -1) (hp : m.2.2.1 ≠ -1) (hs : m.2.2.2.2.2 = 0) : goes (aE A) m y Z = goes (aE A) (-1, 0, 0, 0, 0, 0) y Z := by
  unfold goes
  have e1 : g1 (aE A) m y Z = g1 (aE A) (-1, 0, 0, 0, 0, 0) y Z := by
    show (takeN (aN A) (anp A) (aTw A) (aP A) m.1 m.2.1 y Z.1, Z.2) = (takeN (aN A) (anp A) (aTw A) (aP A) (-1) 0 y Z.1, Z.2)
    rw [h1, takeN_m1 _ _ _ _ 0]
  rw [e1]
  have e2 : ∀ Z1, g2 (aE A) m Z1 = g2 (aE A) (-1, 0, 0, 0, 0, 0) Z1 := by
    intro Z1
    by_cases hn : 0 < ((aE A).1 : Int)
    · rw [g2_y ⟨hp, hn⟩, g2_y ⟨by show (0 : Int) ≠ -1; decide, hn⟩]
    · rw [g2_n (fun h => hn h.2), g2_n (fun h => hn h.2)]
  rw [e2, g3_n (fun h => by omega), g3_n (fun h => absurd h.1 (by show ¬ (0 : Int) < 0; decide))]
theorem liv_pl {A : Av} {m : Mo} {dr : Int} (h1 : m.1 = -1) (hp : m.2.2.1 ≠ -1) (hs : m.2.2.2.2.2 = 0) : ∀ n, liv (aE A) m (a0 A) dr n = pls A dr n
  | 0 => rfl
  | n + 1 => by
    have ih := liv_pl (A := A) (dr := dr) h1 hp hs n
    show goes (aE A) m (n : Int) (liv (aE A) m (a0 A) dr n) = goes (aE A) (-1, 0, 0, 0, 0, 0) (n : Int) (pls A dr n)
    rw [ih, goes_pl h1 hp hs]
def a_platesOf (A : Av) (s y p : Int) : Int := (pls A s (y.toNat + 1)).1.1 p.toNat
def a_plates (A : Av) (s y p : Int) : Int := if ¬ (0 ≤ y ∧ y ≤ 29) then -2 else if ¬ (0 ≤ p ∧ p ≤ (aN A : Int) - 1) then -2 else a_platesOf A s y p

theorem c_X11_platesOf (l : Launch) (Γ : Ev) (d : Nat) (S : Sx) (hR : RdM S) (s y p : Int) (hy : 0 ≤ y ∧ y ≤ 29) (hp : 0 ≤ p ∧ p ≤ (aN (av S) : Int) - 1) : Ctr l Γ (d + 7) mX11_platesOf [rf Γ 44, vI s, vI y, vI p] S (pI (fun r S2 => r = a_platesOf (av S) s y p ∧ RdM S2 ∧ frP S S2)) := by
  refine Ctr.of (by decide) rfl rfl (Nat.le_of_ble_eq_true rfl) ?_
  intro κ hl hk hr
  subst hl
  have n8 := aN_8 hR.1.1
  have i4 := hR.1.2.2.2
  have h44 : ∀ k, k ≠ 21 → k ≠ 22 → (su (su S 44 22 s) 44 21 y) 44 k = S 44 k := fun k a b => by simp [su_app, a, b]
  have hC2 : SimC (aN (av S)) (anp (av S)) (anb (av S)) (aTw (av S)) (su (su S 44 22 s) 44 21 y) := by
    have h0 := rdm_sim hR
    have e : ∀ q : Int, tw11 (su (su S 44 22 s) 44 21 y) q = tw11 S q := fun q => by unfold tw11; rw [h44 8 (by decide) (by decide)]; rfl
    unfold SimC at h0 ⊢
    rw [h44 8 (by decide) (by decide), h44 10 (by decide) (by decide), h44 12 (by decide) (by decide), h44 19 (by decide) (by decide), h44 20 (by decide) (by decide)]
    simp only [e]
    exact h0
  have eM : moS (su (su S 44 22 s) 44 21 y) = (-1, S 44 20, y, S 44 23, S 44 24, 0) := by
    unfold moS
    rw [h44 19 (by decide) (by decide), h44 20 (by decide) (by decide), h44 23 (by decide) (by decide), h44 24 (by decide) (by decide), h44 25 (by decide) (by decide), i4.1, i4.2.2.2.2]
    simp [su_app]
  have hM2 : MoOk (aN (av S)) (moS (su (su S 44 22 s) 44 21 y)) := by
    rw [eM]
    exact ⟨⟨by show -2147483648 ≤ y; omega, by show y < 2147483648; omega⟩, i4.2.2.2.1, by show (0 : Int) ≤ 0 ∧ (0 : Int) ≤ 1000; decide, fun h => absurd h (by show ¬ (0 : Int) < 0; decide)⟩
  refine G_rload_n hk dX11_platesOf_0 rfl ?_
  refine G_iload_n hk dX11_platesOf_1 rfl ?_
  refine G_putI hk dX11_platesOf_2 flX11_155 fpX11_22 (by decide) rfl rfl ?_
  refine G_rload_n hk dX11_platesOf_5 rfl ?_
  refine G_iload_n hk dX11_platesOf_6 rfl ?_
  refine G_putI hk dX11_platesOf_7 flX11_59 fpX11_21 (by decide) rfl rfl ?_
  refine G_rload_n hk dX11_platesOf_10 rfl ?_
  refine G_iload_n hk dX11_platesOf_11 rfl ?_
  refine G_cV1V hk dX11_platesOf_12 mvX11_lives mlX11_192 (by decide) rfl rfl (Nat.le_of_ble_eq_true rfl) (c_X11_lives _ Γ (d + 0) _ _ ⟨by omega, by omega⟩ hC2 (a0 (av S)) (fun q hq => (hR.2.2 q hq).1) a0_99 hM2) (fun S_12 hp_12 => ?_)
  obtain ⟨hX2, hd2, hf2⟩ := hp_12
  rw [eM, show enS (aN (av S)) (anp (av S)) (anb (av S)) (aTw (av S)) (su (su S 44 22 s) 44 21 y) = aE (av S) from rfl, show (su (su S 44 22 s) 44 21 y) 44 22 = s by simp [su_app], liv_pl rfl (by show y ≠ -1; omega) rfl] at hX2
  have hfp : frP S (su S_12 44 21 (-1)) := by
    refine ⟨fun c a b e f _ => by rw [su_ne _ a, hf2.1 c a b e f]; simp only [su_ne _ a], fun k hk9 => ?_, ?_, ?_⟩
    · by_cases q : k = 21
      · rw [q, su_at]; exact i4.2.2.1.symm
      · rw [su_nk _ _ _ q, hf2.2 k (by omega)]; exact h44 k q (by omega)
    · rw [su_nk _ _ _ (by decide), hf2.2 20 (by decide), h44 20 (by decide) (by decide)]; exact i4.2.1
    · rw [su_nk _ _ _ (by decide), hf2.2 23 (by decide), h44 23 (by decide) (by decide)]; exact i4.2.2.2.1
  refine G_rload_n hk dX11_platesOf_15 rfl ?_
  refine G_iconst hk dX11_platesOf_16 ?_
  refine G_putI hk dX11_platesOf_17 flX11_59 fpX11_21 (by decide) rfl rfl ?_
  refine G_rload_n hk dX11_platesOf_20 rfl ?_
  refine G_getR hk dX11_platesOf_21 flX11_37 (by decide) rfl rfl ?_
  refine G_iload_n hk dX11_platesOf_24 rfl ?_
  refine G_iald hk dX11_platesOf_25 (by decide) rfl (by decide) (by omega) (by omega) ?_
  try simp (decide := true) only [su_app, sr_app, ↓reduceIte]
  exact G_iret hk hr dX11_platesOf_26 ⟨by rw [hX2.1 _ (by omega)]; rfl, RdM_frP hR hfp, hfp⟩

theorem c_X11_plates (l : Launch) (Γ : Ev) (d : Nat) (S : Sx) (hI : InvM S) (s y p : Int) (h_s : R32 s) (h_y : R32 y) (h_p : R32 p) : Ctr l Γ (d + 8) mX11_plates [rf Γ 44, vI s, vI y, vI p] S (pI (fun r S2 => r = a_plates (av S) s y p ∧ frQ S S2)) := by
  refine Ctr.of (by decide) rfl rfl (Nat.le_of_ble_eq_true rfl) ?_
  intro κ hl hk hr
  subst hl
  refine G_rload_n hk dX11_plates_0 rfl ?_
  refine G_cV0I hk dX11_plates_1 mvX11_reads mlX11_113 (by decide) rfl rfl (Nat.le_of_ble_eq_true rfl) (c_rd hI) (fun r_1 S_1 hp_1 => ?_)
  obtain ⟨hr0, hR, hq⟩ := hp_1
  have eQ := av_frQ hq
  have e8 : S_1 44 8 = (aN (av S) : Int) := by rw [hR.2.1, eQ]
  have n8 := aN_8 hI.1
  refine G_pop hk dX11_plates_4 rfl ?_
  refine G_iload_n hk dX11_plates_5 rfl ?_
  refine G_cS1P hk dX11_plates_6 msX11_isYear mlX11_130 (Nat.le_of_ble_eq_true rfl) (c_X11_isYear _ Γ (d + 6) _ _ ⟨by omega, by omega⟩) ?_
  refine G_bif_eq (tgt := 30) hk dX11_plates_9 (by decide) (fun h_9 => ?_) (fun h_9 => ?_)
  · refine G_bipush hk dX11_plates_30 (by decide) ?_
    exact G_iret hk hr dX11_plates_32 ⟨by unfold a_plates; (repeat' split) <;> first | (exfalso; omega) | rfl, hq⟩
  · refine G_rload_n hk dX11_plates_12 rfl ?_
    refine G_iload_n hk dX11_plates_13 rfl ?_
    refine G_cV1P hk dX11_plates_14 mvX11_isPerson mlX11_121 (by decide) rfl rfl (Nat.le_of_ble_eq_true rfl) (c_X11_isPerson _ Γ (d + 6) _ _ ⟨by omega, by omega⟩ ⟨by omega, by omega⟩) ?_
    refine G_bif_eq (tgt := 30) hk dX11_plates_17 (by decide) (fun h_17 => ?_) (fun h_17 => ?_)
    · refine G_bipush hk dX11_plates_30 (by decide) ?_
      exact G_iret hk hr dX11_plates_32 ⟨by unfold a_plates; (repeat' split) <;> first | (exfalso; omega) | rfl, hq⟩
    · refine G_rload_n hk dX11_plates_20 rfl ?_
      refine G_iload_n hk dX11_plates_21 rfl ?_
      refine G_iload_n hk dX11_plates_22 rfl ?_
      refine G_iload_n hk dX11_plates_23 rfl ?_
      refine G_cV3I hk dX11_plates_24 mvX11_platesOf mlX11_309 (by decide) rfl rfl (Nat.le_of_ble_eq_true rfl) (c_X11_platesOf _ Γ (d + 0) _ hR _ _ _ ⟨by omega, by omega⟩ (by rw [eQ]; exact ⟨by omega, by omega⟩)) (fun r_24 S_24 hp_24 => ?_)
      refine G_goto (tgt := 32) hk dX11_plates_27 (by decide) ?_
      exact G_iret hk hr dX11_plates_32 ⟨by unfold a_plates; rw [hp_24.1, eQ]; (repeat' split) <;> first | (exfalso; omega) | rfl, frQ_t hq (frQ_P hp_24.2.2)⟩

def a_count (A : Av) (lt w : Int) : Int := if w = 0 then (aN A : Int) else if w = 1 then (A.1 : Int) else if w = 2 then (anp A : Int) else if w = 3 then (anb A : Int) else if w = 4 then (ans A : Int) else if w = 5 then aF A else if w = 6 then ssm (a0 A) (aN A) else if w = 7 then ssm (fun p => if aTw A p = -1 then 0 else 1) (aN A) else if w = 8 then lt else -2

theorem c_X11_count (l : Launch) (Γ : Ev) (d : Nat) (S : Sx) (hI : InvM S) (w : Int) (h_w : R32 w) : Ctr l Γ (d + 3) mX11_count [rf Γ 44, vI w] S (pI (fun r S2 => r = a_count (av S) (S 44 4) w ∧ frQ S S2)) := by
  refine Ctr.of (by decide) rfl rfl (Nat.le_of_ble_eq_true rfl) ?_
  intro κ hl hk hr
  subst hl
  have i2 := hI.2.1
  have n8 := aN_8 hI.1
  refine G_iconst hk dX11_count_0 ?_
  refine G_istore_n hk dX11_count_1 (by decide) rfl ?_
  refine G_rload_n hk dX11_count_2 rfl ?_
  refine G_cV0I hk dX11_count_3 mvX11_reads mlX11_113 (by decide) rfl rfl (Nat.le_of_ble_eq_true rfl) (c_rd hI) (fun r_3 S_3 hp_3 => ?_)
  obtain ⟨hr0, hR, hq⟩ := hp_3
  have eQ := av_frQ hq
  have e8 : S_3 44 8 = (aN (av S) : Int) := by rw [hR.2.1, eQ]
  have e6 : S_3 44 6 = ((av S).1 : Int) := by rw [hq.2.1 6 (by omega)]; show S 44 6 = ((S 44 6).toNat : Int); omega
  have e10 : S_3 44 10 = (anp (av S) : Int) := by rw [hq.2.1 10 (by omega)]; show S 44 10 = ((S 44 10).toNat : Int); omega
  have e12 : S_3 44 12 = (anb (av S) : Int) := by rw [hq.2.1 12 (by omega)]; show S 44 12 = ((S 44 12).toNat : Int); omega
  have e31 : S_3 44 31 = (ans (av S) : Int) := by rw [hq.2.1 31 (by omega)]; show S 44 31 = ((S 44 31).toNat : Int); omega
  have e14 : S_3 44 14 = aF (av S) := by rw [hq.2.1 14 (by omega)]; rfl
  have e4 : S_3 44 4 = S 44 4 := hq.2.1 4 (by omega)
  refine G_pop hk dX11_count_6 rfl ?_
  refine G_iload_n hk dX11_count_7 rfl ?_
  by_cases hr9 : w < 0 ∨ 8 < w
  · refine G_tabOut (tgt := 159) hk dX11_count_8 h_w hr9 (by decide) ?_
    refine G_bipush hk dX11_count_159 (by decide) ?_
    exact G_iret hk hr dX11_count_161 ⟨by unfold a_count; (repeat' split) <;> first | (exfalso; omega) | rfl, hq⟩
  have hw9 : w = 0 ∨ w = 1 ∨ w = 2 ∨ w = 3 ∨ w = 4 ∨ w = 5 ∨ w = 6 ∨ w = 7 ∨ w = 8 := by omega
  rcases hw9 with rfl | rfl | rfl | rfl | rfl | rfl | rfl | rfl | rfl
  · refine G_tabIn (tgt := 60) hk dX11_count_8 (by decide) (by decide) (by decide) rfl (by decide) ?_
    refine G_rload_n hk dX11_count_60 rfl ?_
    refine G_getI hk dX11_count_61 flX11_97 (by decide) rfl rfl ?_
    exact G_iret hk hr dX11_count_64 ⟨by rw [e8]; rfl, hq⟩
  · refine G_tabIn (tgt := 65) hk dX11_count_8 (by decide) (by decide) (by decide) rfl (by decide) ?_
    refine G_rload_n hk dX11_count_65 rfl ?_
    refine G_getI hk dX11_count_66 flX11_94 (by decide) rfl rfl ?_
    exact G_iret hk hr dX11_count_69 ⟨by rw [e6]; rfl, hq⟩
  · refine G_tabIn (tgt := 70) hk dX11_count_8 (by decide) (by decide) (by decide) rfl (by decide) ?_
    refine G_rload_n hk dX11_count_70 rfl ?_
    refine G_getI hk dX11_count_71 flX11_139 (by decide) rfl rfl ?_
    exact G_iret hk hr dX11_count_74 ⟨by rw [e10]; rfl, hq⟩
  · refine G_tabIn (tgt := 75) hk dX11_count_8 (by decide) (by decide) (by decide) rfl (by decide) ?_
    refine G_rload_n hk dX11_count_75 rfl ?_
    refine G_getI hk dX11_count_76 flX11_144 (by decide) rfl rfl ?_
    exact G_iret hk hr dX11_count_79 ⟨by rw [e12]; rfl, hq⟩
  · refine G_tabIn (tgt := 80) hk dX11_count_8 (by decide) (by decide) (by decide) rfl (by decide) ?_
    refine G_rload_n hk dX11_count_80 rfl ?_
    refine G_getI hk dX11_count_81 flX11_267 (by decide) rfl rfl ?_
    exact G_iret hk hr dX11_count_84 ⟨by rw [e31]; rfl, hq⟩
  · refine G_tabIn (tgt := 85) hk dX11_count_8 (by decide) (by decide) (by decide) rfl (by decide) ?_
    refine G_rload_n hk dX11_count_85 rfl ?_
    refine G_getI hk dX11_count_86 flX11_52 (by decide) rfl rfl ?_
    exact G_iret hk hr dX11_count_89 ⟨by rw [e14]; rfl, hq⟩
  · refine G_tabIn (tgt := 90) hk dX11_count_8 (by decide) (by decide) (by decide) rfl (by decide) ?_
    refine G_iconst hk dX11_count_90 ?_
    refine G_istore_n hk dX11_count_91 (by decide) rfl ?_
    have lp := loop_up (P := fun k => GW κ Γ 92 [some (rf Γ 44), some (vI 6), some (vI (ssm (a0 (av S)) k)), some (vI (k : Int))] [] (wl Γ S_3)) (aN (av S)) ?_ ?_ 0 (Nat.zero_le _)
    · exact lp
    · skip
      refine G_iload_n hk dX11_count_92 rfl ?_
      refine G_rload_n hk dX11_count_93 rfl ?_
      refine G_getI hk dX11_count_94 flX11_97 (by decide) rfl rfl ?_
      refine G_icmp_ge (tgt := 117) hk dX11_count_97 (by decide) ⟨by omega, by omega⟩ ⟨by omega, by omega⟩ (fun h_97 => ?_) (fun h_97 => ?_)
      · refine G_iload_n hk dX11_count_117 rfl ?_
        exact G_iret hk hr dX11_count_118 ⟨rfl, hq⟩
      · exact absurd h_97 (by omega)--stop
    · intro k hk9 ih
      refine G_iload_n hk dX11_count_92 rfl ?_
      refine G_rload_n hk dX11_count_93 rfl ?_
      refine G_getI hk dX11_count_94 flX11_97 (by decide) rfl rfl ?_
      refine G_icmp_ge (tgt := 117) hk dX11_count_97 (by decide) ⟨by omega, by omega⟩ ⟨by omega, by omega⟩ (fun h_97 => ?_) (fun h_97 => ?_)
      · exact absurd h_97 (by omega)--stop
      · refine G_iload_n hk dX11_count_100 rfl ?_
        refine G_rload_n hk dX11_count_101 rfl ?_
        refine G_getR hk dX11_count_102 flX11_25 (by decide) rfl rfl ?_
        refine G_iconst hk dX11_count_105 ?_
        refine G_iload_n hk dX11_count_106 rfl ?_
        refine G_imul hk dX11_count_107 ?_
        refine G_iald hk dX11_count_108 (by decide) rfl (by decide) (by omega) (by omega) ?_
        rw [show (2 * (k : Int)).toNat = 2 * k by omega, (hR.2.2 k (by rw [eQ]; omega)).1, eQ]
        refine G_iadd hk dX11_count_109 ?_
        refine G_istore_n hk dX11_count_110 (by decide) rfl ?_
        refine G_iinc hk dX11_count_111 rfl (by decide) rfl ?_
        refine G_goto (tgt := 92) hk dX11_count_114 (by decide) ?_
        exact ih
  · refine G_tabIn (tgt := 119) hk dX11_count_8 (by decide) (by decide) (by decide) rfl (by decide) ?_
    refine G_iconst hk dX11_count_119 ?_
    refine G_istore_n hk dX11_count_120 (by decide) rfl ?_
    have lp := loop_up (P := fun k => GW κ Γ 121 [some (rf Γ 44), some (vI 7), some (vI (ssm (fun p => if aTw (av S) p = -1 then 0 else 1) k)), some (vI (k : Int))] [] (wl Γ S_3)) (aN (av S)) ?_ ?_ 0 (Nat.zero_le _)
    · exact lp
    · skip
      refine G_iload_n hk dX11_count_121 rfl ?_
      refine G_rload_n hk dX11_count_122 rfl ?_
      refine G_getI hk dX11_count_123 flX11_97 (by decide) rfl rfl ?_
      refine G_icmp_ge (tgt := 152) hk dX11_count_126 (by decide) ⟨by omega, by omega⟩ ⟨by omega, by omega⟩ (fun h_126 => ?_) (fun h_126 => ?_)
      · refine G_iload_n hk dX11_count_152 rfl ?_
        exact G_iret hk hr dX11_count_153 ⟨rfl, hq⟩
      · exact absurd h_126 (by omega)--stop
    · intro k hk9 ih
      have t9 := aTw_ok (A := av S) k hk9
      refine G_iload_n hk dX11_count_121 rfl ?_
      refine G_rload_n hk dX11_count_122 rfl ?_
      refine G_getI hk dX11_count_123 flX11_97 (by decide) rfl rfl ?_
      refine G_icmp_ge (tgt := 152) hk dX11_count_126 (by decide) ⟨by omega, by omega⟩ ⟨by omega, by omega⟩ (fun h_126 => ?_) (fun h_126 => ?_)
      · exact absurd h_126 (by omega)--stop
      · refine G_iload_n hk dX11_count_129 rfl ?_
        refine G_rload_n hk dX11_count_130 rfl ?_
        refine G_iload_n hk dX11_count_131 rfl ?_
        refine G_cV1P hk dX11_count_132 mvX11_twinOf mlX11_127 (by decide) rfl rfl (Nat.le_of_ble_eq_true rfl) (c_tw11 (rdm_sim hR) (by rw [eQ]; exact ⟨by omega, by omega⟩)) ?_
        rw [eQ, Int.toNat_natCast]
        refine G_iconst hk dX11_count_135 ?_
        refine G_icmp_ne (tgt := 143) hk dX11_count_136 (by decide) ⟨by omega, by omega⟩ ⟨by omega, by omega⟩ (fun h_136 => ?_) (fun h_136 => ?_)
        · refine G_iconst hk dX11_count_143 ?_
          refine G_iadd hk dX11_count_144 ?_
          refine G_istore_n hk dX11_count_145 (by decide) rfl ?_
          refine G_iinc hk dX11_count_146 rfl (by decide) rfl ?_
          refine G_goto (tgt := 121) hk dX11_count_149 (by decide) ?_
          have e9 : ssm (fun p => if aTw (av S) p = -1 then 0 else 1) (k + 1) = ssm (fun p => if aTw (av S) p = -1 then 0 else 1) k + 1 := by
            simp only [ssm]
            rw [if_neg h_136]
          rw [← e9]
          exact ih
        · refine G_iconst hk dX11_count_139 ?_
          refine G_goto (tgt := 144) hk dX11_count_140 (by decide) ?_
          refine G_iadd hk dX11_count_144 ?_
          refine G_istore_n hk dX11_count_145 (by decide) rfl ?_
          refine G_iinc hk dX11_count_146 rfl (by decide) rfl ?_
          refine G_goto (tgt := 121) hk dX11_count_149 (by decide) ?_
          have e9 : ssm (fun p => if aTw (av S) p = -1 then 0 else 1) (k + 1) = ssm (fun p => if aTw (av S) p = -1 then 0 else 1) k + 0 := by
            simp only [ssm]
            rw [if_pos h_136]
          rw [← e9]
          exact ih
  · refine G_tabIn (tgt := 154) hk dX11_count_8 (by decide) (by decide) (by decide) rfl (by decide) ?_
    refine G_rload_n hk dX11_count_154 rfl ?_
    refine G_getI hk dX11_count_155 flX11_68 (by decide) rfl rfl ?_
    exact G_iret hk hr dX11_count_158 ⟨by rw [e4]; rfl, hq⟩
