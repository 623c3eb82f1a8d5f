/-! the years of the class: what holds between them -/
def Yr (A : Av) (ot os b : Int) (X : Sim) (y8 y9 : Nat) (S : Sx) : Prop := CrS (aN A) X S ∧ ClE S A ∧ (S 17 10 = ot ∧ S 17 11 = os) ∧ (∃ i : Nat, S 17 8 = (i : Int) ∧ Nx (anp A) (fun k => aP A (4 * k)) (S 8) i (y8 : Int)) ∧ (∃ i : Nat, S 17 9 = (i : Int) ∧ Nx (anb A) (fun k => aB A (2 * k)) (S 15) i (y9 : Int)) ∧ SB (aN A) (aP A) b X ∧ (∀ k, k < 12 → X.2.2 k ≠ 0 → k < anp A ∧ aP A (4 * k) < (y8 : Int))
def OtOk (A : Av) (ot os : Int) : Prop := R32 ot ∧ ∀ k, k < anp A → 0 ≤ szf (aP A) ot os k ∧ szf (aP A) ot os k ≤ 9
theorem OtOk_m1 {A : Av} (hA : AvOk A) : OtOk A (-1) 0 := ⟨by decide, fun k hk => by have h := (hA.2.2.2.1 k hk).2.2.1; unfold szf; rw [if_neg (by omega)]; omega⟩
theorem OtOk_k {A : Av} (hA : AvOk A) {k z : Int} (hk : R32 k) (hz : 0 ≤ z ∧ z ≤ 9) : OtOk A k z := ⟨hk, fun j hj => by have h := (hA.2.2.2.1 j hj).2.2.1; unfold szf; split <;> omega⟩
theorem Nx_0 {n : Nat} {Y q : Nat → Int} (hO : Ord n Y q) (hY : ∀ k, k < n → 0 ≤ Y k) : Nx n Y q 0 ((0 : Nat) : Int) := by
  refine ⟨Nat.zero_le _, fun j hj => absurd hj (by omega), fun j _ hj => ?_⟩
  have h := hO.1 j hj
  exact hY _ (by omega)
theorem SB_X0 (A : Av) : SB (aN A) (aP A) 99 (X0 (a0 A)) := ⟨fun p hp => by have h := a0_99 (A := A) p hp; simp only [X0]; omega, fun k _ => ⟨Int.le_refl 0, by simp only [X0]; omega⟩, fun k _ => ⟨Int.le_refl 0, by simp only [X0]; omega, fun h => absurd rfl h⟩⟩
theorem Yr_0 {A : Av} {v z : Int} {S S2 : Sx} (hC : ClE S A) (h : CrB S A v z S2) : Yr A v z 99 (X0 (a0 A)) 0 0 S2 := by
  obtain ⟨h1, h2, h3, h4, h5, h6⟩ := h
  have hC2 := ClE_fr hC h2
  refine ⟨h1, hC2, ⟨h5, h6⟩, ⟨0, h3, Nx_0 hC2.2.2.1.1.2.2.2.2 (fun k hk => ((hC.1.2.2.2.1 k hk).1).1)⟩, ⟨0, h4, Nx_0 hC2.2.2.2.1.2.2.2.2 (fun k hk => ((hC.1.2.2.2.2.2.1 k hk).1).1)⟩, SB_X0 A, fun k _ h9 => absurd rfl h9⟩
theorem c_bA {l : Launch} {Γ : Ev} (d : Nat) {S : Sx} {A : Av} (hC : ClE S A) (v z : Int) : Ctr l Γ (d + 2) mX3_beginAltered [rf Γ 17, vI v, vI z] S (pV (fun S2 => Yr A v z 99 (X0 (a0 A)) 0 0 S2 ∧ frC S S2)) := by
  refine Ctr_mono (c_X3_beginAltered l Γ d S A hC v z) ?_
  rintro v S2 ⟨rfl, h1⟩
  exact ⟨rfl, Yr_0 hC h1, h1.2.1⟩
theorem c_bg0 {l : Launch} {Γ : Ev} (d : Nat) {S : Sx} {A : Av} (hC : ClE S A) : Ctr l Γ (d + 3) mX3_begin [rf Γ 17] S (pV (fun S2 => Yr A (-1) 0 99 (X0 (a0 A)) 0 0 S2 ∧ frC S S2)) := by
  refine Ctr_mono (c_X3_begin l Γ d S A hC) ?_
  rintro v S2 ⟨rfl, h1⟩
  exact ⟨rfl, Yr_0 hC h1, h1.2.1⟩
theorem c_ta {l : Launch} {Γ : Ev} (d : Nat) {S : Sx} {A : Av} {ot os b : Int} {X : Sim} {y y9 : Nat} (h : Yr A ot os b X y y9 S) (ho : OtOk A ot os) (hb : b ≤ 1000000) (hy : y ≤ 1000) : Ctr l Γ (d + 3) mX3_takeAllOf [rf Γ 17, vI (y : Int)] S (pV (fun S2 => Yr A ot os b (takeN (aN A) (anp A) (aTw A) (aP A) ot os (y : Int) X) (y + 1) y9 S2 ∧ frC S S2)) := by
  obtain ⟨h1, h2, ⟨h3, h4⟩, ⟨i8, h5, h6⟩, ⟨i9, h7, h8⟩, h9, h10⟩ := h
  have hc := c_X3_takeAllOf l Γ d S A h2 X h1 b h9 (by omega) (y : Int) ⟨by omega, by omega⟩ i8 h5 h6 (by rw [h3]; exact ho.1) (by rw [h3, h4]; exact ho.2) h10
  refine Ctr_mono hc ?_
  rintro v S2 ⟨rfl, g1, g2, i2, g3, g4⟩
  rw [h3, h4] at g1
  have e8 : S2 8 = S 8 := g2.1 8 (by decide) (by decide) (by decide) (by decide)
  have e15 : S2 15 = S 15 := g2.1 15 (by decide) (by decide) (by decide) (by decide)
  refine ⟨rfl, ⟨g1, ClE_fr h2 g2.1, ⟨by rw [g2.2 10 (by decide) (by decide)]; exact h3, by rw [g2.2 11 (by decide) (by decide)]; exact h4⟩, ⟨i2, g3, by rw [e8]; exact g4⟩, ⟨i9, by rw [g2.2 9 (by decide) (by decide)]; exact h7, by rw [e15]; exact h8⟩, SB_takeN aTw_ok h9 _ ho.2, ?_⟩, g2.1⟩
  intro k hk hn
  by_cases c : (takeN (aN A) (anp A) (aTw A) (aP A) ot os (y : Int) X).2.2 k = X.2.2 k
  · rw [c] at hn
    have := h10 k hk hn
    exact ⟨this.1, by omega⟩
  · have := takeN_st _ c
    exact ⟨this.2, by omega⟩
theorem c_ba {l : Launch} {Γ : Ev} (d : Nat) {S : Sx} {A : Av} {ot os b : Int} {X : Sim} {y8 y : Nat} (h : Yr A ot os b X y8 y S) (hy : y ≤ 1000) : Ctr l Γ (d + 3) mX3_burnAllOf [rf Γ 17, vI (y : Int)] S (pV (fun S2 => Yr A ot os (b + 108) (burnN (anp A) (anb A) (aTw A) (aP A) (aB A) (y : Int) X) y8 (y + 1) S2 ∧ frC S S2)) := by
  obtain ⟨h1, h2, ⟨h3, h4⟩, ⟨i8, h5, h6⟩, ⟨i9, h7, h8⟩, h9, h10⟩ := h
  have hc := c_X3_burnAllOf l Γ d S A h2 X h1 b h9 (y : Int) ⟨by omega, by omega⟩ i9 h7 h8 (fun k hk hn => (h10 k hk hn).1)
  refine Ctr_mono hc ?_
  rintro v S2 ⟨rfl, g1, g2, i2, g3, g4⟩
  have e8 : S2 8 = S 8 := g2.1 8 (by decide) (by decide) (by decide) (by decide)
  have e15 : S2 15 = S 15 := g2.1 15 (by decide) (by decide) (by decide) (by decide)
  have n12 := h2.1.2.2.2.2.1
  refine ⟨rfl, ⟨g1, ClE_fr h2 g2.1, ⟨by rw [g2.2 10 (by decide) (by decide)]; exact h3, by rw [g2.2 11 (by decide) (by decide)]; exact h4⟩, ⟨i8, by rw [g2.2 8 (by decide) (by decide)]; exact h5, by rw [e8]; exact h6⟩, ⟨i2, g3, by rw [e15]; exact g4⟩, SB_w (SB_burnN h9 _ (fun j hj => (h2.1.2.2.2.2.2.1 j hj).2)) (by omega), ?_⟩, g2.1⟩
  intro k hk hn
  exact h10 k hk (burnN_st _ hn)
theorem Yr_un {A : Av} {ot os b : Int} {X : Sim} {y8 y9 : Nat} {S S1 S2 : Sx} {p : Nat} {z r r2 : Int} (h : Yr A ot os b X y8 y9 S) (hp : p < aN A) (hz : 0 ≤ z ∧ z ≤ 9) (e1 : (r, S1) = tkF S (p : Int) z) (e2 : (r2, S2) = tkF S1 (aTw A p) (z / 2)) : Yr A ot os b (sTk (aTw A) p z X.1, X.2) y8 y9 S2 ∧ frC S S2 := by
  obtain ⟨h1, h2, h3, h5, h7, h9, h10⟩ := h
  have h15 := (cl_n h2).1
  have f1 : ∀ c, c ≠ 18 → S1 c = S c := fun c hc => tk_fr e1 hc
  have f2 : ∀ c, c ≠ 18 → S2 c = S c := fun c hc => by rw [tk_fr e2 hc, f1 c hc]
  have hf : frC S S2 := fun c _ b _ _ => f2 c b
  have hS1 : S1 = su S 18 p (S 18 p - lsr z (S 18 p)) := by
    have e : S1 = (tkF S (p : Int) z).2 := congrArg Prod.snd e1
    rw [e, tkF_in ⟨by omega, by omega⟩]
    rfl
  have r18 : ∀ j, j < aN A → S1 18 j = if j = p then X.1 p - lsr z (X.1 p) else X.1 j := fun j hj => by
    rw [hS1, su_row, h1.1 p hp, h1.1 j hj]
  refine ⟨⟨⟨?_, ?_, ?_, ?_⟩, ClE_fr h2 hf, ?_, ?_, ?_, ⟨SB_sTk h9.1 hz.1 _, h9.2.1, h9.2.2⟩, h10⟩, hf⟩
  · intro j hj
    have e : S2 = (tkF S1 (aTw A p) (z / 2)).2 := congrArg Prod.snd e2
    show _ = sTk (aTw A) p z X.1 j
    unfold sTk
    rw [e]
    rcases aTw_ok (A := A) p hp with t | ⟨t1, t2, t3⟩
    · rw [tkF_out (by omega)]
      show S1 18 j = _
      rw [r18 j hj, if_neg (show ¬ aTw A p = (j : Int) by omega)]
      by_cases e : j = p
      · rw [if_pos e, if_pos e, e]
      · rw [if_neg e, if_neg e]
    · have tp : (aTw A p).toNat < aN A := by omega
      have g := r18 (aTw A p).toNat tp
      rw [if_neg (by omega)] at g
      rw [tkF_in ⟨t1, by rw [f1 1 (by decide), h15]; exact t2⟩]
      show su S1 18 (aTw A p).toNat (S1 18 (aTw A p).toNat - lsr (z / 2) (S1 18 (aTw A p).toNat)) 18 j = _
      rw [su_row, g, r18 j hj]
      by_cases e : j = (aTw A p).toNat
      · rw [if_pos e, if_pos (show aTw A p = (j : Int) by omega), ← e]
      · rw [if_neg e, if_neg (show ¬ aTw A p = (j : Int) by omega)]
        by_cases e5 : j = p
        · rw [if_pos e5, if_pos e5, e5]
        · rw [if_neg e5, if_neg e5]
  · intro k hk
    rw [f2 19 (by decide), f2 20 (by decide)]
    exact h1.2.1 k hk
  · rw [f2 17 (by decide)]; exact h1.2.2.1
  · rw [f2 17 (by decide)]; exact h1.2.2.2
  · rw [f2 17 (by decide)]; exact h3
  · rw [f2 17 (by decide), f2 8 (by decide)]; exact h5
  · rw [f2 17 (by decide), f2 15 (by decide)]; exact h7

theorem c_X3_takeUncounted (l : Launch) (Γ : Ev) (d : Nat) (S : Sx) (A : Av) (ot os b : Int) (X : Sim) (y8 y9 : Nat) (h : Yr A ot os b X y8 y9 S) (hb : b ≤ 1000000) (p : Nat) (hp : p < aN A) (z : Int) (hz : 0 ≤ z ∧ z ≤ 9) : Ctr l Γ (d + 2) mX3_takeUncounted [rf Γ 17, vI (p : Int), vI z] S (pV (fun S2 => Yr A ot os b (sTk (aTw A) p z X.1, X.2) y8 y9 S2 ∧ frC S S2)) := by
  refine Ctr.of (by decide) rfl rfl (Nat.le_of_ble_eq_true rfl) ?_
  intro κ hl hk hr
  subst hl
  have hC := h.2.1
  have hX := h.1
  have hB := h.2.2.2.2.2.1
  obtain ⟨h15, n8, h62, n12, -, -⟩ := cl_n hC
  refine G_rload_n hk dX3_takeUncounted_0 rfl ?_
  refine G_iload_n hk dX3_takeUncounted_1 rfl ?_
  refine G_iload_n hk dX3_takeUncounted_2 rfl ?_
  refine G_cV2I hk dX3_takeUncounted_3 mvX3_takeFrom mlX3_109 (by decide) rfl rfl (Nat.le_of_ble_eq_true rfl) (c_X3_takeFrom _ Γ (d + 0) _ _ _ ⟨by omega, by omega⟩ ⟨by omega, by omega⟩ ⟨by omega, by omega⟩ (fun j hj => by rw [hX.1 j (by omega)]; have := hB.1 j (by omega); exact ⟨by omega, by omega⟩)) (fun r_3 S_3 hp_3 => ?_)
  have f3 : ∀ c, c ≠ 18 → S_3 c = S c := fun c a => tk_fr hp_3 a
  have h18b := tk_bd (N := aN A) (b := 1000000000) hp_3 hz.1 (fun j hj => by rw [hX.1 j hj]; have := hB.1 j hj; exact ⟨by omega, by omega⟩)
  have q5 : S_3 1 5 = (aN A : Int) := by rw [f3 1 (by decide)]; exact h15
  refine G_pop hk dX3_takeUncounted_6 rfl ?_
  refine G_rload_n hk dX3_takeUncounted_7 rfl ?_
  refine G_rload_n hk dX3_takeUncounted_8 rfl ?_
  refine G_getR hk dX3_takeUncounted_9 flX3_25 (by decide) rfl rfl ?_
  refine G_iload_n hk dX3_takeUncounted_12 rfl ?_
  refine G_cV1P hk dX3_takeUncounted_13 mvX4_twinOf mlX3_113 (by decide) rfl rfl (Nat.le_of_ble_eq_true rfl) (c_X4_twinOf _ Γ (d + 0) _ _ ⟨by omega, by omega⟩ ⟨by omega, by omega⟩) ?_
  rw [if_pos (by omega), show ((p : Int)).toNat = p from rfl, f3 4 (by decide), show S 4 p = aTw A p from (hC.2.1.2.2.2 p (by show p < aN A; exact hp)).2]
  have t9 := aTw_ok (A := A) p hp
  refine G_iload_n hk dX3_takeUncounted_16 rfl ?_
  refine G_iconst hk dX3_takeUncounted_17 ?_
  refine G_idiv hk dX3_takeUncounted_18 (by omega) (by omega) (by omega) (by omega) ?_
  refine G_cV2I hk dX3_takeUncounted_19 mvX3_takeFrom mlX3_109 (by decide) rfl rfl (Nat.le_of_ble_eq_true rfl) (c_X3_takeFrom _ Γ (d + 0) _ _ _ ⟨by omega, by omega⟩ ⟨by omega, by omega⟩ ⟨by omega, by omega⟩ (fun j hj => by have := h18b j (by omega); exact ⟨by omega, by omega⟩)) (fun r_19 S_19 hp_19 => ?_)
  refine G_pop hk dX3_takeUncounted_22 rfl ?_
  exact G_vret hk hr dX3_takeUncounted_23 (Yr_un h hp hz hp_3 hp_19)

theorem c_X3_pass (l : Launch) (Γ : Ev) (d : Nat) (S : Sx) (A : Av) (ot os b : Int) (X : Sim) (y : Nat) (h : Yr A ot os b X y y S) (ho : OtOk A ot os) (hb : b ≤ 1000000) (hy : y ≤ 1000) : Ctr l Γ (d + 4) mX3_pass [rf Γ 17, vI (y : Int)] S (pV (fun S2 => Yr A ot os (b + 108) (burnN (anp A) (anb A) (aTw A) (aP A) (aB A) (y : Int) (takeN (aN A) (anp A) (aTw A) (aP A) ot os (y : Int) X)) (y + 1) (y + 1) S2 ∧ frC S S2)) := by
  refine Ctr.of (by decide) rfl rfl (Nat.le_of_ble_eq_true rfl) ?_
  intro κ hl hk hr
  subst hl
  refine G_rload_n hk dX3_pass_0 rfl ?_
  refine G_iload_n hk dX3_pass_1 rfl ?_
  refine G_cV1V hk dX3_pass_2 mvX3_takeAllOf mlX3_71 (by decide) rfl rfl (Nat.le_of_ble_eq_true rfl) (c_ta (d + 0) h ho hb hy) (fun S_2 hp_2 => ?_)
  refine G_rload_n hk dX3_pass_5 rfl ?_
  refine G_iload_n hk dX3_pass_6 rfl ?_
  refine G_cV1V hk dX3_pass_7 mvX3_burnAllOf mlX3_75 (by decide) rfl rfl (Nat.le_of_ble_eq_true rfl) (c_ba (d + 0) hp_2.1 hy) (fun S_7 hp_7 => ?_)
  exact G_vret hk hr dX3_pass_10 ⟨hp_7.1, frC_t hp_2.2 hp_7.2⟩

theorem c_X3_goThrough (l : Launch) (Γ : Ev) (d : Nat) (S : Sx) (A : Av) (hC : ClE S A) (v : Int) (n : Nat) (hv : v = (n : Int) - 1) (hn : n ≤ 100) : Ctr l Γ (d + 4) mX3_goThrough [rf Γ 17, vI v] S (pV (fun S2 => Yr A (-1) 0 (99 + 108 * (n : Int)) (lv A n) n n S2 ∧ frC S S2)) := by
  refine Ctr.of (by decide) rfl rfl (Nat.le_of_ble_eq_true rfl) ?_
  intro κ hl hk hr
  subst hl
  refine G_rload_n hk dX3_goThrough_0 rfl ?_
  refine G_cV0V hk dX3_goThrough_1 mvX3_begin mlX3_68 (by decide) rfl rfl (Nat.le_of_ble_eq_true rfl) (c_bg0 (d + 0) hC) (fun S_1 hp_1 => ?_)
  refine G_iconst hk dX3_goThrough_4 ?_
  refine G_istore_n hk dX3_goThrough_5 (by decide) rfl ?_
  have lp := loop_up (P := fun k => ∀ S1 : Sx, (Yr A (-1) 0 (99 + 108 * (k : Int)) (lv A k) k k S1 ∧ frC S S1) → GW κ Γ 6 [some (rf Γ 17), some (vI v), some (vI (k : Int))] [] (wl Γ S1)) n ?_ ?_ 0 (Nat.zero_le _)
  · exact lp S_1 ⟨hp_1.1, hp_1.2⟩
  · intro S1 h1
    refine G_iload_n hk dX3_goThrough_6 rfl ?_
    refine G_iload_n hk dX3_goThrough_7 rfl ?_
    refine G_icmp_gt (tgt := 27) hk dX3_goThrough_8 (by decide) ⟨by omega, by omega⟩ ⟨by omega, by omega⟩ (fun h_8 => ?_) (fun h_8 => ?_)
    · exact G_vret hk hr dX3_goThrough_27 h1
    · exact absurd h_8 (by omega)--stop
  · intro k hk9 ih S1 h1
    refine G_iload_n hk dX3_goThrough_6 rfl ?_
    refine G_iload_n hk dX3_goThrough_7 rfl ?_
    refine G_icmp_gt (tgt := 27) hk dX3_goThrough_8 (by decide) ⟨by omega, by omega⟩ ⟨by omega, by omega⟩ (fun h_8 => ?_) (fun h_8 => ?_)
    · exact absurd h_8 (by omega)--stop
    · refine G_rload_n hk dX3_goThrough_11 rfl ?_
      refine G_iload_n hk dX3_goThrough_12 rfl ?_
      refine G_cV1V hk dX3_goThrough_13 mvX3_takeAllOf mlX3_71 (by decide) rfl rfl (Nat.le_of_ble_eq_true rfl) (c_ta (d + 0) h1.1 (OtOk_m1 hC.1) (by omega) (by omega)) (fun S_13 hp_13 => ?_)
      refine G_rload_n hk dX3_goThrough_16 rfl ?_
      refine G_iload_n hk dX3_goThrough_17 rfl ?_
      refine G_cV1V hk dX3_goThrough_18 mvX3_burnAllOf mlX3_75 (by decide) rfl rfl (Nat.le_of_ble_eq_true rfl) (c_ba (d + 0) hp_13.1 (by omega)) (fun S_18 hp_18 => ?_)
      refine G_iinc hk dX3_goThrough_21 rfl (by decide) rfl ?_
      refine G_goto (tgt := 6) hk dX3_goThrough_24 (by decide) ?_
      refine ih _ ⟨?_, frC_t h1.2 (frC_t hp_13.2 hp_18.2)⟩
      have g := hp_18.1
      rw [show 99 + 108 * (k : Int) + 108 = 99 + 108 * ((k + 1 : Nat) : Int) by omega] at g
      exact g
