/-- the years not begun: every row as at first -/
def CrB (S : Sx) (A : Av) (pic sz : Int) (S2 : Sx) : Prop := CrS (aN A) (X0 (a0 A)) S2 ∧ frC S S2 ∧ S2 17 8 = 0 ∧ S2 17 9 = 0 ∧ S2 17 10 = pic ∧ S2 17 11 = sz
theorem bsm_none (n : Nat) : bsm (fun _ => false) n = 0 := by
  induction n with
  | zero => rfl
  | succ n ih => simp [bsm, ih]

theorem CrB_mk {S S1 S2 S3 : Sx} {A : Av} {v z : Int} (h8 : aN A ≤ 8) (h1 : ∀ p, p < 8 → p < aN A → S1 18 p = a0 A p) (h2 : frC S S1) (h3 : S1 17 10 = v) (h4 : S1 17 11 = z) (e2 : S2 = fl S1 19 0 12) (e3 : S3 = fl S2 20 0 12) : CrB S A v z (su (su (su (su S3 17 6 0) 17 7 0) 17 8 0) 17 9 0) := by
  have f2 : ∀ c, c ≠ 19 → S2 c = S1 c := fun c hc => by rw [e2, fl_ne hc]
  have f3 : ∀ c, c ≠ 20 → S3 c = S2 c := fun c hc => by rw [e3, fl_ne hc]
  refine ⟨⟨fun p hp => ?_, fun k hk => ?_, ?_, ?_⟩, fun c a b e f => ?_, ?_, ?_, ?_, ?_⟩
  · simp (decide := true) only [su_app, ↓reduceIte]
    rw [f3 18 (by decide), f2 18 (by decide)]
    exact h1 p (by omega) hp
  · simp (decide := true) only [su_app, ↓reduceIte]
    rw [f3 19 (by decide), e2, fl_at hk, e3, fl_at hk]
    exact ⟨rfl, rfl⟩
  · simp (decide := true) only [su_app, ↓reduceIte]
    rw [show (fun k => decide ((X0 (a0 A)).2.2 k ≠ 0)) = fun _ => false from rfl, bsm_none]; rfl
  · simp (decide := true) only [su_app, ↓reduceIte]
    rw [show (fun k => decide ((X0 (a0 A)).2.2 k = 2)) = fun _ => false from rfl, bsm_none]; rfl
  · rw [su_ne _ a, su_ne _ a, su_ne _ a, su_ne _ a, f3 c f, f2 c e]
    exact h2 c a b e f
  · simp (decide := true) only [su_app, ↓reduceIte]
  · simp (decide := true) only [su_app, ↓reduceIte]
  · simp (decide := true) only [su_app, ↓reduceIte]
    rw [f3 17 (by decide), f2 17 (by decide)]; exact h3
  · simp (decide := true) only [su_app, ↓reduceIte]
    rw [f3 17 (by decide), f2 17 (by decide)]; exact h4

theorem c_X3_beginAltered (l : Launch) (Γ : Ev) (d : Nat) (S : Sx) (A : Av) (hC : ClE S A) (v z : Int) : Ctr l Γ (d + 2) mX3_beginAltered [rf Γ 17, vI v, vI z] S (pV (fun S2 => CrB S A v z S2)) := by
  refine Ctr.of (by decide) rfl rfl (Nat.le_of_ble_eq_true rfl) ?_
  intro κ hl hk hr
  subst hl
  obtain ⟨h15, n8, h62, n12, -, -⟩ := cl_n hC
  refine G_rload_n hk dX3_beginAltered_0 rfl ?_
  refine G_iload_n hk dX3_beginAltered_1 rfl ?_
  refine G_putI hk dX3_beginAltered_2 flX3_21 fpX3_10 (by decide) rfl rfl ?_
  refine G_rload_n hk dX3_beginAltered_5 rfl ?_
  refine G_iload_n hk dX3_beginAltered_6 rfl ?_
  refine G_putI hk dX3_beginAltered_7 flX3_41 fpX3_11 (by decide) rfl rfl ?_
  refine G_iconst hk dX3_beginAltered_10 ?_
  refine G_istore_n hk dX3_beginAltered_11 (by decide) rfl ?_
  have lp := loop_up (P := fun k => ∀ S1 : Sx, ((∀ p, p < k → p < aN A → S1 18 p = a0 A p) ∧ frC S S1 ∧ S1 17 10 = v ∧ S1 17 11 = z) → GW κ Γ 12 [some (rf Γ 17), some (vI v), some (vI z), some (vI k)] [] (wl Γ S1)) 8 ?_ ?_ 0 (Nat.zero_le _)
  · refine lp _ ⟨fun p hp => absurd hp (by omega), fun c c1 _ _ _ => by rw [su_ne _ c1, su_ne _ c1], ?_, ?_⟩
    · simp (decide := true) only [su_app, ↓reduceIte]
    · simp (decide := true) only [su_app, ↓reduceIte]
  · intro S1 ⟨h1, h2, h3, h4⟩
    refine G_iload_n hk dX3_beginAltered_12 rfl ?_
    refine G_bipush hk dX3_beginAltered_13 (by decide) ?_
    refine G_icmp_ge (tgt := 38) hk dX3_beginAltered_15 (by decide) ⟨by omega, by omega⟩ ⟨by omega, by omega⟩ (fun h_15 => ?_) (fun h_15 => ?_)
    · refine G_rload_n hk dX3_beginAltered_38 rfl ?_
      refine G_getR hk dX3_beginAltered_39 flX3_15 (by decide) rfl rfl ?_
      refine G_iconst hk dX3_beginAltered_42 ?_
      refine G_cS2V hk dX3_beginAltered_43 msJ7_fill_53178 mlX3_50 (Nat.le_of_ble_eq_true rfl) (c_fillI _ Γ (d + 1) _ 19 12 (by decide) rfl (by decide) _) (fun S_43 hp_43 => ?_)
      refine G_rload_n hk dX3_beginAltered_46 rfl ?_
      refine G_getR hk dX3_beginAltered_47 flX3_18 (by decide) rfl rfl ?_
      refine G_iconst hk dX3_beginAltered_50 ?_
      refine G_cS2V hk dX3_beginAltered_51 msJ7_fill_53178 mlX3_50 (Nat.le_of_ble_eq_true rfl) (c_fillI _ Γ (d + 1) _ 20 12 (by decide) rfl (by decide) _) (fun S_51 hp_51 => ?_)
      refine G_rload_n hk dX3_beginAltered_54 rfl ?_
      refine G_iconst hk dX3_beginAltered_55 ?_
      refine G_putI hk dX3_beginAltered_56 flX3_56 fpX3_6 (by decide) rfl rfl ?_
      refine G_rload_n hk dX3_beginAltered_59 rfl ?_
      refine G_iconst hk dX3_beginAltered_60 ?_
      refine G_putI hk dX3_beginAltered_61 flX3_59 fpX3_7 (by decide) rfl rfl ?_
      refine G_rload_n hk dX3_beginAltered_64 rfl ?_
      refine G_iconst hk dX3_beginAltered_65 ?_
      refine G_putI hk dX3_beginAltered_66 flX3_62 fpX3_8 (by decide) rfl rfl ?_
      refine G_rload_n hk dX3_beginAltered_69 rfl ?_
      refine G_iconst hk dX3_beginAltered_70 ?_
      refine G_putI hk dX3_beginAltered_71 flX3_65 fpX3_9 (by decide) rfl rfl ?_
      exact G_vret hk hr dX3_beginAltered_74 (CrB_mk (by omega) h1 h2 h3 h4 hp_43 hp_51)
    · exact absurd h_15 (by omega)--stop
  · intro k hk9 ih S1 ⟨h1, h2, h3, h4⟩
    have q5 : S1 1 5 = (aN A : Int) := by rw [h2 1 (by decide) (by decide) (by decide) (by decide)]; exact h15
    refine G_iload_n hk dX3_beginAltered_12 rfl ?_
    refine G_bipush hk dX3_beginAltered_13 (by decide) ?_
    refine G_icmp_ge (tgt := 38) hk dX3_beginAltered_15 (by decide) ⟨by omega, by omega⟩ ⟨by omega, by omega⟩ (fun h_15 => ?_) (fun h_15 => ?_)
    · exact absurd h_15 (by omega)--stop
    · refine G_rload_n hk dX3_beginAltered_18 rfl ?_
      refine G_getR hk dX3_beginAltered_19 flX3_9 (by decide) rfl rfl ?_
      refine G_iload_n hk dX3_beginAltered_22 rfl ?_
      refine G_rload_n hk dX3_beginAltered_23 rfl ?_
      refine G_getR hk dX3_beginAltered_24 flX3_25 (by decide) rfl rfl ?_
      refine G_iload_n hk dX3_beginAltered_27 rfl ?_
      refine G_cV1P hk dX3_beginAltered_28 mvX4_solidAtFirst mlX3_44 (by decide) rfl rfl (Nat.le_of_ble_eq_true rfl) (c_X4_solidAtFirst _ Γ (d + 0) _ _ ⟨by omega, by omega⟩ ⟨by omega, by omega⟩) ?_
      refine G_iast hk dX3_beginAltered_31 (by decide) rfl (by decide) (by omega) (by omega) ?_
      refine G_iinc hk dX3_beginAltered_32 rfl (by decide) rfl ?_
      refine G_goto (tgt := 12) hk dX3_beginAltered_35 (by decide) ?_
      refine ih _ ⟨fun p hp hN => ?_, fun c c1 c2 c3 c4 => by rw [su_ne _ c2]; exact h2 c c1 c2 c3 c4, by rw [su_ne _ (by decide)]; exact h3, by rw [su_ne _ (by decide)]; exact h4⟩
      rw [su_row, show ((k : Int)).toNat = k from rfl]
      by_cases e : p = k
      · rw [if_pos e, if_pos (by omega), h2 3 (by decide) (by decide) (by decide) (by decide), e]
        exact (hC.2.1.2.2.2 k (by show k < aN A; omega)).1
      · rw [if_neg e]
        exact h1 p (by omega) hN

theorem c_X3_begin (l : Launch) (Γ : Ev) (d : Nat) (S : Sx) (A : Av) (hC : ClE S A) : Ctr l Γ (d + 3) mX3_begin [rf Γ 17] S (pV (fun S2 => CrB S A (-1) 0 S2)) := by
  refine Ctr.of (by decide) rfl rfl (Nat.le_of_ble_eq_true rfl) ?_
  intro κ hl hk hr
  subst hl
  refine G_rload_n hk dX3_begin_0 rfl ?_
  refine G_iconst hk dX3_begin_1 ?_
  refine G_iconst hk dX3_begin_2 ?_
  refine G_cV2V hk dX3_begin_3 mvX3_beginAltered mlX3_37 (by decide) rfl rfl (Nat.le_of_ble_eq_true rfl) (c_X3_beginAltered _ Γ (d + 0) _ A hC _ _) (fun S_3 hp_3 => ?_)
  exact G_vret hk hr dX3_begin_6 hp_3
