theorem c_X11_begins (l : Launch) (Γ : Ev) (d : Nat) (S : Sx) (N : Nat) (hN : S 44 8 = N) (h8 : N ≤ 8) (t0 : Nat → Int) (ht : ∀ p, p < N → S 50 (2 * p) = t0 p) : Ctr l Γ d mX11_begins [rf Γ 44] S (pV (fun S2 => MSim N (X0 t0) S2 ∧ fr3 S S2)) := by
  refine Ctr.of (by decide) rfl rfl (Nat.le_of_ble_eq_true rfl) ?_
  intro κ hl hk hr
  subst hl
  refine G_iconst hk dX11_begins_0 ?_
  refine G_istore_n hk dX11_begins_1 (by decide) rfl ?_
  have lp := loop_up (P := fun k => ∀ S1 : Sx, ((∀ p, p < k → S1 54 p = t0 p) ∧ fr3 S S1) → GW κ Γ 2 [some (rf Γ 44), some (vI k)] [] (wl Γ S1)) N ?_ ?_ 0 (Nat.zero_le _)
  · exact lp S ⟨fun j hj => absurd hj (by omega), fun _ _ _ _ => rfl⟩
  · intro S1 ⟨hs, hf⟩
    have e8 : S1 44 8 = N := by rw [hf 44 (by decide) (by decide) (by decide)]; exact hN
    refine G_iload_n hk dX11_begins_2 rfl ?_
    refine G_rload_n hk dX11_begins_3 rfl ?_
    refine G_getI hk dX11_begins_4 flX11_97 (by decide) rfl rfl ?_
    refine G_icmp_ge (tgt := 30) hk dX11_begins_7 (by decide) ⟨by omega, by omega⟩ ⟨by omega, by omega⟩ (fun h_7 => ?_) (fun h_7 => ?_)
    · refine G_iconst hk dX11_begins_30 ?_
      refine G_istore_n hk dX11_begins_31 (by decide) rfl ?_
      have lp2 := loop_up (P := fun k => ∀ S1 : Sx, ((∀ p, p < N → S1 54 p = t0 p) ∧ (∀ j, j < 2 * k → S1 55 j = 0) ∧ (∀ j, j < k → S1 56 j = 0) ∧ fr3 S S1) → GW κ Γ 32 [some (rf Γ 44), some (vI k)] [] (wl Γ S1)) 12 ?_ ?_ 0 (Nat.zero_le _)
      · exact lp2 S1 ⟨hs, fun j hj => absurd hj (by omega), fun j hj => absurd hj (by omega), hf⟩
      · intro S1 ⟨hs, h5, h6, hf⟩
        refine G_iload_n hk dX11_begins_32 rfl ?_
        refine G_bipush hk dX11_begins_33 (by decide) ?_
        refine G_icmp_ge (tgt := 71) hk dX11_begins_35 (by decide) ⟨by omega, by omega⟩ ⟨by omega, by omega⟩ (fun h_35 => ?_) (fun h_35 => ?_)
        · exact G_vret hk hr dX11_begins_71 ⟨⟨hs, fun j hj => h5 j (by omega), h6⟩, hf⟩
        · exact absurd h_35 (by omega)--stop
      · intro k hk9 ih S1 ⟨hs, h5, h6, hf⟩
        refine G_iload_n hk dX11_begins_32 rfl ?_
        refine G_bipush hk dX11_begins_33 (by decide) ?_
        refine G_icmp_ge (tgt := 71) hk dX11_begins_35 (by decide) ⟨by omega, by omega⟩ ⟨by omega, by omega⟩ (fun h_35 => ?_) (fun h_35 => ?_)
        · exact absurd h_35 (by omega)--stop
        · refine G_rload_n hk dX11_begins_38 rfl ?_
          refine G_getR hk dX11_begins_39 flX11_43 (by decide) rfl rfl ?_
          refine G_iload_n hk dX11_begins_42 rfl ?_
          refine G_iconst hk dX11_begins_43 ?_
          refine G_iast hk dX11_begins_44 (by decide) rfl (by decide) (by omega) (by omega) ?_
          refine G_rload_n hk dX11_begins_45 rfl ?_
          refine G_getR hk dX11_begins_46 flX11_40 (by decide) rfl rfl ?_
          refine G_iconst hk dX11_begins_49 ?_
          refine G_iload_n hk dX11_begins_50 rfl ?_
          refine G_imul hk dX11_begins_51 ?_
          refine G_iconst hk dX11_begins_52 ?_
          refine G_iast hk dX11_begins_53 (by decide) rfl (by decide) (by omega) (by omega) ?_
          refine G_rload_n hk dX11_begins_54 rfl ?_
          refine G_getR hk dX11_begins_55 flX11_40 (by decide) rfl rfl ?_
          refine G_iconst hk dX11_begins_58 ?_
          refine G_iload_n hk dX11_begins_59 rfl ?_
          refine G_imul hk dX11_begins_60 ?_
          refine G_iconst hk dX11_begins_61 ?_
          refine G_iadd hk dX11_begins_62 ?_
          refine G_iconst hk dX11_begins_63 ?_
          refine G_iast hk dX11_begins_64 (by decide) rfl (by decide) (by omega) (by omega) ?_
          refine G_iinc hk dX11_begins_65 rfl (by decide) rfl ?_
          refine G_goto (tgt := 32) hk dX11_begins_68 (by decide) ?_
          refine ih _ ⟨?_, ?_, ?_, ?_⟩
          · intro p hp
            rw [su_ne _ (show (54 : Nat) ≠ 55 by decide), su_ne _ (show (54 : Nat) ≠ 55 by decide), su_ne _ (show (54 : Nat) ≠ 56 by decide)]
            exact hs p hp
          · intro j hj
            simp (decide := true) only [su_app, ↓reduceIte]
            by_cases e : j < 2 * k
            · rw [if_neg (by omega), if_neg (by omega)]; exact h5 j e
            · by_cases e2 : j = 2 * k
              · rw [if_neg (by omega), if_pos (by omega)]
              · rw [if_pos (by omega)]
          · intro j hj
            simp (decide := true) only [su_app, ↓reduceIte]
            by_cases e : j = k
            · rw [if_pos (by omega)]
            · rw [if_neg (by omega)]; exact h6 j (by omega)
          · exact fr3_t hf (fun c a b e => by simp only [su_ne _ a, su_ne _ b, su_ne _ e])
    · exact absurd h_7 (by omega)--stop
  · intro k hk9 ih S1 ⟨hs, hf⟩
    have e8 : S1 44 8 = N := by rw [hf 44 (by decide) (by decide) (by decide)]; exact hN
    refine G_iload_n hk dX11_begins_2 rfl ?_
    refine G_rload_n hk dX11_begins_3 rfl ?_
    refine G_getI hk dX11_begins_4 flX11_97 (by decide) rfl rfl ?_
    refine G_icmp_ge (tgt := 30) hk dX11_begins_7 (by decide) ⟨by omega, by omega⟩ ⟨by omega, by omega⟩ (fun h_7 => ?_) (fun h_7 => ?_)
    · exact absurd h_7 (by omega)--stop
    · refine G_rload_n hk dX11_begins_10 rfl ?_
      refine G_getR hk dX11_begins_11 flX11_37 (by decide) rfl rfl ?_
      refine G_iload_n hk dX11_begins_14 rfl ?_
      refine G_rload_n hk dX11_begins_15 rfl ?_
      refine G_getR hk dX11_begins_16 flX11_25 (by decide) rfl rfl ?_
      refine G_iconst hk dX11_begins_19 ?_
      refine G_iload_n hk dX11_begins_20 rfl ?_
      refine G_imul hk dX11_begins_21 ?_
      refine G_iald hk dX11_begins_22 (by decide) rfl (by decide) (by omega) (by omega) ?_
      rw [hf 50 (by decide) (by decide) (by decide), show (2 * (k : Int)).toNat = 2 * k by omega, ht k (by omega)]
      refine G_iast hk dX11_begins_23 (by decide) rfl (by decide) (by omega) (by omega) ?_
      refine G_iinc hk dX11_begins_24 rfl (by decide) rfl ?_
      refine G_goto (tgt := 2) hk dX11_begins_27 (by decide) ?_
      refine ih _ ⟨?_, ?_⟩
      · intro p hp
        simp (decide := true) only [su_app, ↓reduceIte]
        by_cases e : p = k
        · rw [if_pos (by omega), e]
        · rw [if_neg (by omega)]; exact hs p (by omega)
      · exact fr3_t hf (fun c a b e => by simp only [su_ne _ a])

theorem MSim_take {N : Nat} {tw : Nat → Int} {X : Sim} {S : Sx} {p : Nat} {z : Int} (h : MSim N X S) (htw : tw p = -1) : MSim N (sTk tw p z X.1, X.2) (su S 54 p (S 54 p - lsr z (S 54 p))) := by
  refine ⟨fun j hj => ?_, fun j hj => ?_, fun j hj => ?_⟩
  · have g := h.1 j hj
    simp (decide := true) only [su_app, ↓reduceIte, sTk, htw]
    rw [if_neg (show ¬ (-1 : Int) = (j : Int) by omega)]
    by_cases e : j = p
    · subst e; simp [g]
    · simp [e, g]
  · exact h.2.1 j hj
  · exact h.2.2 j hj
theorem MSim_take2 {N : Nat} {tw : Nat → Int} {X : Sim} {S : Sx} {p q : Nat} {z : Int} (h : MSim N X S) (htw : tw p = (q : Int)) (hne : q ≠ p) : MSim N (sTk tw p z X.1, X.2) (su (su S 54 p (S 54 p - lsr z (S 54 p))) 54 q (S 54 q - lsr (z / 2) (S 54 q))) := by
  refine ⟨fun j hj => ?_, fun j hj => ?_, fun j hj => ?_⟩
  · have g := h.1 j hj
    simp (decide := true) only [su_app, ↓reduceIte, sTk, htw]
    by_cases e : j = q
    · subst e; simp [g]
    · rw [if_neg e, if_neg (show ¬ (q : Int) = (j : Int) by omega)]
      by_cases e2 : j = p
      · subst e2; simp [g]
      · simp [e2, g]
  · exact h.2.1 j hj
  · exact h.2.2 j hj
theorem MSim_spy {N : Nat} {X : Sim} {S : Sx} {p : Nat} {z : Int} (h : MSim N X S) (hp : p < N) : MSim N (spy1 p z X) (su S 54 p (S 54 p - lsr z (S 54 p))) := by
  refine ⟨fun j hj => ?_, fun j hj => h.2.1 j hj, fun j hj => h.2.2 j hj⟩
  have g := h.1 j hj
  simp (decide := true) only [su_app, ↓reduceIte, spy1, upf, h.1 p hp, g]
