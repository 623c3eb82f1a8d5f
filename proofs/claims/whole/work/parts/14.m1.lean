theorem c_X11_finds (l : Launch) (Γ : Ev) (d : Nat) (S : Sx) (f : Int) : Ctr l Γ d mX11_finds [rf Γ 44, vI f] S (pI (fun r S2 => r = -10 - f ∧ S2 = su S 44 4 f)) := by
  refine Ctr.of (by decide) rfl rfl (Nat.le_of_ble_eq_true rfl) ?_
  intro κ hl hk hr
  subst hl
  refine G_rload_n hk dX11_finds_0 rfl ?_
  refine G_iload_n hk dX11_finds_1 rfl ?_
  refine G_putI hk dX11_finds_2 flX11_68 fpX11_4 (by decide) rfl rfl ?_
  refine G_bipush hk dX11_finds_5 (by decide) ?_
  refine G_iload_n hk dX11_finds_7 rfl ?_
  refine G_isub hk dX11_finds_8 ?_
  exact G_iret hk hr dX11_finds_9 ⟨rfl, rfl⟩

theorem c_X11_sheet (l : Launch) (Γ : Ev) (d : Nat) (S : Sx) (s f n : Int) (h_s : R32 s) (h_f : R32 f) (h_n : R32 n) : Ctr l Γ (d + 2) mX11_sheet [rf Γ 44, vI s, vI f, vI n] S (pI (fun r S2 => (r, S2) = q_sheet S s f n)) := by
  refine Ctr.of (by decide) rfl rfl (Nat.le_of_ble_eq_true rfl) ?_
  intro κ hl hk hr
  subst hl
  refine G_iload_n hk dX11_sheet_0 rfl ?_
  refine G_cS1P hk dX11_sheet_1 msX11_isSheet mlX11_73 (Nat.le_of_ble_eq_true rfl) (c_X11_isSheet _ Γ (d + 0) _ _ ⟨by omega, by omega⟩) ?_
  refine G_bif_eq (tgt := 25) hk dX11_sheet_4 (by decide) (fun h_4 => ?_) (fun h_4 => ?_)
  · refine G_bipush hk dX11_sheet_25 (by decide) ?_
    exact G_iret hk hr dX11_sheet_27 (by unfold q_sheet; (repeat' split) <;> first | rfl | (exfalso; omega) | (simp only [su_app]; simp; done))
  · refine G_iload_n hk dX11_sheet_7 rfl ?_
    refine G_i2l hk dX11_sheet_8 ⟨by omega, by omega⟩ ?_
    refine G_lconst (z := 0) hk dX11_sheet_9 (by decide) ?_
    refine G_ldc2 (z := (2)) hk dX11_sheet_10 kcX11_77 (by decide) ?_
    refine G_cS3P hk dX11_sheet_13 msX11_in mlX11_64 (Nat.le_of_ble_eq_true rfl) (c_X11_in _ Γ (d + 1) _ _ _ _ ⟨by omega, by omega⟩ ⟨by omega, by omega⟩ ⟨by omega, by omega⟩) ?_
    refine G_bif_eq (tgt := 25) hk dX11_sheet_16 (by decide) (fun h_16 => ?_) (fun h_16 => ?_)
    · refine G_bipush hk dX11_sheet_25 (by decide) ?_
      exact G_iret hk hr dX11_sheet_27 (by unfold q_sheet; (repeat' split) <;> first | rfl | (exfalso; omega) | (simp only [su_app]; simp; done))
    · refine G_iload_n hk dX11_sheet_19 rfl ?_
      refine G_bipush hk dX11_sheet_20 (by decide) ?_
      refine G_icmp_le (tgt := 28) hk dX11_sheet_22 (by decide) ⟨by omega, by omega⟩ ⟨by omega, by omega⟩ (fun h_22 => ?_) (fun h_22 => ?_)
      · refine G_iload_n hk dX11_sheet_28 rfl ?_
        refine G_if_ge (tgt := 38) hk dX11_sheet_29 (by decide) ⟨by omega, by omega⟩ (fun h_29 => ?_) (fun h_29 => ?_)
        · refine G_rload_n hk dX11_sheet_38 rfl ?_
          refine G_getR hk dX11_sheet_39 flX11_7 (by decide) rfl rfl ?_
          refine G_iload_n hk dX11_sheet_42 rfl ?_
          refine G_iload_n hk dX11_sheet_43 rfl ?_
          refine G_iast hk dX11_sheet_44 (by decide) rfl (by decide) (by omega) (by omega) ?_
          refine G_rload_n hk dX11_sheet_45 rfl ?_
          refine G_getR hk dX11_sheet_46 flX11_13 (by decide) rfl rfl ?_
          refine G_iload_n hk dX11_sheet_49 rfl ?_
          refine G_iload_n hk dX11_sheet_50 rfl ?_
          refine G_iast hk dX11_sheet_51 (by decide) rfl (by decide) (by omega) (by omega) ?_
          refine G_iconst hk dX11_sheet_52 ?_
          refine G_istore hk dX11_sheet_53 (by decide) rfl ?_
          have lp := loop_up (P := fun k => GW κ Γ 55 [some (rf Γ 44), some (vI s), some (vI f), some (vI n), some (vI k)] [] (wl Γ (sr (su (su S 45 s.toNat f) 46 s.toNat n) 47 (fill (S 47) (fun _ => 0) (60 * s).toNat k)))) n.toNat ?_ ?_ 0 (Nat.zero_le _)
          · rw [fill_0] at lp
            have e9 : sr (su (su S 45 s.toNat f) 46 s.toNat n) 47 (S 47) = su (su S 45 s.toNat f) 46 s.toNat n := sr_self (su (su S 45 s.toNat f) 46 s.toNat n) 47
            rw [e9] at lp
            exact lp
          · skip
            refine G_iload hk dX11_sheet_55 rfl ?_
            refine G_iload_n hk dX11_sheet_57 rfl ?_
            refine G_icmp_ge (tgt := 80) hk dX11_sheet_58 (by decide) ⟨by omega, by omega⟩ ⟨by omega, by omega⟩ (fun h_58 => ?_) (fun h_58 => ?_)
            · refine G_iload_n hk dX11_sheet_80 rfl ?_
              exact G_iret hk hr dX11_sheet_81 (by unfold q_sheet; (repeat' split) <;> first | rfl | (exfalso; omega) | (simp only [su_app]; simp; done))
            · exact absurd h_58 (by omega)--stop
          · intro k hk9 ih
            refine G_iload hk dX11_sheet_55 rfl ?_
            refine G_iload_n hk dX11_sheet_57 rfl ?_
            refine G_icmp_ge (tgt := 80) hk dX11_sheet_58 (by decide) ⟨by omega, by omega⟩ ⟨by omega, by omega⟩ (fun h_58 => ?_) (fun h_58 => ?_)
            · exact absurd h_58 (by omega)--stop
            · refine G_rload_n hk dX11_sheet_61 rfl ?_
              refine G_getR hk dX11_sheet_62 flX11_16 (by decide) rfl rfl ?_
              refine G_bipush hk dX11_sheet_65 (by decide) ?_
              refine G_iload_n hk dX11_sheet_67 rfl ?_
              refine G_imul hk dX11_sheet_68 ?_
              refine G_iload hk dX11_sheet_69 rfl ?_
              refine G_iadd hk dX11_sheet_71 ?_
              refine G_iconst hk dX11_sheet_72 ?_
              refine G_iast hk dX11_sheet_73 (by decide) rfl (by decide) (by omega) (by omega) ?_
              refine G_iinc hk dX11_sheet_74 rfl (by decide) rfl ?_
              have e8 : su (sr (su (su S 45 s.toNat f) 46 s.toNat n) 47 (fill (S 47) (fun _ => 0) (60 * s).toNat k)) 47 (60 * s + (k : Int)).toNat 0 = sr (su (su S 45 s.toNat f) 46 s.toNat n) 47 (fill (S 47) (fun _ => 0) (60 * s).toNat (k + 1)) := by
                rw [sr_su, show (60 * s + (k : Int)).toNat = (60 * s).toNat + k by omega, fill_s (S 47) (fun _ => 0)]
              rw [e8]
              refine G_goto (tgt := 55) hk dX11_sheet_77 (by decide) ?_
              exact ih
        · refine G_rload_n hk dX11_sheet_32 rfl ?_
          refine G_iconst hk dX11_sheet_33 ?_
          refine G_cV1I hk dX11_sheet_34 mvX11_finds mlX11_79 (by decide) rfl rfl (Nat.le_of_ble_eq_true rfl) (c_X11_finds _ Γ (d + 1) _ _) (fun r_34 S_34 hp_34 => ?_)
          obtain ⟨rfl, rfl⟩ := hp_34
          exact G_iret hk hr dX11_sheet_37 (by unfold q_sheet; (repeat' split) <;> first | rfl | (exfalso; omega) | (simp only [su_app]; simp; done))
      · refine G_bipush hk dX11_sheet_25 (by decide) ?_
        exact G_iret hk hr dX11_sheet_27 (by unfold q_sheet; (repeat' split) <;> first | rfl | (exfalso; omega) | (simp only [su_app]; simp; done))

theorem c_X11_lose (l : Launch) (Γ : Ev) (d : Nat) (S : Sx) (s : Int) (h_s : R32 s) (h45 : ∀ k, k < 4 → -1 ≤ S 45 k ∧ S 45 k ≤ 2) (h46 : ∀ k, k < 4 → 0 ≤ S 46 k ∧ S 46 k ≤ 60) : Ctr l Γ (d + 2) mX11_lose [rf Γ 44, vI s] S (pI (fun r S2 => (r, S2) = q_lose S s)) := by
  refine Ctr.of (by decide) rfl rfl (Nat.le_of_ble_eq_true rfl) ?_
  intro κ hl hk hr
  subst hl
  refine G_iload_n hk dX11_lose_0 rfl ?_
  refine G_cS1P hk dX11_lose_1 msX11_isSheet mlX11_73 (Nat.le_of_ble_eq_true rfl) (c_X11_isSheet _ Γ (d + 0) _ _ ⟨by omega, by omega⟩) ?_
  refine G_bif_ne (tgt := 10) hk dX11_lose_4 (by decide) (fun h_4 => ?_) (fun h_4 => ?_)
  · have g45_s := h45 s.toNat (by omega)
    have g46_s := h46 s.toNat (by omega)
    refine G_rload_n hk dX11_lose_10 rfl ?_
    refine G_getR hk dX11_lose_11 flX11_7 (by decide) rfl rfl ?_
    refine G_iload_n hk dX11_lose_14 rfl ?_
    refine G_iald hk dX11_lose_15 (by decide) rfl (by decide) (by omega) (by omega) ?_
    refine G_if_ge (tgt := 25) hk dX11_lose_16 (by decide) ⟨by omega, by omega⟩ (fun h_16 => ?_) (fun h_16 => ?_)
    · refine G_rload_n hk dX11_lose_25 rfl ?_
      refine G_getR hk dX11_lose_26 flX11_7 (by decide) rfl rfl ?_
      refine G_iload_n hk dX11_lose_29 rfl ?_
      refine G_iconst hk dX11_lose_30 ?_
      refine G_iast hk dX11_lose_31 (by decide) rfl (by decide) (by omega) (by omega) ?_
      refine G_rload_n hk dX11_lose_32 rfl ?_
      refine G_getR hk dX11_lose_33 flX11_13 (by decide) rfl rfl ?_
      refine G_iload_n hk dX11_lose_36 rfl ?_
      refine G_iald hk dX11_lose_37 (by decide) rfl (by decide) (by omega) (by omega) ?_
      try simp (decide := true) only [su_app, sr_app, ↓reduceIte]
      exact G_iret hk hr dX11_lose_38 (by unfold q_lose; (repeat' split) <;> first | rfl | (exfalso; omega) | (simp only [su_app]; simp; done))
    · refine G_rload_n hk dX11_lose_19 rfl ?_
      refine G_iconst hk dX11_lose_20 ?_
      refine G_cV1I hk dX11_lose_21 mvX11_finds mlX11_79 (by decide) rfl rfl (Nat.le_of_ble_eq_true rfl) (c_X11_finds _ Γ (d + 1) _ _) (fun r_21 S_21 hp_21 => ?_)
      obtain ⟨rfl, rfl⟩ := hp_21
      exact G_iret hk hr dX11_lose_24 (by unfold q_lose; (repeat' split) <;> first | rfl | (exfalso; omega) | (simp only [su_app]; simp; done))
  · refine G_bipush hk dX11_lose_7 (by decide) ?_
    exact G_iret hk hr dX11_lose_9 (by unfold q_lose; (repeat' split) <;> first | rfl | (exfalso; omega) | (simp only [su_app]; simp; done))

theorem c_X11_lacks (l : Launch) (Γ : Ev) (d : Nat) (S : Sx) (s f i : Int) (h_s : 0 ≤ s ∧ s ≤ 3) (h_f : R32 f) (h_i : R32 i) (h45 : ∀ k, k < 4 → -1 ≤ S 45 k ∧ S 45 k ≤ 2) (h46 : ∀ k, k < 4 → 0 ≤ S 46 k ∧ S 46 k ≤ 60) : Ctr l Γ (d + 1) mX11_lacks [rf Γ 44, vI s, vI f, vI i] S (pI (fun r S2 => (r, S2) = q_lacks S s f i)) := by
  refine Ctr.of (by decide) rfl rfl (Nat.le_of_ble_eq_true rfl) ?_
  intro κ hl hk hr
  subst hl
  have g45_s := h45 s.toNat (by omega)
  have g46_s := h46 s.toNat (by omega)
  refine G_rload_n hk dX11_lacks_0 rfl ?_
  refine G_getR hk dX11_lacks_1 flX11_7 (by decide) rfl rfl ?_
  refine G_iload_n hk dX11_lacks_4 rfl ?_
  refine G_iald hk dX11_lacks_5 (by decide) rfl (by decide) (by omega) (by omega) ?_
  refine G_if_ge (tgt := 15) hk dX11_lacks_6 (by decide) ⟨by omega, by omega⟩ (fun h_6 => ?_) (fun h_6 => ?_)
  · refine G_rload_n hk dX11_lacks_15 rfl ?_
    refine G_getR hk dX11_lacks_16 flX11_7 (by decide) rfl rfl ?_
    refine G_iload_n hk dX11_lacks_19 rfl ?_
    refine G_iald hk dX11_lacks_20 (by decide) rfl (by decide) (by omega) (by omega) ?_
    refine G_iload_n hk dX11_lacks_21 rfl ?_
    refine G_icmp_eq (tgt := 31) hk dX11_lacks_22 (by decide) ⟨by omega, by omega⟩ ⟨by omega, by omega⟩ (fun h_22 => ?_) (fun h_22 => ?_)
    · refine G_iload_n hk dX11_lacks_31 rfl ?_
      refine G_i2l hk dX11_lacks_32 ⟨by omega, by omega⟩ ?_
      refine G_lconst (z := 0) hk dX11_lacks_33 (by decide) ?_
      refine G_rload_n hk dX11_lacks_34 rfl ?_
      refine G_getR hk dX11_lacks_35 flX11_13 (by decide) rfl rfl ?_
      refine G_iload_n hk dX11_lacks_38 rfl ?_
      refine G_iald hk dX11_lacks_39 (by decide) rfl (by decide) (by omega) (by omega) ?_
      refine G_iconst hk dX11_lacks_40 ?_
      refine G_isub hk dX11_lacks_41 ?_
      refine G_i2l hk dX11_lacks_42 ⟨by omega, by omega⟩ ?_
      refine G_cS3P hk dX11_lacks_43 msX11_in mlX11_64 (Nat.le_of_ble_eq_true rfl) (c_X11_in _ Γ (d + 0) _ _ _ _ ⟨by omega, by omega⟩ ⟨by omega, by omega⟩ ⟨by omega, by omega⟩) ?_
      refine G_bif_eq (tgt := 53) hk dX11_lacks_46 (by decide) (fun h_46 => ?_) (fun h_46 => ?_)
      · refine G_rload_n hk dX11_lacks_53 rfl ?_
        refine G_iconst hk dX11_lacks_54 ?_
        refine G_cV1I hk dX11_lacks_55 mvX11_finds mlX11_79 (by decide) rfl rfl (Nat.le_of_ble_eq_true rfl) (c_X11_finds _ Γ (d + 0) _ _) (fun r_55 S_55 hp_55 => ?_)
        obtain ⟨rfl, rfl⟩ := hp_55
        exact G_iret hk hr dX11_lacks_58 (by unfold q_lacks; (repeat' split) <;> first | rfl | (exfalso; omega) | (simp only [su_app]; simp; done))
      · refine G_iconst hk dX11_lacks_49 ?_
        refine G_goto (tgt := 58) hk dX11_lacks_50 (by decide) ?_
        exact G_iret hk hr dX11_lacks_58 (by unfold q_lacks; (repeat' split) <;> first | rfl | (exfalso; omega) | (simp only [su_app]; simp; done))
    · refine G_rload_n hk dX11_lacks_25 rfl ?_
      refine G_iconst hk dX11_lacks_26 ?_
      refine G_cV1I hk dX11_lacks_27 mvX11_finds mlX11_79 (by decide) rfl rfl (Nat.le_of_ble_eq_true rfl) (c_X11_finds _ Γ (d + 0) _ _) (fun r_27 S_27 hp_27 => ?_)
      obtain ⟨rfl, rfl⟩ := hp_27
      exact G_iret hk hr dX11_lacks_30 (by unfold q_lacks; (repeat' split) <;> first | rfl | (exfalso; omega) | (simp only [su_app]; simp; done))
  · refine G_rload_n hk dX11_lacks_9 rfl ?_
    refine G_iconst hk dX11_lacks_10 ?_
    refine G_cV1I hk dX11_lacks_11 mvX11_finds mlX11_79 (by decide) rfl rfl (Nat.le_of_ble_eq_true rfl) (c_X11_finds _ Γ (d + 0) _ _) (fun r_11 S_11 hp_11 => ?_)
    obtain ⟨rfl, rfl⟩ := hp_11
    exact G_iret hk hr dX11_lacks_14 (by unfold q_lacks; (repeat' split) <;> first | rfl | (exfalso; omega) | (simp only [su_app]; simp; done))

theorem c_X11_lay (l : Launch) (Γ : Ev) (d : Nat) (S : Sx) (s f i v : Int) (h_s : R32 s) (h_f : R32 f) (h_i : R32 i) (h_v : R32 v) (h45 : ∀ k, k < 4 → -1 ≤ S 45 k ∧ S 45 k ≤ 2) (h46 : ∀ k, k < 4 → 0 ≤ S 46 k ∧ S 46 k ≤ 60) : Ctr l Γ (d + 2) mX11_lay [rf Γ 44, vI s, vI f, vI i, vI v] S (pI (fun r S2 => (r, S2) = q_lay S s f i v)) := by
  refine Ctr.of (by decide) rfl rfl (Nat.le_of_ble_eq_true rfl) ?_
  intro κ hl hk hr
  subst hl
  refine G_iload_n hk dX11_lay_0 rfl ?_
  refine G_cS1P hk dX11_lay_1 msX11_isSheet mlX11_73 (Nat.le_of_ble_eq_true rfl) (c_X11_isSheet _ Γ (d + 0) _ _ ⟨by omega, by omega⟩) ?_
  refine G_bif_eq (tgt := 19) hk dX11_lay_4 (by decide) (fun h_4 => ?_) (fun h_4 => ?_)
  · refine G_bipush hk dX11_lay_19 (by decide) ?_
    exact G_iret hk hr dX11_lay_21 (by unfold q_lay; (repeat' split) <;> first | rfl | (exfalso; omega) | (simp only [su_app]; simp; done))
  · refine G_iload_n hk dX11_lay_7 rfl ?_
    refine G_i2l hk dX11_lay_8 ⟨by omega, by omega⟩ ?_
    refine G_lconst (z := 0) hk dX11_lay_9 (by decide) ?_
    refine G_ldc2 (z := (2)) hk dX11_lay_10 kcX11_77 (by decide) ?_
    refine G_cS3P hk dX11_lay_13 msX11_in mlX11_64 (Nat.le_of_ble_eq_true rfl) (c_X11_in _ Γ (d + 1) _ _ _ _ ⟨by omega, by omega⟩ ⟨by omega, by omega⟩ ⟨by omega, by omega⟩) ?_
    refine G_bif_ne (tgt := 22) hk dX11_lay_16 (by decide) (fun h_16 => ?_) (fun h_16 => ?_)
    · refine G_rload_n hk dX11_lay_22 rfl ?_
      refine G_iload_n hk dX11_lay_23 rfl ?_
      refine G_iload_n hk dX11_lay_24 rfl ?_
      refine G_iload_n hk dX11_lay_25 rfl ?_
      refine G_cV3I hk dX11_lay_26 mvX11_lacks mlX11_83 (by decide) rfl rfl (Nat.le_of_ble_eq_true rfl) (c_X11_lacks _ Γ (d + 0) _ _ _ _ ⟨by omega, by omega⟩ ⟨by omega, by omega⟩ ⟨by omega, by omega⟩ h45 h46) (fun r_26 S_26 hp_26 => ?_)
      unfold q_lacks at hp_26
      have g45 := h45 s.toNat (by omega)
      have g46 := h46 s.toNat (by omega)
      have hr9 : R32 r_26 := by (repeat' split at hp_26) <;> (cases hp_26; decide)
      refine G_istore hk dX11_lay_29 (by decide) rfl ?_
      refine G_iload hk dX11_lay_31 rfl ?_
      refine G_if_eq (tgt := 39) hk dX11_lay_33 (by decide) hr9 (fun h_33 => ?_) (fun h_33 => ?_)
      · have e9 : S_26 = S ∧ 0 ≤ i ∧ i ≤ S 46 s.toNat - 1 ∧ ¬ S 45 s.toNat < 0 ∧ S 45 s.toNat = f := by
          (repeat' split at hp_26) <;> (cases hp_26; first | exact ⟨rfl, by omega, by omega, by omega, by omega⟩ | (exfalso; omega))
        obtain ⟨e6, e8, e7, e5, e4⟩ := e9
        subst e6
        refine G_rload_n hk dX11_lay_39 rfl ?_
        refine G_getR hk dX11_lay_40 flX11_16 (by decide) rfl rfl ?_
        refine G_bipush hk dX11_lay_43 (by decide) ?_
        refine G_iload_n hk dX11_lay_45 rfl ?_
        refine G_imul hk dX11_lay_46 ?_
        refine G_iload_n hk dX11_lay_47 rfl ?_
        refine G_iadd hk dX11_lay_48 ?_
        refine G_iload_n hk dX11_lay_49 rfl ?_
        refine G_iload hk dX11_lay_50 rfl ?_
        refine G_cS2P hk dX11_lay_52 msX11_cut mlX11_87 (Nat.le_of_ble_eq_true rfl) (c_X11_cut _ Γ (d + 1) _ _ _ ⟨by omega, by omega⟩) ?_
        refine G_iast hk dX11_lay_55 (by decide) rfl (by decide) (by omega) (by omega) ?_
        refine G_iconst hk dX11_lay_56 ?_
        exact G_iret hk hr dX11_lay_57 (by unfold q_lay cutf; (repeat' split) <;> first | rfl | (exfalso; omega))
      · refine G_iload hk dX11_lay_36 rfl ?_
        exact G_iret hk hr dX11_lay_38 (by unfold q_lay; (repeat' split at hp_26) <;> (cases hp_26; (repeat' split) <;> first | rfl | (exfalso; omega)))
    · refine G_bipush hk dX11_lay_19 (by decide) ?_
      exact G_iret hk hr dX11_lay_21 (by unfold q_lay; (repeat' split) <;> first | rfl | (exfalso; omega) | (simp only [su_app]; simp; done))

theorem c_X11_get (l : Launch) (Γ : Ev) (d : Nat) (S : Sx) (s f i : Int) (h_s : R32 s) (h_f : R32 f) (h_i : R32 i) (h45 : ∀ k, k < 4 → -1 ≤ S 45 k ∧ S 45 k ≤ 2) (h46 : ∀ k, k < 4 → 0 ≤ S 46 k ∧ S 46 k ≤ 60) : Ctr l Γ (d + 2) mX11_get [rf Γ 44, vI s, vI f, vI i] S (pI (fun r S2 => (r, S2) = q_get S s f i)) := by
  refine Ctr.of (by decide) rfl rfl (Nat.le_of_ble_eq_true rfl) ?_
  intro κ hl hk hr
  subst hl
  refine G_iload_n hk dX11_get_0 rfl ?_
  refine G_cS1P hk dX11_get_1 msX11_isSheet mlX11_73 (Nat.le_of_ble_eq_true rfl) (c_X11_isSheet _ Γ (d + 0) _ _ ⟨by omega, by omega⟩) ?_
  refine G_bif_eq (tgt := 29) hk dX11_get_4 (by decide) (fun h_4 => ?_) (fun h_4 => ?_)
  · refine G_ldc (z := (-2147483648)) hk dX11_get_29 kcX11_91 (by decide) ?_
    exact G_iret hk hr dX11_get_31 (by unfold q_get; (repeat' split) <;> first | rfl | (exfalso; omega) | (simp only [su_app]; simp; done))
  · refine G_iload_n hk dX11_get_7 rfl ?_
    refine G_i2l hk dX11_get_8 ⟨by omega, by omega⟩ ?_
    refine G_lconst (z := 0) hk dX11_get_9 (by decide) ?_
    refine G_ldc2 (z := (2)) hk dX11_get_10 kcX11_77 (by decide) ?_
    refine G_cS3P hk dX11_get_13 msX11_in mlX11_64 (Nat.le_of_ble_eq_true rfl) (c_X11_in _ Γ (d + 1) _ _ _ _ ⟨by omega, by omega⟩ ⟨by omega, by omega⟩ ⟨by omega, by omega⟩) ?_
    refine G_bif_eq (tgt := 29) hk dX11_get_16 (by decide) (fun h_16 => ?_) (fun h_16 => ?_)
    · refine G_ldc (z := (-2147483648)) hk dX11_get_29 kcX11_91 (by decide) ?_
      exact G_iret hk hr dX11_get_31 (by unfold q_get; (repeat' split) <;> first | rfl | (exfalso; omega) | (simp only [su_app]; simp; done))
    · refine G_rload_n hk dX11_get_19 rfl ?_
      refine G_iload_n hk dX11_get_20 rfl ?_
      refine G_iload_n hk dX11_get_21 rfl ?_
      refine G_iload_n hk dX11_get_22 rfl ?_
      refine G_cV3I hk dX11_get_23 mvX11_lacks mlX11_83 (by decide) rfl rfl (Nat.le_of_ble_eq_true rfl) (c_X11_lacks _ Γ (d + 0) _ _ _ _ ⟨by omega, by omega⟩ ⟨by omega, by omega⟩ ⟨by omega, by omega⟩ h45 h46) (fun r_23 S_23 hp_23 => ?_)
      unfold q_lacks at hp_23
      have g45 := h45 s.toNat (by omega)
      have g46 := h46 s.toNat (by omega)
      have hr9 : R32 r_23 := by (repeat' split at hp_23) <;> (cases hp_23; decide)
      refine G_if_eq (tgt := 32) hk dX11_get_26 (by decide) hr9 (fun h_26 => ?_) (fun h_26 => ?_)
      · have e9 : S_23 = S ∧ 0 ≤ i ∧ i ≤ S 46 s.toNat - 1 ∧ ¬ S 45 s.toNat < 0 ∧ S 45 s.toNat = f := by
          (repeat' split at hp_23) <;> (cases hp_23; first | exact ⟨rfl, by omega, by omega, by omega, by omega⟩ | (exfalso; omega))
        obtain ⟨e6, e8, e7, e5, e4⟩ := e9
        subst e6
        refine G_rload_n hk dX11_get_32 rfl ?_
        refine G_getR hk dX11_get_33 flX11_16 (by decide) rfl rfl ?_
        refine G_bipush hk dX11_get_36 (by decide) ?_
        refine G_iload_n hk dX11_get_38 rfl ?_
        refine G_imul hk dX11_get_39 ?_
        refine G_iload_n hk dX11_get_40 rfl ?_
        refine G_iadd hk dX11_get_41 ?_
        refine G_iald hk dX11_get_42 (by decide) rfl (by decide) (by omega) (by omega) ?_
        exact G_iret hk hr dX11_get_43 (by unfold q_get; (repeat' split) <;> first | rfl | (exfalso; omega) | (simp only [su_app]; simp; done))
      · refine G_ldc (z := (-2147483648)) hk dX11_get_29 kcX11_91 (by decide) ?_
        exact G_iret hk hr dX11_get_31 (by unfold q_get; (repeat' split at hp_23) <;> (cases hp_23; (repeat' split) <;> first | rfl | (exfalso; omega)))

theorem c_X11_type (l : Launch) (Γ : Ev) (d : Nat) (S : Sx) (b : Int) (h_b : R32 b) (h6 : 0 ≤ S 44 6 ∧ S 44 6 ≤ 31) : Ctr l Γ (d + 1) mX11_type [rf Γ 44, vI b] S (pI (fun r S2 => (r, S2) = q_type S b)) := by
  refine Ctr.of (by decide) rfl rfl (Nat.le_of_ble_eq_true rfl) ?_
  intro κ hl hk hr
  subst hl
  refine G_iload_n hk dX11_type_0 rfl ?_
  refine G_i2l hk dX11_type_1 ⟨by omega, by omega⟩ ?_
  refine G_lconst (z := 0) hk dX11_type_2 (by decide) ?_
  refine G_ldc2 (z := (255)) hk dX11_type_3 kcX11_92 (by decide) ?_
  refine G_cS3P hk dX11_type_6 msX11_in mlX11_64 (Nat.le_of_ble_eq_true rfl) (c_X11_in _ Γ (d + 0) _ _ _ _ ⟨by omega, by omega⟩ ⟨by omega, by omega⟩ ⟨by omega, by omega⟩) ?_
  refine G_bif_ne (tgt := 15) hk dX11_type_9 (by decide) (fun h_9 => ?_) (fun h_9 => ?_)
  · refine G_rload_n hk dX11_type_15 rfl ?_
    refine G_getI hk dX11_type_16 flX11_94 (by decide) rfl rfl ?_
    refine G_bipush hk dX11_type_19 (by decide) ?_
    refine G_icmp_ne (tgt := 27) hk dX11_type_21 (by decide) ⟨by omega, by omega⟩ ⟨by omega, by omega⟩ (fun h_21 => ?_) (fun h_21 => ?_)
    · refine G_rload_n hk dX11_type_27 rfl ?_
      refine G_getR hk dX11_type_28 flX11_22 (by decide) rfl rfl ?_
      refine G_rload_n hk dX11_type_31 rfl ?_
      refine G_getI hk dX11_type_32 flX11_94 (by decide) rfl rfl ?_
      refine G_iload_n hk dX11_type_35 rfl ?_
      refine G_iast hk dX11_type_36 (by decide) rfl (by decide) (by omega) (by omega) ?_
      refine G_rload_n hk dX11_type_37 rfl ?_
      refine G_dup hk dX11_type_38 rfl ?_
      refine G_getI hk dX11_type_39 flX11_94 (by decide) rfl rfl ?_
      try simp (decide := true) only [su_app, sr_app, ↓reduceIte]
      refine G_iconst hk dX11_type_42 ?_
      refine G_iadd hk dX11_type_43 ?_
      refine G_putI hk dX11_type_44 flX11_94 fpX11_6 (by decide) rfl rfl ?_
      refine G_rload_n hk dX11_type_47 rfl ?_
      refine G_getI hk dX11_type_48 flX11_94 (by decide) rfl rfl ?_
      try simp (decide := true) only [su_app, sr_app, ↓reduceIte]
      exact G_iret hk hr dX11_type_51 (by unfold q_type; (repeat' split) <;> first | rfl | (exfalso; omega) | (simp only [su_app]; simp; done))
    · refine G_bipush hk dX11_type_24 (by decide) ?_
      exact G_iret hk hr dX11_type_26 (by unfold q_type; (repeat' split) <;> first | rfl | (exfalso; omega) | (simp only [su_app]; simp; done))
  · refine G_bipush hk dX11_type_12 (by decide) ?_
    exact G_iret hk hr dX11_type_14 (by unfold q_type; (repeat' split) <;> first | rfl | (exfalso; omega) | (simp only [su_app]; simp; done))

theorem c_X11_wipe (l : Launch) (Γ : Ev) (d : Nat) (S : Sx)  : Ctr l Γ d mX11_wipe [rf Γ 44] S (pI (fun r S2 => (r, S2) = q_wipe S )) := by
  refine Ctr.of (by decide) rfl rfl (Nat.le_of_ble_eq_true rfl) ?_
  intro κ hl hk hr
  subst hl
  refine G_rload_n hk dX11_wipe_0 rfl ?_
  refine G_getI hk dX11_wipe_1 flX11_94 (by decide) rfl rfl ?_
  refine G_istore_n hk dX11_wipe_4 (by decide) rfl ?_
  refine G_rload_n hk dX11_wipe_5 rfl ?_
  refine G_iconst hk dX11_wipe_6 ?_
  refine G_putI hk dX11_wipe_7 flX11_94 fpX11_6 (by decide) rfl rfl ?_
  refine G_iload_n hk dX11_wipe_10 rfl ?_
  exact G_iret hk hr dX11_wipe_11 (by unfold q_wipe; (repeat' split) <;> first | rfl | (exfalso; omega) | (simp only [su_app]; simp; done))

theorem c_X11_undo (l : Launch) (Γ : Ev) (d : Nat) (S : Sx) (h6 : 0 ≤ S 44 6 ∧ S 44 6 ≤ 31) : Ctr l Γ d mX11_undo [rf Γ 44] S (pI (fun r S2 => (r, S2) = q_undo S )) := by
  refine Ctr.of (by decide) rfl rfl (Nat.le_of_ble_eq_true rfl) ?_
  intro κ hl hk hr
  subst hl
  refine G_rload_n hk dX11_undo_0 rfl ?_
  refine G_getI hk dX11_undo_1 flX11_94 (by decide) rfl rfl ?_
  refine G_if_ne (tgt := 10) hk dX11_undo_4 (by decide) ⟨by omega, by omega⟩ (fun h_4 => ?_) (fun h_4 => ?_)
  · refine G_rload_n hk dX11_undo_10 rfl ?_
    refine G_dup hk dX11_undo_11 rfl ?_
    refine G_getI hk dX11_undo_12 flX11_94 (by decide) rfl rfl ?_
    refine G_iconst hk dX11_undo_15 ?_
    refine G_isub hk dX11_undo_16 ?_
    refine G_putI hk dX11_undo_17 flX11_94 fpX11_6 (by decide) rfl rfl ?_
    refine G_rload_n hk dX11_undo_20 rfl ?_
    refine G_getI hk dX11_undo_21 flX11_94 (by decide) rfl rfl ?_
    try simp (decide := true) only [su_app, sr_app, ↓reduceIte]
    exact G_iret hk hr dX11_undo_24 (by unfold q_undo; (repeat' split) <;> first | rfl | (exfalso; omega) | (simp only [su_app]; simp; done))
  · refine G_bipush hk dX11_undo_7 (by decide) ?_
    exact G_iret hk hr dX11_undo_9 (by unfold q_undo; (repeat' split) <;> first | rfl | (exfalso; omega) | (simp only [su_app]; simp; done))

theorem c_X11_picture (l : Launch) (Γ : Ev) (d : Nat) (S : Sx) (y p z w : Int) (h_y : R32 y) (h_p : R32 p) (h_z : R32 z) (h_w : R32 w) (h6 : 0 ≤ S 44 10 ∧ S 44 10 ≤ 12) : Ctr l Γ (d + 2) mX11_picture [rf Γ 44, vI y, vI p, vI z, vI w] S (pI (fun r S2 => (r, S2) = q_picture S y p z w)) := by
  refine Ctr.of (by decide) rfl rfl (Nat.le_of_ble_eq_true rfl) ?_
  intro κ hl hk hr
  subst hl
  refine G_iload_n hk dX11_picture_0 rfl ?_
  refine G_cS1P hk dX11_picture_1 msX11_isYear mlX11_130 (Nat.le_of_ble_eq_true rfl) (c_X11_isYear _ Γ (d + 0) _ _ ⟨by omega, by omega⟩) ?_
  refine G_bif_eq (tgt := 34) hk dX11_picture_4 (by decide) (fun h_4 => ?_) (fun h_4 => ?_)
  · refine G_bipush hk dX11_picture_34 (by decide) ?_
    exact G_iret hk hr dX11_picture_36 (by unfold q_picture; (repeat' split) <;> first | rfl | (exfalso; omega) | (simp only [su_app]; simp; done))
  · refine G_iload_n hk dX11_picture_7 rfl ?_
    refine G_cS1P hk dX11_picture_8 msX11_isAnyone mlX11_133 (Nat.le_of_ble_eq_true rfl) (c_X11_isAnyone _ Γ (d + 0) _ _ ⟨by omega, by omega⟩) ?_
    refine G_bif_eq (tgt := 34) hk dX11_picture_11 (by decide) (fun h_11 => ?_) (fun h_11 => ?_)
    · refine G_bipush hk dX11_picture_34 (by decide) ?_
      exact G_iret hk hr dX11_picture_36 (by unfold q_picture; (repeat' split) <;> first | rfl | (exfalso; omega) | (simp only [su_app]; simp; done))
    · refine G_iload_n hk dX11_picture_14 rfl ?_
      refine G_i2l hk dX11_picture_15 ⟨by omega, by omega⟩ ?_
      refine G_lconst (z := 1) hk dX11_picture_16 (by decide) ?_
      refine G_ldc2 (z := (9)) hk dX11_picture_17 kcX11_103 (by decide) ?_
      refine G_cS3P hk dX11_picture_20 msX11_in mlX11_64 (Nat.le_of_ble_eq_true rfl) (c_X11_in _ Γ (d + 1) _ _ _ _ ⟨by omega, by omega⟩ ⟨by omega, by omega⟩ ⟨by omega, by omega⟩) ?_
      refine G_bif_eq (tgt := 34) hk dX11_picture_23 (by decide) (fun h_23 => ?_) (fun h_23 => ?_)
      · refine G_bipush hk dX11_picture_34 (by decide) ?_
        exact G_iret hk hr dX11_picture_36 (by unfold q_picture; (repeat' split) <;> first | rfl | (exfalso; omega) | (simp only [su_app]; simp; done))
      · refine G_iload hk dX11_picture_26 rfl ?_
        refine G_cS1P hk dX11_picture_28 msX11_isDrawer mlX11_136 (Nat.le_of_ble_eq_true rfl) (c_X11_isDrawer _ Γ (d + 0) _ _ ⟨by omega, by omega⟩) ?_
        refine G_bif_ne (tgt := 37) hk dX11_picture_31 (by decide) (fun h_31 => ?_) (fun h_31 => ?_)
        · refine G_rload_n hk dX11_picture_37 rfl ?_
          refine G_getI hk dX11_picture_38 flX11_139 (by decide) rfl rfl ?_
          refine G_bipush hk dX11_picture_41 (by decide) ?_
          refine G_icmp_ne (tgt := 49) hk dX11_picture_43 (by decide) ⟨by omega, by omega⟩ ⟨by omega, by omega⟩ (fun h_43 => ?_) (fun h_43 => ?_)
          · refine G_rload_n hk dX11_picture_49 rfl ?_
            refine G_getR hk dX11_picture_50 flX11_28 (by decide) rfl rfl ?_
            refine G_iconst hk dX11_picture_53 ?_
            refine G_rload_n hk dX11_picture_54 rfl ?_
            refine G_getI hk dX11_picture_55 flX11_139 (by decide) rfl rfl ?_
            refine G_imul hk dX11_picture_58 ?_
            refine G_iload_n hk dX11_picture_59 rfl ?_
            refine G_iast hk dX11_picture_60 (by decide) rfl (by decide) (by omega) (by omega) ?_
            refine G_rload_n hk dX11_picture_61 rfl ?_
            refine G_getR hk dX11_picture_62 flX11_28 (by decide) rfl rfl ?_
            refine G_iconst hk dX11_picture_65 ?_
            refine G_rload_n hk dX11_picture_66 rfl ?_
            refine G_getI hk dX11_picture_67 flX11_139 (by decide) rfl rfl ?_
            try simp (decide := true) only [su_app, sr_app, ↓reduceIte]
            refine G_imul hk dX11_picture_70 ?_
            refine G_iconst hk dX11_picture_71 ?_
            refine G_iadd hk dX11_picture_72 ?_
            refine G_iload_n hk dX11_picture_73 rfl ?_
            refine G_iast hk dX11_picture_74 (by decide) rfl (by decide) (by omega) (by omega) ?_
            refine G_rload_n hk dX11_picture_75 rfl ?_
            refine G_getR hk dX11_picture_76 flX11_28 (by decide) rfl rfl ?_
            refine G_iconst hk dX11_picture_79 ?_
            refine G_rload_n hk dX11_picture_80 rfl ?_
            refine G_getI hk dX11_picture_81 flX11_139 (by decide) rfl rfl ?_
            try simp (decide := true) only [su_app, sr_app, ↓reduceIte]
            refine G_imul hk dX11_picture_84 ?_
            refine G_iconst hk dX11_picture_85 ?_
            refine G_iadd hk dX11_picture_86 ?_
            refine G_iload_n hk dX11_picture_87 rfl ?_
            refine G_iast hk dX11_picture_88 (by decide) rfl (by decide) (by omega) (by omega) ?_
            refine G_rload_n hk dX11_picture_89 rfl ?_
            refine G_getR hk dX11_picture_90 flX11_28 (by decide) rfl rfl ?_
            refine G_iconst hk dX11_picture_93 ?_
            refine G_rload_n hk dX11_picture_94 rfl ?_
            refine G_getI hk dX11_picture_95 flX11_139 (by decide) rfl rfl ?_
            try simp (decide := true) only [su_app, sr_app, ↓reduceIte]
            refine G_imul hk dX11_picture_98 ?_
            refine G_iconst hk dX11_picture_99 ?_
            refine G_iadd hk dX11_picture_100 ?_
            refine G_iload hk dX11_picture_101 rfl ?_
            refine G_iast hk dX11_picture_103 (by decide) rfl (by decide) (by omega) (by omega) ?_
            refine G_rload_n hk dX11_picture_104 rfl ?_
            refine G_dup hk dX11_picture_105 rfl ?_
            refine G_getI hk dX11_picture_106 flX11_139 (by decide) rfl rfl ?_
            try simp (decide := true) only [su_app, sr_app, ↓reduceIte]
            refine G_iconst hk dX11_picture_109 ?_
            refine G_iadd hk dX11_picture_110 ?_
            refine G_putI hk dX11_picture_111 flX11_139 fpX11_10 (by decide) rfl rfl ?_
            refine G_rload_n hk dX11_picture_114 rfl ?_
            refine G_getI hk dX11_picture_115 flX11_139 (by decide) rfl rfl ?_
            try simp (decide := true) only [su_app, sr_app, ↓reduceIte]
            exact G_iret hk hr dX11_picture_118 (by unfold q_picture; (repeat' split) <;> first | rfl | (exfalso; omega) | (simp only [su_app]; simp; done))
          · refine G_bipush hk dX11_picture_46 (by decide) ?_
            exact G_iret hk hr dX11_picture_48 (by unfold q_picture; (repeat' split) <;> first | rfl | (exfalso; omega) | (simp only [su_app]; simp; done))
        · refine G_bipush hk dX11_picture_34 (by decide) ?_
          exact G_iret hk hr dX11_picture_36 (by unfold q_picture; (repeat' split) <;> first | rfl | (exfalso; omega) | (simp only [su_app]; simp; done))

theorem c_X11_burn (l : Launch) (Γ : Ev) (d : Nat) (S : Sx) (y k : Int) (h_y : R32 y) (h_k : R32 k) (h6 : 0 ≤ S 44 12 ∧ S 44 12 ≤ 12) : Ctr l Γ (d + 2) mX11_burn [rf Γ 44, vI y, vI k] S (pI (fun r S2 => (r, S2) = q_burn S y k)) := by
  refine Ctr.of (by decide) rfl rfl (Nat.le_of_ble_eq_true rfl) ?_
  intro κ hl hk hr
  subst hl
  refine G_iload_n hk dX11_burn_0 rfl ?_
  refine G_cS1P hk dX11_burn_1 msX11_isYear mlX11_130 (Nat.le_of_ble_eq_true rfl) (c_X11_isYear _ Γ (d + 0) _ _ ⟨by omega, by omega⟩) ?_
  refine G_bif_eq (tgt := 19) hk dX11_burn_4 (by decide) (fun h_4 => ?_) (fun h_4 => ?_)
  · refine G_bipush hk dX11_burn_19 (by decide) ?_
    exact G_iret hk hr dX11_burn_21 (by unfold q_burn; (repeat' split) <;> first | rfl | (exfalso; omega) | (simp only [su_app]; simp; done))
  · refine G_iload_n hk dX11_burn_7 rfl ?_
    refine G_i2l hk dX11_burn_8 ⟨by omega, by omega⟩ ?_
    refine G_lconst (z := 0) hk dX11_burn_9 (by decide) ?_
    refine G_ldc2 (z := (11)) hk dX11_burn_10 kcX11_142 (by decide) ?_
    refine G_cS3P hk dX11_burn_13 msX11_in mlX11_64 (Nat.le_of_ble_eq_true rfl) (c_X11_in _ Γ (d + 1) _ _ _ _ ⟨by omega, by omega⟩ ⟨by omega, by omega⟩ ⟨by omega, by omega⟩) ?_
    refine G_bif_ne (tgt := 22) hk dX11_burn_16 (by decide) (fun h_16 => ?_) (fun h_16 => ?_)
    · refine G_rload_n hk dX11_burn_22 rfl ?_
      refine G_getI hk dX11_burn_23 flX11_144 (by decide) rfl rfl ?_
      refine G_bipush hk dX11_burn_26 (by decide) ?_
      refine G_icmp_ne (tgt := 34) hk dX11_burn_28 (by decide) ⟨by omega, by omega⟩ ⟨by omega, by omega⟩ (fun h_28 => ?_) (fun h_28 => ?_)
      · refine G_rload_n hk dX11_burn_34 rfl ?_
        refine G_getR hk dX11_burn_35 flX11_31 (by decide) rfl rfl ?_
        refine G_iconst hk dX11_burn_38 ?_
        refine G_rload_n hk dX11_burn_39 rfl ?_
        refine G_getI hk dX11_burn_40 flX11_144 (by decide) rfl rfl ?_
        refine G_imul hk dX11_burn_43 ?_
        refine G_iload_n hk dX11_burn_44 rfl ?_
        refine G_iast hk dX11_burn_45 (by decide) rfl (by decide) (by omega) (by omega) ?_
        refine G_rload_n hk dX11_burn_46 rfl ?_
        refine G_getR hk dX11_burn_47 flX11_31 (by decide) rfl rfl ?_
        refine G_iconst hk dX11_burn_50 ?_
        refine G_rload_n hk dX11_burn_51 rfl ?_
        refine G_getI hk dX11_burn_52 flX11_144 (by decide) rfl rfl ?_
        try simp (decide := true) only [su_app, sr_app, ↓reduceIte]
        refine G_imul hk dX11_burn_55 ?_
        refine G_iconst hk dX11_burn_56 ?_
        refine G_iadd hk dX11_burn_57 ?_
        refine G_iload_n hk dX11_burn_58 rfl ?_
        refine G_iast hk dX11_burn_59 (by decide) rfl (by decide) (by omega) (by omega) ?_
        refine G_rload_n hk dX11_burn_60 rfl ?_
        refine G_dup hk dX11_burn_61 rfl ?_
        refine G_getI hk dX11_burn_62 flX11_144 (by decide) rfl rfl ?_
        try simp (decide := true) only [su_app, sr_app, ↓reduceIte]
        refine G_iconst hk dX11_burn_65 ?_
        refine G_iadd hk dX11_burn_66 ?_
        refine G_putI hk dX11_burn_67 flX11_144 fpX11_12 (by decide) rfl rfl ?_
        refine G_rload_n hk dX11_burn_70 rfl ?_
        refine G_getI hk dX11_burn_71 flX11_144 (by decide) rfl rfl ?_
        try simp (decide := true) only [su_app, sr_app, ↓reduceIte]
        exact G_iret hk hr dX11_burn_74 (by unfold q_burn; (repeat' split) <;> first | rfl | (exfalso; omega) | (simp only [su_app]; simp; done))
      · refine G_bipush hk dX11_burn_31 (by decide) ?_
        exact G_iret hk hr dX11_burn_33 (by unfold q_burn; (repeat' split) <;> first | rfl | (exfalso; omega) | (simp only [su_app]; simp; done))
    · refine G_bipush hk dX11_burn_19 (by decide) ?_
      exact G_iret hk hr dX11_burn_21 (by unfold q_burn; (repeat' split) <;> first | rfl | (exfalso; omega) | (simp only [su_app]; simp; done))

theorem c_X11_faint (l : Launch) (Γ : Ev) (d : Nat) (S : Sx) (v : Int) (h_v : R32 v) : Ctr l Γ (d + 1) mX11_faint [rf Γ 44, vI v] S (pI (fun r S2 => (r, S2) = q_faint S v)) := by
  refine Ctr.of (by decide) rfl rfl (Nat.le_of_ble_eq_true rfl) ?_
  intro κ hl hk hr
  subst hl
  refine G_iload_n hk dX11_faint_0 rfl ?_
  refine G_i2l hk dX11_faint_1 ⟨by omega, by omega⟩ ?_
  refine G_lconst (z := 0) hk dX11_faint_2 (by decide) ?_
  refine G_ldc2 (z := (99)) hk dX11_faint_3 kcX11_147 (by decide) ?_
  refine G_cS3P hk dX11_faint_6 msX11_in mlX11_64 (Nat.le_of_ble_eq_true rfl) (c_X11_in _ Γ (d + 0) _ _ _ _ ⟨by omega, by omega⟩ ⟨by omega, by omega⟩ ⟨by omega, by omega⟩) ?_
  refine G_bif_ne (tgt := 15) hk dX11_faint_9 (by decide) (fun h_9 => ?_) (fun h_9 => ?_)
  · refine G_rload_n hk dX11_faint_15 rfl ?_
    refine G_getI hk dX11_faint_16 flX11_52 (by decide) rfl rfl ?_
    refine G_istore_n hk dX11_faint_19 (by decide) rfl ?_
    refine G_rload_n hk dX11_faint_20 rfl ?_
    refine G_iload_n hk dX11_faint_21 rfl ?_
    refine G_putI hk dX11_faint_22 flX11_52 fpX11_14 (by decide) rfl rfl ?_
    refine G_iload_n hk dX11_faint_25 rfl ?_
    exact G_iret hk hr dX11_faint_26 (by unfold q_faint; (repeat' split) <;> first | rfl | (exfalso; omega) | (simp only [su_app]; simp; done))
  · refine G_bipush hk dX11_faint_12 (by decide) ?_
    exact G_iret hk hr dX11_faint_14 (by unfold q_faint; (repeat' split) <;> first | rfl | (exfalso; omega) | (simp only [su_app]; simp; done))

theorem c_X11_want (l : Launch) (Γ : Ev) (d : Nat) (S : Sx) (w p : Int) (h_w : R32 w) (h_p : R32 p) : Ctr l Γ (d + 2) mX11_want [rf Γ 44, vI w, vI p] S (pI (fun r S2 => (r, S2) = q_want S w p)) := by
  refine Ctr.of (by decide) rfl rfl (Nat.le_of_ble_eq_true rfl) ?_
  intro κ hl hk hr
  subst hl
  refine G_iload_n hk dX11_want_0 rfl ?_
  refine G_cS1P hk dX11_want_1 msX11_isDrawer mlX11_136 (Nat.le_of_ble_eq_true rfl) (c_X11_isDrawer _ Γ (d + 0) _ _ ⟨by omega, by omega⟩) ?_
  refine G_bif_eq (tgt := 21) hk dX11_want_4 (by decide) (fun h_4 => ?_) (fun h_4 => ?_)
  · refine G_bipush hk dX11_want_21 (by decide) ?_
    exact G_iret hk hr dX11_want_23 (by unfold q_want; (repeat' split) <;> first | rfl | (exfalso; omega) | (simp only [su_app]; simp; done))
  · refine G_iload_n hk dX11_want_7 rfl ?_
    refine G_i2l hk dX11_want_8 ⟨by omega, by omega⟩ ?_
    refine G_ldc2 (z := (-1)) hk dX11_want_9 kcX11_149 (by decide) ?_
    refine G_ldc2 (z := (7)) hk dX11_want_12 kcX11_117 (by decide) ?_
    refine G_cS3P hk dX11_want_15 msX11_in mlX11_64 (Nat.le_of_ble_eq_true rfl) (c_X11_in _ Γ (d + 1) _ _ _ _ ⟨by omega, by omega⟩ ⟨by omega, by omega⟩ ⟨by omega, by omega⟩) ?_
    refine G_bif_ne (tgt := 24) hk dX11_want_18 (by decide) (fun h_18 => ?_) (fun h_18 => ?_)
    · refine G_rload_n hk dX11_want_24 rfl ?_
      refine G_getR hk dX11_want_25 flX11_34 (by decide) rfl rfl ?_
      refine G_iload_n hk dX11_want_28 rfl ?_
      refine G_iald hk dX11_want_29 (by decide) rfl (by decide) (by omega) (by omega) ?_
      refine G_istore_n hk dX11_want_30 (by decide) rfl ?_
      refine G_rload_n hk dX11_want_31 rfl ?_
      refine G_getR hk dX11_want_32 flX11_34 (by decide) rfl rfl ?_
      refine G_iload_n hk dX11_want_35 rfl ?_
      refine G_iload_n hk dX11_want_36 rfl ?_
      refine G_iast hk dX11_want_37 (by decide) rfl (by decide) (by omega) (by omega) ?_
      refine G_iload_n hk dX11_want_38 rfl ?_
      exact G_iret hk hr dX11_want_39 (by unfold q_want; (repeat' split) <;> first | rfl | (exfalso; omega) | (simp only [su_app]; simp; done))
    · refine G_bipush hk dX11_want_21 (by decide) ?_
      exact G_iret hk hr dX11_want_23 (by unfold q_want; (repeat' split) <;> first | rfl | (exfalso; omega) | (simp only [su_app]; simp; done))

theorem c_X11_seen (l : Launch) (Γ : Ev) (d : Nat) (S : Sx) (y p v : Int) (h_y : R32 y) (h_p : R32 p) (h_v : R32 v) (h6 : 0 ≤ S 44 31 ∧ S 44 31 ≤ 8) : Ctr l Γ (d + 2) mX11_seen [rf Γ 44, vI y, vI p, vI v] S (pI (fun r S2 => (r, S2) = q_seen S y p v)) := by
  refine Ctr.of (by decide) rfl rfl (Nat.le_of_ble_eq_true rfl) ?_
  intro κ hl hk hr
  subst hl
  refine G_iload_n hk dX11_seen_0 rfl ?_
  refine G_cS1P hk dX11_seen_1 msX11_isYear mlX11_130 (Nat.le_of_ble_eq_true rfl) (c_X11_isYear _ Γ (d + 0) _ _ ⟨by omega, by omega⟩) ?_
  refine G_bif_eq (tgt := 26) hk dX11_seen_4 (by decide) (fun h_4 => ?_) (fun h_4 => ?_)
  · refine G_bipush hk dX11_seen_26 (by decide) ?_
    exact G_iret hk hr dX11_seen_28 (by unfold q_seen; (repeat' split) <;> first | rfl | (exfalso; omega) | (simp only [su_app]; simp; done))
  · refine G_iload_n hk dX11_seen_7 rfl ?_
    refine G_cS1P hk dX11_seen_8 msX11_isAnyone mlX11_133 (Nat.le_of_ble_eq_true rfl) (c_X11_isAnyone _ Γ (d + 0) _ _ ⟨by omega, by omega⟩) ?_
    refine G_bif_eq (tgt := 26) hk dX11_seen_11 (by decide) (fun h_11 => ?_) (fun h_11 => ?_)
    · refine G_bipush hk dX11_seen_26 (by decide) ?_
      exact G_iret hk hr dX11_seen_28 (by unfold q_seen; (repeat' split) <;> first | rfl | (exfalso; omega) | (simp only [su_app]; simp; done))
    · refine G_iload_n hk dX11_seen_14 rfl ?_
      refine G_i2l hk dX11_seen_15 ⟨by omega, by omega⟩ ?_
      refine G_lconst (z := 0) hk dX11_seen_16 (by decide) ?_
      refine G_ldc2 (z := (99)) hk dX11_seen_17 kcX11_147 (by decide) ?_
      refine G_cS3P hk dX11_seen_20 msX11_in mlX11_64 (Nat.le_of_ble_eq_true rfl) (c_X11_in _ Γ (d + 1) _ _ _ _ ⟨by omega, by omega⟩ ⟨by omega, by omega⟩ ⟨by omega, by omega⟩) ?_
      refine G_bif_ne (tgt := 29) hk dX11_seen_23 (by decide) (fun h_23 => ?_) (fun h_23 => ?_)
      · refine G_rload_n hk dX11_seen_29 rfl ?_
        refine G_getI hk dX11_seen_30 flX11_267 (by decide) rfl rfl ?_
        refine G_bipush hk dX11_seen_33 (by decide) ?_
        refine G_icmp_ne (tgt := 41) hk dX11_seen_35 (by decide) ⟨by omega, by omega⟩ ⟨by omega, by omega⟩ (fun h_35 => ?_) (fun h_35 => ?_)
        · refine G_rload_n hk dX11_seen_41 rfl ?_
          refine G_getR hk dX11_seen_42 flX11_49 (by decide) rfl rfl ?_
          refine G_iconst hk dX11_seen_45 ?_
          refine G_rload_n hk dX11_seen_46 rfl ?_
          refine G_getI hk dX11_seen_47 flX11_267 (by decide) rfl rfl ?_
          refine G_imul hk dX11_seen_50 ?_
          refine G_iload_n hk dX11_seen_51 rfl ?_
          refine G_iast hk dX11_seen_52 (by decide) rfl (by decide) (by omega) (by omega) ?_
          refine G_rload_n hk dX11_seen_53 rfl ?_
          refine G_getR hk dX11_seen_54 flX11_49 (by decide) rfl rfl ?_
          refine G_iconst hk dX11_seen_57 ?_
          refine G_rload_n hk dX11_seen_58 rfl ?_
          refine G_getI hk dX11_seen_59 flX11_267 (by decide) rfl rfl ?_
          try simp (decide := true) only [su_app, sr_app, ↓reduceIte]
          refine G_imul hk dX11_seen_62 ?_
          refine G_iconst hk dX11_seen_63 ?_
          refine G_iadd hk dX11_seen_64 ?_
          refine G_iload_n hk dX11_seen_65 rfl ?_
          refine G_iast hk dX11_seen_66 (by decide) rfl (by decide) (by omega) (by omega) ?_
          refine G_rload_n hk dX11_seen_67 rfl ?_
          refine G_getR hk dX11_seen_68 flX11_49 (by decide) rfl rfl ?_
          refine G_iconst hk dX11_seen_71 ?_
          refine G_rload_n hk dX11_seen_72 rfl ?_
          refine G_getI hk dX11_seen_73 flX11_267 (by decide) rfl rfl ?_
          try simp (decide := true) only [su_app, sr_app, ↓reduceIte]
          refine G_imul hk dX11_seen_76 ?_
          refine G_iconst hk dX11_seen_77 ?_
          refine G_iadd hk dX11_seen_78 ?_
          refine G_iload_n hk dX11_seen_79 rfl ?_
          refine G_iast hk dX11_seen_80 (by decide) rfl (by decide) (by omega) (by omega) ?_
          refine G_rload_n hk dX11_seen_81 rfl ?_
          refine G_dup hk dX11_seen_82 rfl ?_
          refine G_getI hk dX11_seen_83 flX11_267 (by decide) rfl rfl ?_
          try simp (decide := true) only [su_app, sr_app, ↓reduceIte]
          refine G_iconst hk dX11_seen_86 ?_
          refine G_iadd hk dX11_seen_87 ?_
          refine G_putI hk dX11_seen_88 flX11_267 fpX11_31 (by decide) rfl rfl ?_
          refine G_rload_n hk dX11_seen_91 rfl ?_
          refine G_getI hk dX11_seen_92 flX11_267 (by decide) rfl rfl ?_
          try simp (decide := true) only [su_app, sr_app, ↓reduceIte]
          exact G_iret hk hr dX11_seen_95 (by unfold q_seen; (repeat' split) <;> first | rfl | (exfalso; omega) | (simp only [su_app]; simp; done))
        · refine G_bipush hk dX11_seen_38 (by decide) ?_
          exact G_iret hk hr dX11_seen_40 (by unfold q_seen; (repeat' split) <;> first | rfl | (exfalso; omega) | (simp only [su_app]; simp; done))
      · refine G_bipush hk dX11_seen_26 (by decide) ?_
        exact G_iret hk hr dX11_seen_28 (by unfold q_seen; (repeat' split) <;> first | rfl | (exfalso; omega) | (simp only [su_app]; simp; done))

theorem c_X11_forget (l : Launch) (Γ : Ev) (d : Nat) (S : Sx)  : Ctr l Γ d mX11_forget [rf Γ 44] S (pI (fun r S2 => (r, S2) = q_forget S )) := by
  refine Ctr.of (by decide) rfl rfl (Nat.le_of_ble_eq_true rfl) ?_
  intro κ hl hk hr
  subst hl
  refine G_rload_n hk dX11_forget_0 rfl ?_
  refine G_getI hk dX11_forget_1 flX11_267 (by decide) rfl rfl ?_
  refine G_istore_n hk dX11_forget_4 (by decide) rfl ?_
  refine G_rload_n hk dX11_forget_5 rfl ?_
  refine G_iconst hk dX11_forget_6 ?_
  refine G_putI hk dX11_forget_7 flX11_267 fpX11_31 (by decide) rfl rfl ?_
  refine G_iload_n hk dX11_forget_10 rfl ?_
  exact G_iret hk hr dX11_forget_11 (by unfold q_forget; (repeat' split) <;> first | rfl | (exfalso; omega) | (simp only [su_app]; simp; done))

theorem c_X11_copy (l : Launch) (Γ : Ev) (d : Nat) (S : Sx) (s i t j n : Int) (h_s : R32 s) (h_i : R32 i) (h_t : R32 t) (h_j : R32 j) (h_n : R32 n) (h45 : ∀ k, k < 4 → -1 ≤ S 45 k ∧ S 45 k ≤ 2) (h46 : ∀ k, k < 4 → 0 ≤ S 46 k ∧ S 46 k ≤ 60) : Ctr l Γ (d + 2) mX11_copy [rf Γ 44, vI s, vI i, vI t, vI j, vI n] S (pI (fun r S2 => (r, S2) = q_copy S s i t j n)) := by
  refine Ctr.of (by decide) rfl rfl (Nat.le_of_ble_eq_true rfl) ?_
  intro κ hl hk hr
  subst hl
  refine G_iload_n hk dX11_copy_0 rfl ?_
  refine G_cS1P hk dX11_copy_1 msX11_isSheet mlX11_73 (Nat.le_of_ble_eq_true rfl) (c_X11_isSheet _ Γ (d + 0) _ _ ⟨by omega, by omega⟩) ?_
  refine G_bif_eq (tgt := 14) hk dX11_copy_4 (by decide) (fun h_4 => ?_) (fun h_4 => ?_)
  · refine G_bipush hk dX11_copy_14 (by decide) ?_
    exact G_iret hk hr dX11_copy_16 (by unfold q_copy; (repeat' split) <;> first | rfl | (exfalso; omega) | (simp only [su_app]; simp; done))
  · refine G_iload_n hk dX11_copy_7 rfl ?_
    refine G_cS1P hk dX11_copy_8 msX11_isSheet mlX11_73 (Nat.le_of_ble_eq_true rfl) (c_X11_isSheet _ Γ (d + 0) _ _ ⟨by omega, by omega⟩) ?_
    refine G_bif_ne (tgt := 17) hk dX11_copy_11 (by decide) (fun h_11 => ?_) (fun h_11 => ?_)
    · have g45_s := h45 s.toNat (by omega)
      have g46_s := h46 s.toNat (by omega)
      have g45_t := h45 t.toNat (by omega)
      have g46_t := h46 t.toNat (by omega)
      refine G_rload_n hk dX11_copy_17 rfl ?_
      refine G_getR hk dX11_copy_18 flX11_7 (by decide) rfl rfl ?_
      refine G_iload_n hk dX11_copy_21 rfl ?_
      refine G_iald hk dX11_copy_22 (by decide) rfl (by decide) (by omega) (by omega) ?_
      refine G_if_lt (tgt := 35) hk dX11_copy_23 (by decide) ⟨by omega, by omega⟩ (fun h_23 => ?_) (fun h_23 => ?_)
      · refine G_rload_n hk dX11_copy_35 rfl ?_
        refine G_iconst hk dX11_copy_36 ?_
        refine G_cV1I hk dX11_copy_37 mvX11_finds mlX11_79 (by decide) rfl rfl (Nat.le_of_ble_eq_true rfl) (c_X11_finds _ Γ (d + 1) _ _) (fun r_37 S_37 hp_37 => ?_)
        obtain ⟨rfl, rfl⟩ := hp_37
        exact G_iret hk hr dX11_copy_40 (by unfold q_copy; (repeat' split) <;> first | rfl | (exfalso; omega) | (simp only [su_app]; simp; done))
      · refine G_rload_n hk dX11_copy_26 rfl ?_
        refine G_getR hk dX11_copy_27 flX11_7 (by decide) rfl rfl ?_
        refine G_iload_n hk dX11_copy_30 rfl ?_
        refine G_iald hk dX11_copy_31 (by decide) rfl (by decide) (by omega) (by omega) ?_
        refine G_if_ge (tgt := 41) hk dX11_copy_32 (by decide) ⟨by omega, by omega⟩ (fun h_32 => ?_) (fun h_32 => ?_)
        · refine G_rload_n hk dX11_copy_41 rfl ?_
          refine G_getR hk dX11_copy_42 flX11_7 (by decide) rfl rfl ?_
          refine G_iload_n hk dX11_copy_45 rfl ?_
          refine G_iald hk dX11_copy_46 (by decide) rfl (by decide) (by omega) (by omega) ?_
          refine G_rload_n hk dX11_copy_47 rfl ?_
          refine G_getR hk dX11_copy_48 flX11_7 (by decide) rfl rfl ?_
          refine G_iload_n hk dX11_copy_51 rfl ?_
          refine G_iald hk dX11_copy_52 (by decide) rfl (by decide) (by omega) (by omega) ?_
          refine G_icmp_eq (tgt := 62) hk dX11_copy_53 (by decide) ⟨by omega, by omega⟩ ⟨by omega, by omega⟩ (fun h_53 => ?_) (fun h_53 => ?_)
          · refine G_iload_n hk dX11_copy_62 rfl ?_
            refine G_if_lt (tgt := 111) hk dX11_copy_63 (by decide) ⟨by omega, by omega⟩ (fun h_63 => ?_) (fun h_63 => ?_)
            · refine G_rload_n hk dX11_copy_111 rfl ?_
              refine G_iconst hk dX11_copy_112 ?_
              refine G_cV1I hk dX11_copy_113 mvX11_finds mlX11_79 (by decide) rfl rfl (Nat.le_of_ble_eq_true rfl) (c_X11_finds _ Γ (d + 1) _ _) (fun r_113 S_113 hp_113 => ?_)
              obtain ⟨rfl, rfl⟩ := hp_113
              exact G_iret hk hr dX11_copy_116 (by unfold q_copy; (repeat' split) <;> first | rfl | (exfalso; omega) | (simp only [su_app]; simp; done))
            · refine G_iload hk dX11_copy_66 rfl ?_
              refine G_if_lt (tgt := 111) hk dX11_copy_68 (by decide) ⟨by omega, by omega⟩ (fun h_68 => ?_) (fun h_68 => ?_)
              · refine G_rload_n hk dX11_copy_111 rfl ?_
                refine G_iconst hk dX11_copy_112 ?_
                refine G_cV1I hk dX11_copy_113 mvX11_finds mlX11_79 (by decide) rfl rfl (Nat.le_of_ble_eq_true rfl) (c_X11_finds _ Γ (d + 1) _ _) (fun r_113 S_113 hp_113 => ?_)
                obtain ⟨rfl, rfl⟩ := hp_113
                exact G_iret hk hr dX11_copy_116 (by unfold q_copy; (repeat' split) <;> first | rfl | (exfalso; omega) | (simp only [su_app]; simp; done))
              · refine G_iload hk dX11_copy_71 rfl ?_
                refine G_if_lt (tgt := 111) hk dX11_copy_73 (by decide) ⟨by omega, by omega⟩ (fun h_73 => ?_) (fun h_73 => ?_)
                · refine G_rload_n hk dX11_copy_111 rfl ?_
                  refine G_iconst hk dX11_copy_112 ?_
                  refine G_cV1I hk dX11_copy_113 mvX11_finds mlX11_79 (by decide) rfl rfl (Nat.le_of_ble_eq_true rfl) (c_X11_finds _ Γ (d + 1) _ _) (fun r_113 S_113 hp_113 => ?_)
                  obtain ⟨rfl, rfl⟩ := hp_113
                  exact G_iret hk hr dX11_copy_116 (by unfold q_copy; (repeat' split) <;> first | rfl | (exfalso; omega) | (simp only [su_app]; simp; done))
                · refine G_iload_n hk dX11_copy_76 rfl ?_
                  refine G_i2l hk dX11_copy_77 ⟨by omega, by omega⟩ ?_
                  refine G_iload hk dX11_copy_78 rfl ?_
                  refine G_i2l hk dX11_copy_80 ⟨by omega, by omega⟩ ?_
                  refine G_ladd hk dX11_copy_81 ?_
                  refine G_rload_n hk dX11_copy_82 rfl ?_
                  refine G_getR hk dX11_copy_83 flX11_13 (by decide) rfl rfl ?_
                  refine G_iload_n hk dX11_copy_86 rfl ?_
                  refine G_iald hk dX11_copy_87 (by decide) rfl (by decide) (by omega) (by omega) ?_
                  refine G_i2l hk dX11_copy_88 ⟨by omega, by omega⟩ ?_
                  refine G_lcmp hk dX11_copy_89 ⟨by omega, by omega⟩ ⟨by omega, by omega⟩ ?_
                  refine G_if_gt (tgt := 111) hk dX11_copy_90 (by decide) (zcmp_r _ _) (fun h_90 => ?_) (fun h_90 => ?_)
                  · rw [zcmp_gt] at h_90
                    refine G_rload_n hk dX11_copy_111 rfl ?_
                    refine G_iconst hk dX11_copy_112 ?_
                    refine G_cV1I hk dX11_copy_113 mvX11_finds mlX11_79 (by decide) rfl rfl (Nat.le_of_ble_eq_true rfl) (c_X11_finds _ Γ (d + 1) _ _) (fun r_113 S_113 hp_113 => ?_)
                    obtain ⟨rfl, rfl⟩ := hp_113
                    exact G_iret hk hr dX11_copy_116 (by unfold q_copy; (repeat' split) <;> first | rfl | (exfalso; omega) | (simp only [su_app]; simp; done))
                  · rw [zcmp_gt] at h_90
                    refine G_iload hk dX11_copy_93 rfl ?_
                    refine G_i2l hk dX11_copy_95 ⟨by omega, by omega⟩ ?_
                    refine G_iload hk dX11_copy_96 rfl ?_
                    refine G_i2l hk dX11_copy_98 ⟨by omega, by omega⟩ ?_
                    refine G_ladd hk dX11_copy_99 ?_
                    refine G_rload_n hk dX11_copy_100 rfl ?_
                    refine G_getR hk dX11_copy_101 flX11_13 (by decide) rfl rfl ?_
                    refine G_iload_n hk dX11_copy_104 rfl ?_
                    refine G_iald hk dX11_copy_105 (by decide) rfl (by decide) (by omega) (by omega) ?_
                    refine G_i2l hk dX11_copy_106 ⟨by omega, by omega⟩ ?_
                    refine G_lcmp hk dX11_copy_107 ⟨by omega, by omega⟩ ⟨by omega, by omega⟩ ?_
                    refine G_if_le (tgt := 117) hk dX11_copy_108 (by decide) (zcmp_r _ _) (fun h_108 => ?_) (fun h_108 => ?_)
                    · rw [zcmp_le] at h_108
                      refine G_iconst hk dX11_copy_117 ?_
                      refine G_istore hk dX11_copy_118 (by decide) rfl ?_
                      have lp := loop_up (P := fun k => GW κ Γ 120 [some (rf Γ 44), some (vI s), some (vI i), some (vI t), some (vI j), some (vI n), some (vI k)] [] (wl Γ (sr S 48 (fill (S 48) (fun a => S 47 ((60 * s + i).toNat + a)) 0 k)))) n.toNat ?_ ?_ 0 (Nat.zero_le _)
                      · rw [fill_0, sr_self] at lp
                        exact lp
                      · skip
                        refine G_iload hk dX11_copy_120 rfl ?_
                        refine G_iload hk dX11_copy_122 rfl ?_
                        refine G_icmp_ge (tgt := 154) hk dX11_copy_124 (by decide) ⟨by omega, by omega⟩ ⟨by omega, by omega⟩ (fun h_124 => ?_) (fun h_124 => ?_)
                        · refine G_iconst hk dX11_copy_154 ?_
                          refine G_istore hk dX11_copy_155 (by decide) rfl ?_
                          have lp2 := loop_up (P := fun k => GW κ Γ 157 [some (rf Γ 44), some (vI s), some (vI i), some (vI t), some (vI j), some (vI n), some (vI k)] [] (wl Γ (sr (sr S 48 (fill (S 48) (fun a => S 47 ((60 * s + i).toNat + a)) 0 n.toNat)) 47 (fill (S 47) (fun a => S 47 ((60 * s + i).toNat + a)) (60 * t + j).toNat k)))) n.toNat ?_ ?_ 0 (Nat.zero_le _)
                          · rw [fill_0] at lp2
                            have e9 : sr (sr S 48 (fill (S 48) (fun a => S 47 ((60 * s + i).toNat + a)) 0 n.toNat)) 47 (S 47) = sr S 48 (fill (S 48) (fun a => S 47 ((60 * s + i).toNat + a)) 0 n.toNat) := sr_self (sr S 48 (fill (S 48) (fun a => S 47 ((60 * s + i).toNat + a)) 0 n.toNat)) 47
                            rw [e9] at lp2
                            exact lp2
                          · skip
                            refine G_iload hk dX11_copy_157 rfl ?_
                            refine G_iload hk dX11_copy_159 rfl ?_
                            refine G_icmp_ge (tgt := 192) hk dX11_copy_161 (by decide) ⟨by omega, by omega⟩ ⟨by omega, by omega⟩ (fun h_161 => ?_) (fun h_161 => ?_)
                            · refine G_iconst hk dX11_copy_192 ?_
                              exact G_iret hk hr dX11_copy_193 (by unfold q_copy; (repeat' split) <;> first | rfl | (exfalso; omega) | (simp only [su_app]; simp; done))
                            · exact absurd h_161 (by omega)--stop
                          · intro k hk9 ih
                            refine G_iload hk dX11_copy_157 rfl ?_
                            refine G_iload hk dX11_copy_159 rfl ?_
                            refine G_icmp_ge (tgt := 192) hk dX11_copy_161 (by decide) ⟨by omega, by omega⟩ ⟨by omega, by omega⟩ (fun h_161 => ?_) (fun h_161 => ?_)
                            · exact absurd h_161 (by omega)--stop
                            · refine G_rload_n hk dX11_copy_164 rfl ?_
                              refine G_getR hk dX11_copy_165 flX11_16 (by decide) rfl rfl ?_
                              refine G_bipush hk dX11_copy_168 (by decide) ?_
                              refine G_iload_n hk dX11_copy_170 rfl ?_
                              refine G_imul hk dX11_copy_171 ?_
                              refine G_iload hk dX11_copy_172 rfl ?_
                              refine G_iadd hk dX11_copy_174 ?_
                              refine G_iload hk dX11_copy_175 rfl ?_
                              refine G_iadd hk dX11_copy_177 ?_
                              refine G_rload_n hk dX11_copy_178 rfl ?_
                              refine G_getR hk dX11_copy_179 flX11_19 (by decide) rfl rfl ?_
                              refine G_iload hk dX11_copy_182 rfl ?_
                              refine G_iald hk dX11_copy_184 (by decide) rfl (by decide) (by omega) (by omega) ?_
                              refine G_iast hk dX11_copy_185 (by decide) rfl (by decide) (by omega) (by omega) ?_
                              refine G_iinc hk dX11_copy_186 rfl (by decide) rfl ?_
                              have e8 : su (sr (sr S 48 (fill (S 48) (fun a => S 47 ((60 * s + i).toNat + a)) 0 n.toNat)) 47 (fill (S 47) (fun a => S 47 ((60 * s + i).toNat + a)) (60 * t + j).toNat k)) 47 (60 * t + j + (k : Int)).toNat (sr (sr S 48 (fill (S 48) (fun a => S 47 ((60 * s + i).toNat + a)) 0 n.toNat)) 47 (fill (S 47) (fun a => S 47 ((60 * s + i).toNat + a)) (60 * t + j).toNat k) 48 (k : Int).toNat) = (sr (sr S 48 (fill (S 48) (fun a => S 47 ((60 * s + i).toNat + a)) 0 n.toNat)) 47 (fill (S 47) (fun a => S 47 ((60 * s + i).toNat + a)) (60 * t + j).toNat (k + 1))) := by
                                have e7 : sr (sr S 48 (fill (S 48) (fun a => S 47 ((60 * s + i).toNat + a)) 0 n.toNat)) 47 (fill (S 47) (fun a => S 47 ((60 * s + i).toNat + a)) (60 * t + j).toNat k) 48 (k : Int).toNat = S 47 ((60 * s + i).toNat + k) := by
                                  simp (decide := true) only [sr_app, ↓reduceIte, fill, Int.toNat_natCast]
                                  rw [if_pos (by omega), Nat.sub_zero]
                                rw [e7, sr_su, show (60 * t + j + (k : Int)).toNat = (60 * t + j).toNat + k by omega]
                                rw [fill_s (S 47) (fun a => S 47 ((60 * s + i).toNat + a))]
                              rw [e8]
                              refine G_goto (tgt := 157) hk dX11_copy_189 (by decide) ?_
                              exact ih
                        · exact absurd h_124 (by omega)--stop
                      · intro k hk9 ih
                        refine G_iload hk dX11_copy_120 rfl ?_
                        refine G_iload hk dX11_copy_122 rfl ?_
                        refine G_icmp_ge (tgt := 154) hk dX11_copy_124 (by decide) ⟨by omega, by omega⟩ ⟨by omega, by omega⟩ (fun h_124 => ?_) (fun h_124 => ?_)
                        · exact absurd h_124 (by omega)--stop
                        · refine G_rload_n hk dX11_copy_127 rfl ?_
                          refine G_getR hk dX11_copy_128 flX11_19 (by decide) rfl rfl ?_
                          refine G_iload hk dX11_copy_131 rfl ?_
                          refine G_rload_n hk dX11_copy_133 rfl ?_
                          refine G_getR hk dX11_copy_134 flX11_16 (by decide) rfl rfl ?_
                          refine G_bipush hk dX11_copy_137 (by decide) ?_
                          refine G_iload_n hk dX11_copy_139 rfl ?_
                          refine G_imul hk dX11_copy_140 ?_
                          refine G_iload_n hk dX11_copy_141 rfl ?_
                          refine G_iadd hk dX11_copy_142 ?_
                          refine G_iload hk dX11_copy_143 rfl ?_
                          refine G_iadd hk dX11_copy_145 ?_
                          refine G_iald hk dX11_copy_146 (by decide) rfl (by decide) (by omega) (by omega) ?_
                          refine G_iast hk dX11_copy_147 (by decide) rfl (by decide) (by omega) (by omega) ?_
                          refine G_iinc hk dX11_copy_148 rfl (by decide) rfl ?_
                          have e8 : su (sr S 48 (fill (S 48) (fun a => S 47 ((60 * s + i).toNat + a)) 0 k)) 48 (k : Int).toNat ((sr S 48 (fill (S 48) (fun a => S 47 ((60 * s + i).toNat + a)) 0 k)) 47 (60 * s + i + (k : Int)).toNat) = (sr S 48 (fill (S 48) (fun a => S 47 ((60 * s + i).toNat + a)) 0 (k + 1))) := by
                            rw [sr_su, sr_ne S (show (47 : Nat) ≠ 48 by decide), show (60 * s + i + (k : Int)).toNat = (60 * s + i).toNat + k by omega, show (k : Int).toNat = 0 + k by omega]
                            rw [fill_s (S 48) (fun a => S 47 ((60 * s + i).toNat + a))]
                          rw [e8]
                          refine G_goto (tgt := 120) hk dX11_copy_151 (by decide) ?_
                          exact ih
                    · rw [zcmp_le] at h_108
                      refine G_rload_n hk dX11_copy_111 rfl ?_
                      refine G_iconst hk dX11_copy_112 ?_
                      refine G_cV1I hk dX11_copy_113 mvX11_finds mlX11_79 (by decide) rfl rfl (Nat.le_of_ble_eq_true rfl) (c_X11_finds _ Γ (d + 1) _ _) (fun r_113 S_113 hp_113 => ?_)
                      obtain ⟨rfl, rfl⟩ := hp_113
                      exact G_iret hk hr dX11_copy_116 (by unfold q_copy; (repeat' split) <;> first | rfl | (exfalso; omega) | (simp only [su_app]; simp; done))
          · refine G_rload_n hk dX11_copy_56 rfl ?_
            refine G_iconst hk dX11_copy_57 ?_
            refine G_cV1I hk dX11_copy_58 mvX11_finds mlX11_79 (by decide) rfl rfl (Nat.le_of_ble_eq_true rfl) (c_X11_finds _ Γ (d + 1) _ _) (fun r_58 S_58 hp_58 => ?_)
            obtain ⟨rfl, rfl⟩ := hp_58
            exact G_iret hk hr dX11_copy_61 (by unfold q_copy; (repeat' split) <;> first | rfl | (exfalso; omega) | (simp only [su_app]; simp; done))
        · refine G_rload_n hk dX11_copy_35 rfl ?_
          refine G_iconst hk dX11_copy_36 ?_
          refine G_cV1I hk dX11_copy_37 mvX11_finds mlX11_79 (by decide) rfl rfl (Nat.le_of_ble_eq_true rfl) (c_X11_finds _ Γ (d + 1) _ _) (fun r_37 S_37 hp_37 => ?_)
          obtain ⟨rfl, rfl⟩ := hp_37
          exact G_iret hk hr dX11_copy_40 (by unfold q_copy; (repeat' split) <;> first | rfl | (exfalso; omega) | (simp only [su_app]; simp; done))
    · refine G_bipush hk dX11_copy_14 (by decide) ?_
      exact G_iret hk hr dX11_copy_16 (by unfold q_copy; (repeat' split) <;> first | rfl | (exfalso; omega) | (simp only [su_app]; simp; done))

theorem c_X11_back (l : Launch) (Γ : Ev) (d : Nat) (S : Sx) (w : Int) (h_w : R32 w) (h6 : 0 ≤ S 44 10 ∧ S 44 10 ≤ 12) (h7 : 0 ≤ S 44 12 ∧ S 44 12 ≤ 12) : Ctr l Γ (d + 2) mX11_back [rf Γ 44, vI w] S (pI (fun r S2 => (r, S2) = q_back S w)) := by
  refine Ctr.of (by decide) rfl rfl (Nat.le_of_ble_eq_true rfl) ?_
  intro κ hl hk hr
  subst hl
  refine G_iload_n hk dX11_back_0 rfl ?_
  refine G_cS1P hk dX11_back_1 msX11_isTwo mlX11_124 (Nat.le_of_ble_eq_true rfl) (c_X11_isTwo _ Γ (d + 0) _ _ ⟨by omega, by omega⟩) ?_
  refine G_bif_ne (tgt := 10) hk dX11_back_4 (by decide) (fun h_4 => ?_) (fun h_4 => ?_)
  · refine G_iload_n hk dX11_back_10 rfl ?_
    refine G_if_ne (tgt := 21) hk dX11_back_11 (by decide) ⟨by omega, by omega⟩ (fun h_11 => ?_) (fun h_11 => ?_)
    · refine G_rload_n hk dX11_back_21 rfl ?_
      refine G_getI hk dX11_back_22 flX11_144 (by decide) rfl rfl ?_
      refine G_istore_n hk dX11_back_25 (by decide) rfl ?_
      refine G_iload_n hk dX11_back_26 rfl ?_
      refine G_if_ne (tgt := 33) hk dX11_back_27 (by decide) ⟨by omega, by omega⟩ (fun h_27 => ?_) (fun h_27 => ?_)
      · refine G_rload_n hk dX11_back_33 rfl ?_
        refine G_dup hk dX11_back_34 rfl ?_
        refine G_getI hk dX11_back_35 flX11_139 (by decide) rfl rfl ?_
        refine G_iload_n hk dX11_back_38 rfl ?_
        refine G_if_ne (tgt := 46) hk dX11_back_39 (by decide) ⟨by omega, by omega⟩ (fun h_39 => ?_) (fun h_39 => ?_)
        · refine G_iconst hk dX11_back_46 ?_
          refine G_isub hk dX11_back_47 ?_
          refine G_putI hk dX11_back_48 flX11_139 fpX11_10 (by decide) rfl rfl ?_
          refine G_rload_n hk dX11_back_51 rfl ?_
          refine G_dup hk dX11_back_52 rfl ?_
          refine G_getI hk dX11_back_53 flX11_144 (by decide) rfl rfl ?_
          try simp (decide := true) only [su_app, sr_app, ↓reduceIte]
          refine G_iload_n hk dX11_back_56 rfl ?_
          refine G_isub hk dX11_back_57 ?_
          refine G_putI hk dX11_back_58 flX11_144 fpX11_12 (by decide) rfl rfl ?_
          refine G_iload_n hk dX11_back_61 rfl ?_
          refine G_iconst hk dX11_back_62 ?_
          refine G_isub hk dX11_back_63 ?_
          exact G_iret hk hr dX11_back_64 (by unfold q_back; (repeat' split) <;> first | rfl | (exfalso; omega) | (simp (decide := true) only [su_app, ↓reduceIte] at *; first | rfl | omega))
        · refine G_iconst hk dX11_back_42 ?_
          refine G_goto (tgt := 47) hk dX11_back_43 (by decide) ?_
          refine G_isub hk dX11_back_47 ?_
          refine G_putI hk dX11_back_48 flX11_139 fpX11_10 (by decide) rfl rfl ?_
          refine G_rload_n hk dX11_back_51 rfl ?_
          refine G_dup hk dX11_back_52 rfl ?_
          refine G_getI hk dX11_back_53 flX11_144 (by decide) rfl rfl ?_
          try simp (decide := true) only [su_app, sr_app, ↓reduceIte]
          refine G_iload_n hk dX11_back_56 rfl ?_
          refine G_isub hk dX11_back_57 ?_
          refine G_putI hk dX11_back_58 flX11_144 fpX11_12 (by decide) rfl rfl ?_
          refine G_iload_n hk dX11_back_61 rfl ?_
          refine G_iconst hk dX11_back_62 ?_
          refine G_isub hk dX11_back_63 ?_
          exact G_iret hk hr dX11_back_64 (by unfold q_back; (repeat' split) <;> first | rfl | (exfalso; omega) | (simp (decide := true) only [su_app, ↓reduceIte] at *; first | rfl | omega))
      · refine G_bipush hk dX11_back_30 (by decide) ?_
        exact G_iret hk hr dX11_back_32 (by unfold q_back; (repeat' split) <;> first | rfl | (exfalso; omega) | (simp (decide := true) only [su_app, ↓reduceIte] at *; first | rfl | omega))
    · refine G_rload_n hk dX11_back_14 rfl ?_
      refine G_getI hk dX11_back_15 flX11_139 (by decide) rfl rfl ?_
      refine G_goto (tgt := 25) hk dX11_back_18 (by decide) ?_
      refine G_istore_n hk dX11_back_25 (by decide) rfl ?_
      refine G_iload_n hk dX11_back_26 rfl ?_
      refine G_if_ne (tgt := 33) hk dX11_back_27 (by decide) ⟨by omega, by omega⟩ (fun h_27 => ?_) (fun h_27 => ?_)
      · refine G_rload_n hk dX11_back_33 rfl ?_
        refine G_dup hk dX11_back_34 rfl ?_
        refine G_getI hk dX11_back_35 flX11_139 (by decide) rfl rfl ?_
        refine G_iload_n hk dX11_back_38 rfl ?_
        refine G_if_ne (tgt := 46) hk dX11_back_39 (by decide) ⟨by omega, by omega⟩ (fun h_39 => ?_) (fun h_39 => ?_)
        · refine G_iconst hk dX11_back_46 ?_
          refine G_isub hk dX11_back_47 ?_
          refine G_putI hk dX11_back_48 flX11_139 fpX11_10 (by decide) rfl rfl ?_
          refine G_rload_n hk dX11_back_51 rfl ?_
          refine G_dup hk dX11_back_52 rfl ?_
          refine G_getI hk dX11_back_53 flX11_144 (by decide) rfl rfl ?_
          try simp (decide := true) only [su_app, sr_app, ↓reduceIte]
          refine G_iload_n hk dX11_back_56 rfl ?_
          refine G_isub hk dX11_back_57 ?_
          refine G_putI hk dX11_back_58 flX11_144 fpX11_12 (by decide) rfl rfl ?_
          refine G_iload_n hk dX11_back_61 rfl ?_
          refine G_iconst hk dX11_back_62 ?_
          refine G_isub hk dX11_back_63 ?_
          exact G_iret hk hr dX11_back_64 (by unfold q_back; (repeat' split) <;> first | rfl | (exfalso; omega) | (simp (decide := true) only [su_app, ↓reduceIte] at *; first | rfl | omega))
        · refine G_iconst hk dX11_back_42 ?_
          refine G_goto (tgt := 47) hk dX11_back_43 (by decide) ?_
          refine G_isub hk dX11_back_47 ?_
          refine G_putI hk dX11_back_48 flX11_139 fpX11_10 (by decide) rfl rfl ?_
          refine G_rload_n hk dX11_back_51 rfl ?_
          refine G_dup hk dX11_back_52 rfl ?_
          refine G_getI hk dX11_back_53 flX11_144 (by decide) rfl rfl ?_
          try simp (decide := true) only [su_app, sr_app, ↓reduceIte]
          refine G_iload_n hk dX11_back_56 rfl ?_
          refine G_isub hk dX11_back_57 ?_
          refine G_putI hk dX11_back_58 flX11_144 fpX11_12 (by decide) rfl rfl ?_
          refine G_iload_n hk dX11_back_61 rfl ?_
          refine G_iconst hk dX11_back_62 ?_
          refine G_isub hk dX11_back_63 ?_
          exact G_iret hk hr dX11_back_64 (by unfold q_back; (repeat' split) <;> first | rfl | (exfalso; omega) | (simp (decide := true) only [su_app, ↓reduceIte] at *; first | rfl | omega))
      · refine G_bipush hk dX11_back_30 (by decide) ?_
        exact G_iret hk hr dX11_back_32 (by unfold q_back; (repeat' split) <;> first | rfl | (exfalso; omega) | (simp (decide := true) only [su_app, ↓reduceIte] at *; first | rfl | omega))
  · refine G_bipush hk dX11_back_7 (by decide) ?_
    exact G_iret hk hr dX11_back_9 (by unfold q_back; (repeat' split) <;> first | rfl | (exfalso; omega) | (simp (decide := true) only [su_app, ↓reduceIte] at *; first | rfl | omega))
