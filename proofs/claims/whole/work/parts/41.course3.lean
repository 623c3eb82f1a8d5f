theorem frT_0 (S : Sx) : frT S S := ⟨fun _ _ _ _ _ => rfl, fun _ _ => rfl⟩
theorem cl_n {S : Sx} {A : Av} (h : ClE S A) : S 1 5 = (aN A : Int) ∧ aN A ≤ 8 ∧ S 6 2 = (anp A : Int) ∧ anp A ≤ 12 ∧ S 13 2 = (anb A : Int) ∧ anb A ≤ 12 := ⟨h.2.1.2.2.1, aN_8 h.1, h.2.2.1.1.1, h.2.2.1.1.2.1, h.2.2.2.1.1, h.2.2.2.1.2.1⟩

theorem c_X3_takePicture (l : Launch) (Γ : Ev) (d : Nat) (S : Sx) (A : Av) (hC : ClE S A) (X : Sim) (hX : CrS (aN A) X S) (hr18 : ∀ p, p < aN A → 0 ≤ X.1 p ∧ X.1 p ≤ 1000000000) (h10 : R32 (S 17 10)) (k : Nat) (hk9 : k < anp A) (hb : X.2.2 k ≠ 2) (hz : 0 ≤ szf (aP A) (S 17 10) (S 17 11) k ∧ szf (aP A) (S 17 10) (S 17 11) k ≤ 9) (y : Int) (hy : aP A (4 * k) = y) : Ctr l Γ (d + 2) mX3_takePicture [rf Γ 17, vI (k : Int)] S (pV (fun S2 => CrS (aN A) (take1 (aN A) (aTw A) (aP A) (S 17 10) (S 17 11) y k X) S2 ∧ frT S S2)) := by
  refine Ctr.of (by decide) rfl rfl (Nat.le_of_ble_eq_true rfl) ?_
  intro κ hl hk hr
  subst hl
  obtain ⟨h15, n8, h62, n12, -, -⟩ := cl_n hC
  have hP := hC.2.2.1.2 k hk9
  have hPk := (hC.1.2.2.2.1 k hk9)
  have p7 := hPk.2.1
  have z9 := hPk.2.2.1
  refine G_rload_n hk dX3_takePicture_0 rfl ?_
  refine G_getR hk dX3_takePicture_1 flX3_29 (by decide) rfl rfl ?_
  refine G_iload_n hk dX3_takePicture_4 rfl ?_
  refine G_cV1P hk dX3_takePicture_5 mvX5_personOn mlX3_116 (by decide) rfl rfl (Nat.le_of_ble_eq_true rfl) (c_X5_personOn _ Γ (d + 0) _ _ ⟨by omega, by omega⟩ ⟨by omega, by omega⟩) ?_
  rw [if_pos (by omega), show ((k : Int)).toNat = k from rfl, hP.1]
  refine G_istore_n hk dX3_takePicture_8 (by decide) rfl ?_
  refine G_iload_n hk dX3_takePicture_9 rfl ?_
  refine G_rload_n hk dX3_takePicture_10 rfl ?_
  refine G_getI hk dX3_takePicture_11 flX3_21 (by decide) rfl rfl ?_
  refine G_icmp_ne (tgt := 24) hk dX3_takePicture_14 (by decide) ⟨by omega, by omega⟩ h10 (fun h_14 => ?_) (fun h_14 => ?_)
  · refine G_rload_n hk dX3_takePicture_24 rfl ?_
    refine G_getR hk dX3_takePicture_25 flX3_29 (by decide) rfl rfl ?_
    refine G_iload_n hk dX3_takePicture_28 rfl ?_
    refine G_cV1P hk dX3_takePicture_29 mvX5_sizeOf mlX3_119 (by decide) rfl rfl (Nat.le_of_ble_eq_true rfl) (c_X5_sizeOf _ Γ (d + 0) _ _ ⟨by omega, by omega⟩ ⟨by omega, by omega⟩) ?_
    rw [if_pos (by omega), show ((k : Int)).toNat = k from rfl, hP.2.1]
    have ez : szf (aP A) (S 17 10) (S 17 11) k = aP A (4 * k + 2) := by unfold szf; rw [if_neg (by omega)]
    rw [← ez]
    refine G_istore_n hk dX3_takePicture_32 (by decide) rfl ?_
    refine G_iload_n hk dX3_takePicture_33 rfl ?_
    refine G_if_eq (tgt := 55) hk dX3_takePicture_34 (by decide) ⟨by omega, by omega⟩ (fun h_34 => ?_) (fun h_34 => ?_)
    · exact G_vret hk hr dX3_takePicture_55 ⟨by unfold take1; rw [if_neg (by omega)]; exact hX, frT_0 S⟩
    · refine G_iload_n hk dX3_takePicture_37 rfl ?_
      refine G_cS1P hk dX3_takePicture_38 msX3_isNumber mlX3_122 (Nat.le_of_ble_eq_true rfl) (c_X3_isNumber _ Γ (d + 1) _ _ ⟨by omega, by omega⟩) ?_
      refine G_bif_eq (tgt := 55) hk dX3_takePicture_41 (by decide) (fun h_41 => ?_) (fun h_41 => ?_)
      · exact G_vret hk hr dX3_takePicture_55 ⟨by unfold take1; rw [if_neg (by omega)]; exact hX, frT_0 S⟩
      · refine G_rload_n hk dX3_takePicture_44 rfl ?_
        refine G_getR hk dX3_takePicture_45 flX3_25 (by decide) rfl rfl ?_
        refine G_iload_n hk dX3_takePicture_48 rfl ?_
        refine G_cV1P hk dX3_takePicture_49 mvX4_has mlX3_126 (by decide) rfl rfl (Nat.le_of_ble_eq_true rfl) (c_X4_has _ Γ (d + 1) _ _ ⟨by omega, by omega⟩ ⟨by omega, by omega⟩) ?_
        refine G_bif_ne (tgt := 56) hk dX3_takePicture_52 (by decide) (fun h_52 => ?_) (fun h_52 => ?_)
        · refine G_rload_n hk dX3_takePicture_56 rfl ?_
          refine G_dup hk dX3_takePicture_57 rfl ?_
          refine G_getI hk dX3_takePicture_58 flX3_56 (by decide) rfl rfl ?_
          refine G_iconst hk dX3_takePicture_61 ?_
          refine G_iload_n hk dX3_takePicture_62 rfl ?_
          refine G_ishl hk dX3_takePicture_63 (by omega) (shl_ok (by omega)) (by omega) (by omega) ?_
          refine G_ior hk dX3_takePicture_64 ?_
          refine G_putI hk dX3_takePicture_65 flX3_56 fpX3_6 (by decide) rfl rfl ?_
          refine G_rload_n hk dX3_takePicture_68 rfl ?_
          refine G_getR hk dX3_takePicture_69 flX3_15 (by decide) rfl rfl ?_
          refine G_iload_n hk dX3_takePicture_72 rfl ?_
          refine G_rload_n hk dX3_takePicture_73 rfl ?_
          refine G_iload_n hk dX3_takePicture_74 rfl ?_
          refine G_iload_n hk dX3_takePicture_75 rfl ?_
          refine G_cV2I hk dX3_takePicture_76 mvX3_takeFrom mlX3_109 (by decide) rfl rfl (Nat.le_of_ble_eq_true rfl) (c_X3_takeFrom _ Γ (d + 0) _ _ _ ⟨by omega, by omega⟩ (by simp (decide := true) only [su_app, ↓reduceIte]; omega) ⟨by omega, by omega⟩ (fun j hj => by simp (decide := true) only [su_app, ↓reduceIte] at hj ⊢; rw [hX.1 j (by omega)]; have := hr18 j (by omega); exact ⟨by omega, by omega⟩)) (fun r_76 S_76 hp_76 => ?_)
          have f76 : ∀ c, c ≠ 17 → c ≠ 18 → S_76 c = S c := fun c a b => by rw [tk_fr hp_76 b, su_ne _ a]
          have h18b := tk_bd (N := aN A) (b := 1000000000) hp_76 hz.1 (fun j hj => by rw [su_ne _ (by decide), hX.1 j hj]; exact hr18 j hj)
          have q5 : S_76 1 5 = (aN A : Int) := by rw [f76 1 (by decide) (by decide)]; exact h15
          refine G_iast hk dX3_takePicture_79 (by decide) rfl (by decide) (by omega) (by omega) ?_
          refine G_rload_n hk dX3_takePicture_80 rfl ?_
          refine G_getR hk dX3_takePicture_81 flX3_18 (by decide) rfl rfl ?_
          refine G_iload_n hk dX3_takePicture_84 rfl ?_
          refine G_rload_n hk dX3_takePicture_85 rfl ?_
          refine G_rload_n hk dX3_takePicture_86 rfl ?_
          refine G_getR hk dX3_takePicture_87 flX3_25 (by decide) rfl rfl ?_
          refine G_iload_n hk dX3_takePicture_90 rfl ?_
          refine G_cV1P hk dX3_takePicture_91 mvX4_twinOf mlX3_113 (by decide) rfl rfl (Nat.le_of_ble_eq_true rfl) (c_X4_twinOf _ Γ (d + 0) _ _ ⟨by omega, by omega⟩ (by simp (decide := true) only [su_app, ↓reduceIte]; omega)) ?_
          rw [show (if 0 ≤ aP A (4 * k + 1) ∧ aP A (4 * k + 1) < su S_76 19 ((k : Int)).toNat r_76 1 5 then su S_76 19 ((k : Int)).toNat r_76 4 (aP A (4 * k + 1)).toNat else -1) = aTw A (aP A (4 * k + 1)).toNat by
              rw [su_ne _ (by decide), su_ne _ (by decide), q5, if_pos (by omega), f76 4 (by decide) (by decide)]; exact (hC.2.1.2.2.2 _ (by show (aP A (4 * k + 1)).toNat < aN A; omega)).2]
          have t9 := aTw_ok (A := A) (aP A (4 * k + 1)).toNat (by omega)
          refine G_iload_n hk dX3_takePicture_94 rfl ?_
          refine G_iconst hk dX3_takePicture_95 ?_
          refine G_idiv hk dX3_takePicture_96 (by omega) (by omega) (by omega) (by omega) ?_
          refine G_cV2I hk dX3_takePicture_97 mvX3_takeFrom mlX3_109 (by decide) rfl rfl (Nat.le_of_ble_eq_true rfl) (c_X3_takeFrom _ Γ (d + 0) _ _ _ ⟨by omega, by omega⟩ (by simp (decide := true) only [su_app, ↓reduceIte]; omega) ⟨by omega, by omega⟩ (fun j hj => by rw [su_ne _ (by decide)] at hj ⊢; have := h18b j (by omega); exact ⟨by omega, by omega⟩)) (fun r_97 S_97 hp_97 => ?_)
          refine G_iast hk dX3_takePicture_100 (by decide) rfl (by decide) (by omega) (by omega) ?_
          exact G_vret hk hr dX3_takePicture_101 (by unfold take1; rw [if_pos ⟨hy, by omega, by omega⟩]; exact CrS_tak (by omega) hX h15 (by omega) (by omega) aTw_ok hb hp_76 hp_97 rfl)
        · exact G_vret hk hr dX3_takePicture_55 ⟨by unfold take1; rw [if_neg (by omega)]; exact hX, frT_0 S⟩
  · refine G_rload_n hk dX3_takePicture_17 rfl ?_
    refine G_getI hk dX3_takePicture_18 flX3_41 (by decide) rfl rfl ?_
    refine G_goto (tgt := 32) hk dX3_takePicture_21 (by decide) ?_
    have ez : szf (aP A) (S 17 10) (S 17 11) k = S 17 11 := by unfold szf; rw [if_pos (by omega)]
    rw [← ez]
    refine G_istore_n hk dX3_takePicture_32 (by decide) rfl ?_
    refine G_iload_n hk dX3_takePicture_33 rfl ?_
    refine G_if_eq (tgt := 55) hk dX3_takePicture_34 (by decide) ⟨by omega, by omega⟩ (fun h_34 => ?_) (fun h_34 => ?_)
    · exact G_vret hk hr dX3_takePicture_55 ⟨by unfold take1; rw [if_neg (by omega)]; exact hX, frT_0 S⟩
    · refine G_iload_n hk dX3_takePicture_37 rfl ?_
      refine G_cS1P hk dX3_takePicture_38 msX3_isNumber mlX3_122 (Nat.le_of_ble_eq_true rfl) (c_X3_isNumber _ Γ (d + 1) _ _ ⟨by omega, by omega⟩) ?_
      refine G_bif_eq (tgt := 55) hk dX3_takePicture_41 (by decide) (fun h_41 => ?_) (fun h_41 => ?_)
      · exact G_vret hk hr dX3_takePicture_55 ⟨by unfold take1; rw [if_neg (by omega)]; exact hX, frT_0 S⟩
      · refine G_rload_n hk dX3_takePicture_44 rfl ?_
        refine G_getR hk dX3_takePicture_45 flX3_25 (by decide) rfl rfl ?_
        refine G_iload_n hk dX3_takePicture_48 rfl ?_
        refine G_cV1P hk dX3_takePicture_49 mvX4_has mlX3_126 (by decide) rfl rfl (Nat.le_of_ble_eq_true rfl) (c_X4_has _ Γ (d + 1) _ _ ⟨by omega, by omega⟩ ⟨by omega, by omega⟩) ?_
        refine G_bif_ne (tgt := 56) hk dX3_takePicture_52 (by decide) (fun h_52 => ?_) (fun h_52 => ?_)
        · refine G_rload_n hk dX3_takePicture_56 rfl ?_
          refine G_dup hk dX3_takePicture_57 rfl ?_
          refine G_getI hk dX3_takePicture_58 flX3_56 (by decide) rfl rfl ?_
          refine G_iconst hk dX3_takePicture_61 ?_
          refine G_iload_n hk dX3_takePicture_62 rfl ?_
          refine G_ishl hk dX3_takePicture_63 (by omega) (shl_ok (by omega)) (by omega) (by omega) ?_
          refine G_ior hk dX3_takePicture_64 ?_
          refine G_putI hk dX3_takePicture_65 flX3_56 fpX3_6 (by decide) rfl rfl ?_
          refine G_rload_n hk dX3_takePicture_68 rfl ?_
          refine G_getR hk dX3_takePicture_69 flX3_15 (by decide) rfl rfl ?_
          refine G_iload_n hk dX3_takePicture_72 rfl ?_
          refine G_rload_n hk dX3_takePicture_73 rfl ?_
          refine G_iload_n hk dX3_takePicture_74 rfl ?_
          refine G_iload_n hk dX3_takePicture_75 rfl ?_
          refine G_cV2I hk dX3_takePicture_76 mvX3_takeFrom mlX3_109 (by decide) rfl rfl (Nat.le_of_ble_eq_true rfl) (c_X3_takeFrom _ Γ (d + 0) _ _ _ ⟨by omega, by omega⟩ (by simp (decide := true) only [su_app, ↓reduceIte]; omega) ⟨by omega, by omega⟩ (fun j hj => by simp (decide := true) only [su_app, ↓reduceIte] at hj ⊢; rw [hX.1 j (by omega)]; have := hr18 j (by omega); exact ⟨by omega, by omega⟩)) (fun r_76 S_76 hp_76 => ?_)
          have f76 : ∀ c, c ≠ 17 → c ≠ 18 → S_76 c = S c := fun c a b => by rw [tk_fr hp_76 b, su_ne _ a]
          have h18b := tk_bd (N := aN A) (b := 1000000000) hp_76 hz.1 (fun j hj => by rw [su_ne _ (by decide), hX.1 j hj]; exact hr18 j hj)
          have q5 : S_76 1 5 = (aN A : Int) := by rw [f76 1 (by decide) (by decide)]; exact h15
          refine G_iast hk dX3_takePicture_79 (by decide) rfl (by decide) (by omega) (by omega) ?_
          refine G_rload_n hk dX3_takePicture_80 rfl ?_
          refine G_getR hk dX3_takePicture_81 flX3_18 (by decide) rfl rfl ?_
          refine G_iload_n hk dX3_takePicture_84 rfl ?_
          refine G_rload_n hk dX3_takePicture_85 rfl ?_
          refine G_rload_n hk dX3_takePicture_86 rfl ?_
          refine G_getR hk dX3_takePicture_87 flX3_25 (by decide) rfl rfl ?_
          refine G_iload_n hk dX3_takePicture_90 rfl ?_
          refine G_cV1P hk dX3_takePicture_91 mvX4_twinOf mlX3_113 (by decide) rfl rfl (Nat.le_of_ble_eq_true rfl) (c_X4_twinOf _ Γ (d + 0) _ _ ⟨by omega, by omega⟩ (by simp (decide := true) only [su_app, ↓reduceIte]; omega)) ?_
          rw [show (if 0 ≤ aP A (4 * k + 1) ∧ aP A (4 * k + 1) < su S_76 19 ((k : Int)).toNat r_76 1 5 then su S_76 19 ((k : Int)).toNat r_76 4 (aP A (4 * k + 1)).toNat else -1) = aTw A (aP A (4 * k + 1)).toNat by
              rw [su_ne _ (by decide), su_ne _ (by decide), q5, if_pos (by omega), f76 4 (by decide) (by decide)]; exact (hC.2.1.2.2.2 _ (by show (aP A (4 * k + 1)).toNat < aN A; omega)).2]
          have t9 := aTw_ok (A := A) (aP A (4 * k + 1)).toNat (by omega)
          refine G_iload_n hk dX3_takePicture_94 rfl ?_
          refine G_iconst hk dX3_takePicture_95 ?_
          refine G_idiv hk dX3_takePicture_96 (by omega) (by omega) (by omega) (by omega) ?_
          refine G_cV2I hk dX3_takePicture_97 mvX3_takeFrom mlX3_109 (by decide) rfl rfl (Nat.le_of_ble_eq_true rfl) (c_X3_takeFrom _ Γ (d + 0) _ _ _ ⟨by omega, by omega⟩ (by simp (decide := true) only [su_app, ↓reduceIte]; omega) ⟨by omega, by omega⟩ (fun j hj => by rw [su_ne _ (by decide)] at hj ⊢; have := h18b j (by omega); exact ⟨by omega, by omega⟩)) (fun r_97 S_97 hp_97 => ?_)
          refine G_iast hk dX3_takePicture_100 (by decide) rfl (by decide) (by omega) (by omega) ?_
          exact G_vret hk hr dX3_takePicture_101 (by unfold take1; rw [if_pos ⟨hy, by omega, by omega⟩]; exact CrS_tak (by omega) hX h15 (by omega) (by omega) aTw_ok hb hp_76 hp_97 rfl)
        · exact G_vret hk hr dX3_takePicture_55 ⟨by unfold take1; rw [if_neg (by omega)]; exact hX, frT_0 S⟩
