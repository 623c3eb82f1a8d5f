theorem c_X10_picture (l : Launch) (Γ : Ev) (d : Nat) (S : Sx) (hR : CR S S) (hI : InvM S) (y p z w : Int) (h_y : R32 y) (h_p : R32 p) (h_z : R32 z) (h_w : R32 w) : Ctr l Γ (d + 3) mX10_picture [rf Γ 0, vI y, vI p, vI z, vI w] S (pI (fun r S2 => r = (q_picture S y p z w).1 ∧ CR S2 (q_picture S y p z w).2 ∧ hiC S S2)) := by
  refine Ctr.of (by decide) rfl rfl (Nat.le_of_ble_eq_true rfl) ?_
  intro κ hl hk hr
  subst hl
  obtain ⟨⟨hC, hW, hWt, h09, h010⟩, hSh⟩ := id hR
  obtain ⟨h15, n8, h62, n12, h132, m12⟩ := cl_n hC
  have i2 := hI.2.1
  have t31 : (S 44 6).toNat ≤ 31 := hI.1.1
  have e6 : S 1 3 = S 44 6 := by
    have : S 1 3 = ((S 44 6).toNat : Int) := hC.2.1.1.1
    omega
  refine G_iload_n hk dX10_picture_0 rfl ?_
  refine G_cS1P hk dX10_picture_1 msX10_isYear mlX10_110 (Nat.le_of_ble_eq_true rfl) (c_X10_isYear _ Γ (d + 1) _ _ ⟨by omega, by omega⟩) ?_
  refine G_bif_eq (tgt := 32) hk dX10_picture_4 (by decide) (fun h_4 => ?_) (fun h_4 => ?_)
  · refine G_bipush hk dX10_picture_32 (by decide) ?_
    exact G_iret hk hr dX10_picture_34 (by rw [show q_picture S y p z w = (_, S) by unfold q_picture; (repeat' split) <;> first | rfl | (exfalso; omega)]; exact ⟨rfl, hR, hiC_0 S⟩)
  · refine G_iload_n hk dX10_picture_7 rfl ?_
    refine G_iconst hk dX10_picture_8 ?_
    refine G_bipush hk dX10_picture_9 (by decide) ?_
    refine G_cS3P hk dX10_picture_11 msX10_isWithin mlX10_81 (Nat.le_of_ble_eq_true rfl) (c_X10_isWithin _ Γ (d + 2) _ _ _ _ ⟨by omega, by omega⟩ ⟨by omega, by omega⟩ ⟨by omega, by omega⟩) ?_
    refine G_bif_eq (tgt := 32) hk dX10_picture_14 (by decide) (fun h_14 => ?_) (fun h_14 => ?_)
    · refine G_bipush hk dX10_picture_32 (by decide) ?_
      exact G_iret hk hr dX10_picture_34 (by rw [show q_picture S y p z w = (_, S) by unfold q_picture; (repeat' split) <;> first | rfl | (exfalso; omega)]; exact ⟨rfl, hR, hiC_0 S⟩)
    · refine G_iload_n hk dX10_picture_17 rfl ?_
      refine G_cS1P hk dX10_picture_18 msX10_isSize mlX10_113 (Nat.le_of_ble_eq_true rfl) (c_X10_isSize _ Γ (d + 1) _ _ ⟨by omega, by omega⟩) ?_
      refine G_bif_eq (tgt := 32) hk dX10_picture_21 (by decide) (fun h_21 => ?_) (fun h_21 => ?_)
      · refine G_bipush hk dX10_picture_32 (by decide) ?_
        exact G_iret hk hr dX10_picture_34 (by rw [show q_picture S y p z w = (_, S) by unfold q_picture; (repeat' split) <;> first | rfl | (exfalso; omega)]; exact ⟨rfl, hR, hiC_0 S⟩)
      · refine G_iload hk dX10_picture_24 rfl ?_
        refine G_cS1P hk dX10_picture_26 msX10_isDrawer mlX10_116 (Nat.le_of_ble_eq_true rfl) (c_X10_isDrawer _ Γ (d + 1) _ _ ⟨by omega, by omega⟩) ?_
        refine G_bif_ne (tgt := 35) hk dX10_picture_29 (by decide) (fun h_29 => ?_) (fun h_29 => ?_)
        · refine G_rload_n hk dX10_picture_35 rfl ?_
          refine G_getR hk dX10_picture_36 flX10_19 (by decide) rfl rfl ?_
          refine G_iload_n hk dX10_picture_39 rfl ?_
          refine G_iload_n hk dX10_picture_40 rfl ?_
          refine G_iload_n hk dX10_picture_41 rfl ?_
          refine G_iload hk dX10_picture_42 rfl ?_
          refine G_cV4I hk dX10_picture_44 mvX5_add mlX10_119 (by decide) rfl rfl (Nat.le_of_ble_eq_true rfl) (c_adX5 (d + 0) hR hI ⟨by omega, by omega⟩) (fun r_44 S_44 hp_44 => ?_)
          have r01 : 0 ≤ r_44 ∧ r_44 ≤ 1 := by rcases hp_44 with ⟨g, _⟩ | ⟨g, _⟩ <;> omega
          refine G_if_eq (tgt := 60) hk dX10_picture_47 (by decide) ⟨by omega, by omega⟩ (fun h_47 => ?_) (fun h_47 => ?_)
          · refine G_bipush hk dX10_picture_60 (by decide) ?_
            exact G_iret hk hr dX10_picture_62 (by
  obtain ⟨-, g1, g2⟩ := hp_44.resolve_right (fun g => by omega)
  rw [g2, show q_picture S y p z w = (_, S) by unfold q_picture; rw [if_neg (by omega), if_neg (by omega), if_neg (by omega), if_neg (by omega), if_pos g1]]
  exact ⟨rfl, hR, hiC_0 S⟩)
          · obtain ⟨-, g1, g2, g3⟩ := hp_44.resolve_left (fun g => h_47 g.1)
            refine G_rload_n hk dX10_picture_50 rfl ?_
            refine G_getR hk dX10_picture_51 flX10_19 (by decide) rfl rfl ?_
            refine G_cV0P hk dX10_picture_54 mvX5_howMany mlX10_123 (by decide) rfl rfl (Nat.le_of_ble_eq_true rfl) (c_X5_howMany _ Γ (d + 1) _) ?_
            refine G_goto (tgt := 62) hk dX10_picture_57 (by decide) ?_
            exact G_iret hk hr dX10_picture_62 (CR_picture hR hI (by omega) (by omega) (by omega) (by omega) g1 g2 g3)
        · refine G_bipush hk dX10_picture_32 (by decide) ?_
          exact G_iret hk hr dX10_picture_34 (by rw [show q_picture S y p z w = (_, S) by unfold q_picture; (repeat' split) <;> first | rfl | (exfalso; omega)]; exact ⟨rfl, hR, hiC_0 S⟩)

theorem c_X10_burn (l : Launch) (Γ : Ev) (d : Nat) (S : Sx) (hR : CR S S) (hI : InvM S) (y p : Int) (h_y : R32 y) (h_p : R32 p) : Ctr l Γ (d + 3) mX10_burn [rf Γ 0, vI y, vI p] S (pI (fun r S2 => r = (q_burn S y p).1 ∧ CR S2 (q_burn S y p).2 ∧ hiC S S2)) := by
  refine Ctr.of (by decide) rfl rfl (Nat.le_of_ble_eq_true rfl) ?_
  intro κ hl hk hr
  subst hl
  obtain ⟨⟨hC, hW, hWt, h09, h010⟩, hSh⟩ := id hR
  obtain ⟨h15, n8, h62, n12, h132, m12⟩ := cl_n hC
  have i2 := hI.2.1
  have t31 : (S 44 6).toNat ≤ 31 := hI.1.1
  have e6 : S 1 3 = S 44 6 := by
    have : S 1 3 = ((S 44 6).toNat : Int) := hC.2.1.1.1
    omega
  refine G_iload_n hk dX10_burn_0 rfl ?_
  refine G_cS1P hk dX10_burn_1 msX10_isYear mlX10_110 (Nat.le_of_ble_eq_true rfl) (c_X10_isYear _ Γ (d + 1) _ _ ⟨by omega, by omega⟩) ?_
  refine G_bif_eq (tgt := 17) hk dX10_burn_4 (by decide) (fun h_4 => ?_) (fun h_4 => ?_)
  · refine G_bipush hk dX10_burn_17 (by decide) ?_
    exact G_iret hk hr dX10_burn_19 (by rw [show q_burn S y p = (_, S) by unfold q_burn; (repeat' split) <;> first | rfl | (exfalso; omega)]; exact ⟨rfl, hR, hiC_0 S⟩)
  · refine G_iload_n hk dX10_burn_7 rfl ?_
    refine G_iconst hk dX10_burn_8 ?_
    refine G_bipush hk dX10_burn_9 (by decide) ?_
    refine G_cS3P hk dX10_burn_11 msX10_isWithin mlX10_81 (Nat.le_of_ble_eq_true rfl) (c_X10_isWithin _ Γ (d + 2) _ _ _ _ ⟨by omega, by omega⟩ ⟨by omega, by omega⟩ ⟨by omega, by omega⟩) ?_
    refine G_bif_ne (tgt := 20) hk dX10_burn_14 (by decide) (fun h_14 => ?_) (fun h_14 => ?_)
    · refine G_rload_n hk dX10_burn_20 rfl ?_
      refine G_getR hk dX10_burn_21 flX10_26 (by decide) rfl rfl ?_
      refine G_iload_n hk dX10_burn_24 rfl ?_
      refine G_iload_n hk dX10_burn_25 rfl ?_
      refine G_cV2I hk dX10_burn_26 mvX0_add mlX10_126 (by decide) rfl rfl (Nat.le_of_ble_eq_true rfl) (c_adX0 (d + 0) hR hI ⟨by omega, by omega⟩) (fun r_26 S_26 hp_26 => ?_)
      have r01 : 0 ≤ r_26 ∧ r_26 ≤ 1 := by rcases hp_26 with ⟨g, _⟩ | ⟨g, _⟩ <;> omega
      refine G_if_eq (tgt := 42) hk dX10_burn_29 (by decide) ⟨by omega, by omega⟩ (fun h_29 => ?_) (fun h_29 => ?_)
      · refine G_bipush hk dX10_burn_42 (by decide) ?_
        exact G_iret hk hr dX10_burn_44 (by
  obtain ⟨-, g1, g2⟩ := hp_26.resolve_right (fun g => by omega)
  rw [g2, show q_burn S y p = (_, S) by unfold q_burn; rw [if_neg (by omega), if_neg (by omega), if_pos g1]]
  exact ⟨rfl, hR, hiC_0 S⟩)
      · obtain ⟨-, g1, g2, g3⟩ := hp_26.resolve_left (fun g => h_29 g.1)
        refine G_rload_n hk dX10_burn_32 rfl ?_
        refine G_getR hk dX10_burn_33 flX10_26 (by decide) rfl rfl ?_
        refine G_cV0P hk dX10_burn_36 mvX0_howMany mlX10_129 (by decide) rfl rfl (Nat.le_of_ble_eq_true rfl) (c_X0_howMany _ Γ (d + 1) _) ?_
        refine G_goto (tgt := 44) hk dX10_burn_39 (by decide) ?_
        exact G_iret hk hr dX10_burn_44 (CR_burn hR hI (by omega) (by omega) g1 g2 g3)
    · refine G_bipush hk dX10_burn_17 (by decide) ?_
      exact G_iret hk hr dX10_burn_19 (by rw [show q_burn S y p = (_, S) by unfold q_burn; (repeat' split) <;> first | rfl | (exfalso; omega)]; exact ⟨rfl, hR, hiC_0 S⟩)

theorem c_X10_seen (l : Launch) (Γ : Ev) (d : Nat) (S : Sx) (hR : CR S S) (hI : InvM S) (y p v : Int) (h_y : R32 y) (h_p : R32 p) (h_v : R32 v) : Ctr l Γ (d + 3) mX10_seen [rf Γ 0, vI y, vI p, vI v] S (pI (fun r S2 => r = (q_seen S y p v).1 ∧ CR S2 (q_seen S y p v).2 ∧ hiC S S2)) := by
  refine Ctr.of (by decide) rfl rfl (Nat.le_of_ble_eq_true rfl) ?_
  intro κ hl hk hr
  subst hl
  obtain ⟨⟨hC, hW, hWt, h09, h010⟩, hSh⟩ := id hR
  obtain ⟨h15, n8, h62, n12, h132, m12⟩ := cl_n hC
  have i2 := hI.2.1
  have t31 : (S 44 6).toNat ≤ 31 := hI.1.1
  have e6 : S 1 3 = S 44 6 := by
    have : S 1 3 = ((S 44 6).toNat : Int) := hC.2.1.1.1
    omega
  refine G_iload_n hk dX10_seen_0 rfl ?_
  refine G_iload_n hk dX10_seen_1 rfl ?_
  refine G_iload_n hk dX10_seen_2 rfl ?_
  refine G_cS3P hk dX10_seen_3 msX10_isSighting mlX10_212 (Nat.le_of_ble_eq_true rfl) (c_X10_isSighting _ Γ (d + 0) _ _ _ _ ⟨by omega, by omega⟩ ⟨by omega, by omega⟩ ⟨by omega, by omega⟩) ?_
  refine G_bif_ne (tgt := 12) hk dX10_seen_6 (by decide) (fun h_6 => ?_) (fun h_6 => ?_)
  · refine G_rload_n hk dX10_seen_12 rfl ?_
    refine G_getR hk dX10_seen_13 flX10_56 (by decide) rfl rfl ?_
    refine G_iload_n hk dX10_seen_16 rfl ?_
    refine G_iload_n hk dX10_seen_17 rfl ?_
    refine G_iload_n hk dX10_seen_18 rfl ?_
    refine G_cV3I hk dX10_seen_19 mvX9_add mlX10_215 (by decide) rfl rfl (Nat.le_of_ble_eq_true rfl) (c_adX9 (d + 0) hR hI ⟨by omega, by omega⟩) (fun r_19 S_19 hp_19 => ?_)
    have r01 : 0 ≤ r_19 ∧ r_19 ≤ 1 := by rcases hp_19 with ⟨g, _⟩ | ⟨g, _⟩ <;> omega
    refine G_if_eq (tgt := 35) hk dX10_seen_22 (by decide) ⟨by omega, by omega⟩ (fun h_22 => ?_) (fun h_22 => ?_)
    · refine G_bipush hk dX10_seen_35 (by decide) ?_
      exact G_iret hk hr dX10_seen_37 (by
  obtain ⟨-, g1, g2⟩ := hp_19.resolve_right (fun g => by omega)
  rw [g2, show q_seen S y p v = (_, S) by unfold q_seen; rw [if_neg (by omega), if_neg (by omega), if_neg (by omega), if_pos g1]]
  exact ⟨rfl, hR, hiC_0 S⟩)
    · obtain ⟨-, g1, g2, g3⟩ := hp_19.resolve_left (fun g => h_22 g.1)
      refine G_rload_n hk dX10_seen_25 rfl ?_
      refine G_getR hk dX10_seen_26 flX10_56 (by decide) rfl rfl ?_
      refine G_cV0P hk dX10_seen_29 mvX9_howMany mlX10_217 (by decide) rfl rfl (Nat.le_of_ble_eq_true rfl) (c_X9_howMany _ Γ (d + 1) _) ?_
      refine G_goto (tgt := 37) hk dX10_seen_32 (by decide) ?_
      exact G_iret hk hr dX10_seen_37 (CR_seen hR hI (by omega) (by omega) (by omega) g1 g2 g3)
  · refine G_bipush hk dX10_seen_9 (by decide) ?_
    exact G_iret hk hr dX10_seen_11 (by rw [show q_seen S y p v = (_, S) by unfold q_seen; (repeat' split) <;> first | rfl | (exfalso; omega)]; exact ⟨rfl, hR, hiC_0 S⟩)

theorem c_drP {l : Launch} {Γ : Ev} (d : Nat) {S : Sx} (hR : CR S S) (hI : InvM S) : Ctr l Γ d mX7_dropLast [rf Γ 6] S (pI (fun r S2 => (r = 0 ∧ S 44 10 = 0 ∧ S2 = S) ∨ (r = 1 ∧ ¬ S 44 10 = 0 ∧ (∀ c, c ≠ 6 → c ≠ 8 → S2 c = S c) ∧ PiR S2 ((S 44 10).toNat - 1) (S 51)))) := by
  have i2 := hI.2.1
  have pr := hR.1.1.2.2.1
  have e2 : S 6 2 = ((S 44 10).toNat : Int) := pr.1.1
  by_cases e : S 44 10 = 0
  · refine Ctr_mono (c_rd0P l Γ d S (by omega)) ?_
    rintro v S2 ⟨r, rfl, h1, h2⟩
    exact ⟨r, rfl, Or.inl ⟨h1, e, h2⟩⟩
  · obtain ⟨n, hn⟩ : ∃ n, (S 44 10).toNat = n + 1 := ⟨(S 44 10).toNat - 1, by omega⟩
    have pr1 : PiR S (n + 1) (S 51) := by rw [← hn]; exact pr
    refine Ctr_mono (c_rd1P l Γ d S n (fun k => S 51 (4 * k)) pr1.1) ?_
    rintro v S2 ⟨r, rfl, g1, g2, g3⟩
    refine ⟨r, rfl, Or.inr ⟨g1, e, g3, ?_⟩⟩
    rw [show (S 44 10).toNat - 1 = n by omega]
    refine ⟨g2, fun k hk => ?_⟩
    rw [g3 9 (by decide) (by decide), g3 10 (by decide) (by decide), g3 11 (by decide) (by decide)]
    exact pr1.2 k (by omega)

theorem c_drB {l : Launch} {Γ : Ev} (d : Nat) {S : Sx} (hR : CR S S) (hI : InvM S) : Ctr l Γ d mX7_dropLast [rf Γ 13] S (pI (fun r S2 => (r = 0 ∧ S 44 12 = 0 ∧ S2 = S) ∨ (r = 1 ∧ ¬ S 44 12 = 0 ∧ (∀ c, c ≠ 13 → c ≠ 15 → S2 c = S c) ∧ BuR S2 ((S 44 12).toNat - 1) (S 52)))) := by
  have i2 := hI.2.1
  have pr := hR.1.1.2.2.2
  have e2 : S 13 2 = ((S 44 12).toNat : Int) := pr.1.1
  by_cases e : S 44 12 = 0
  · refine Ctr_mono (c_rd0B l Γ d S (by omega)) ?_
    rintro v S2 ⟨r, rfl, h1, h2⟩
    exact ⟨r, rfl, Or.inl ⟨h1, e, h2⟩⟩
  · obtain ⟨n, hn⟩ : ∃ n, (S 44 12).toNat = n + 1 := ⟨(S 44 12).toNat - 1, by omega⟩
    have pr1 : BuR S (n + 1) (S 52) := by rw [← hn]; exact pr
    refine Ctr_mono (c_rd1B l Γ d S n (fun k => S 52 (2 * k)) pr1.1) ?_
    rintro v S2 ⟨r, rfl, g1, g2, g3⟩
    refine ⟨r, rfl, Or.inr ⟨g1, e, g3, ?_⟩⟩
    rw [show (S 44 12).toNat - 1 = n by omega]
    refine ⟨g2, fun k hk => ?_⟩
    rw [g3 16 (by decide) (by decide)]
    exact pr1.2 k (by omega)

theorem CR_bk {S S2 : Sx} (hR : CR S S) {x z : Int} (hI : InvM (su (su S 44 10 x) 44 12 z)) (pi : PiR S2 x.toNat (S 51)) (bu : BuR S2 z.toNat (S 52)) (f : ∀ c, (c < 6 ∨ 16 < c) → S2 c = S c) : CR S2 (su (su S 44 10 x) 44 12 z) ∧ hiC S S2 := by
  refine ⟨CR_mk hI (pe_keep hR rfl rfl (fun c a b => f c (by omega))) pi bu (wi_keep hR rfl rfl (fun c a b => f c (by omega))) (wa_keep hR rfl (f 24 (by omega))) ?_ ?_ (ShR_cong hR.2 (fun c a b => f c (by omega)) rfl rfl rfl), fun c hc => f c (by omega)⟩
  · rw [f 0 (by omega)]; exact hR.1.2.2.2.1
  · rw [f 0 (by omega)]; exact hR.1.2.2.2.2

theorem c_X10_back (l : Launch) (Γ : Ev) (d : Nat) (S : Sx) (hR : CR S S) (hI : InvM S) (w : Int) (h_w : R32 w) : Ctr l Γ (d + 1) mX10_back [rf Γ 0, vI w] S (pI (fun r S2 => r = (q_back S w).1 ∧ CR S2 (q_back S w).2 ∧ hiC S S2)) := by
  refine Ctr.of (by decide) rfl rfl (Nat.le_of_ble_eq_true rfl) ?_
  intro κ hl hk hr
  subst hl
  obtain ⟨⟨hC, hW, hWt, h09, h010⟩, hSh⟩ := id hR
  obtain ⟨h15, n8, h62, n12, h132, m12⟩ := cl_n hC
  have i2 := hI.2.1
  have t31 : (S 44 6).toNat ≤ 31 := hI.1.1
  have e6 : S 1 3 = S 44 6 := by
    have : S 1 3 = ((S 44 6).toNat : Int) := hC.2.1.1.1
    omega
  refine G_iload_n hk dX10_back_0 rfl ?_
  refine G_iconst hk dX10_back_1 ?_
  refine G_iconst hk dX10_back_2 ?_
  refine G_cS3P hk dX10_back_3 msX10_isWithin mlX10_81 (Nat.le_of_ble_eq_true rfl) (c_X10_isWithin _ Γ (d + 0) _ _ _ _ ⟨by omega, by omega⟩ ⟨by omega, by omega⟩ ⟨by omega, by omega⟩) ?_
  refine G_bif_ne (tgt := 12) hk dX10_back_6 (by decide) (fun h_6 => ?_) (fun h_6 => ?_)
  · refine G_iload_n hk dX10_back_12 rfl ?_
    refine G_if_ne (tgt := 26) hk dX10_back_13 (by decide) ⟨by omega, by omega⟩ (fun h_13 => ?_) (fun h_13 => ?_)
    · refine G_rload_n hk dX10_back_26 rfl ?_
      refine G_getR hk dX10_back_27 flX10_26 (by decide) rfl rfl ?_
      refine G_getR hk dX10_back_30 flX10_134 (by decide) rfl rfl ?_
      refine G_astore_n hk dX10_back_33 (by decide) rfl ?_
      refine G_rload_n hk dX10_back_34 rfl ?_
      refine G_cV0I hk dX10_back_35 mvX7_dropLast mlX10_135 (by decide) rfl rfl (Nat.le_of_ble_eq_true rfl) (c_drB (d + 0) hR hI) (fun r_35 S_35 hp_35 => ?_)
      have r01 : 0 ≤ r_35 ∧ r_35 ≤ 1 := by rcases hp_35 with ⟨g, _⟩ | ⟨g, _⟩ <;> omega
      refine G_if_eq (tgt := 48) hk dX10_back_38 (by decide) ⟨by omega, by omega⟩ (fun h_38 => ?_) (fun h_38 => ?_)
      · refine G_bipush hk dX10_back_48 (by decide) ?_
        exact G_iret hk hr dX10_back_50 (by
  obtain ⟨-, g1, g2⟩ := hp_35.resolve_right (fun g => by omega)
  have hw : w = 1 := by omega
  subst hw
  rw [g2, show q_back S 1 = (_, S) by unfold q_back; rw [if_neg (by decide), if_neg (by decide), if_pos g1]]
  exact ⟨rfl, hR, hiC_0 S⟩)
      · obtain ⟨-, g1, g2, g3⟩ := hp_35.resolve_left (fun g => h_38 g.1)
        refine G_rload_n hk dX10_back_41 rfl ?_
        refine G_cV0P hk dX10_back_42 mvX7_howMany mlX10_141 (by decide) rfl rfl (Nat.le_of_ble_eq_true rfl) (c_rmB _ Γ (d + 0) _) ?_
        refine G_goto (tgt := 50) hk dX10_back_45 (by decide) ?_
        exact G_iret hk hr dX10_back_50 (by
  have hw : w = 1 := by omega
  subst hw
  have e : q_back S 1 = (S 44 12 - 1, su (su S 44 10 (S 44 10 - 0)) 44 12 (S 44 12 - 1)) := by unfold q_back; rw [if_neg (by decide), if_neg (by decide), if_neg g1]
  have hI2 := inv_back hI 1
  rw [e] at hI2 ⊢
  have l3 : S_35 13 2 = (((S 44 12).toNat - 1 : Nat) : Int) := g3.1.1
  refine ⟨by show S_35 13 2 = S 44 12 - 1; omega, CR_bk hR hI2 (by rw [show (S 44 10 - 0).toNat = (S 44 10).toNat by omega]; exact PiR_cong hC.2.2.1 (fun c a b => g2 c (by omega) (by omega))) (by rw [show (S 44 12 - 1).toNat = (S 44 12).toNat - 1 by omega]; exact g3) (fun c hc => g2 c (by omega) (by omega))⟩)
    · refine G_rload_n hk dX10_back_16 rfl ?_
      refine G_getR hk dX10_back_17 flX10_19 (by decide) rfl rfl ?_
      refine G_getR hk dX10_back_20 flX10_130 (by decide) rfl rfl ?_
      refine G_goto (tgt := 33) hk dX10_back_23 (by decide) ?_
      refine G_astore_n hk dX10_back_33 (by decide) rfl ?_
      refine G_rload_n hk dX10_back_34 rfl ?_
      refine G_cV0I hk dX10_back_35 mvX7_dropLast mlX10_135 (by decide) rfl rfl (Nat.le_of_ble_eq_true rfl) (c_drP (d + 0) hR hI) (fun r_35 S_35 hp_35 => ?_)
      have r01 : 0 ≤ r_35 ∧ r_35 ≤ 1 := by rcases hp_35 with ⟨g, _⟩ | ⟨g, _⟩ <;> omega
      refine G_if_eq (tgt := 48) hk dX10_back_38 (by decide) ⟨by omega, by omega⟩ (fun h_38 => ?_) (fun h_38 => ?_)
      · refine G_bipush hk dX10_back_48 (by decide) ?_
        exact G_iret hk hr dX10_back_50 (by
  obtain ⟨-, g1, g2⟩ := hp_35.resolve_right (fun g => by omega)
  have hw : w = 0 := by omega
  subst hw
  rw [g2, show q_back S 0 = (_, S) by unfold q_back; rw [if_neg (by decide), if_pos rfl, if_pos g1]]
  exact ⟨rfl, hR, hiC_0 S⟩)
      · obtain ⟨-, g1, g2, g3⟩ := hp_35.resolve_left (fun g => h_38 g.1)
        refine G_rload_n hk dX10_back_41 rfl ?_
        refine G_cV0P hk dX10_back_42 mvX7_howMany mlX10_141 (by decide) rfl rfl (Nat.le_of_ble_eq_true rfl) (c_rmP _ Γ (d + 0) _) ?_
        refine G_goto (tgt := 50) hk dX10_back_45 (by decide) ?_
        exact G_iret hk hr dX10_back_50 (by
  have hw : w = 0 := by omega
  subst hw
  have e : q_back S 0 = (S 44 10 - 1, su (su S 44 10 (S 44 10 - 1)) 44 12 (S 44 12 - 0)) := by unfold q_back; rw [if_neg (by decide), if_pos rfl, if_neg g1]
  have hI2 := inv_back hI 0
  rw [e] at hI2 ⊢
  have l3 : S_35 6 2 = (((S 44 10).toNat - 1 : Nat) : Int) := g3.1.1
  refine ⟨by show S_35 6 2 = S 44 10 - 1; omega, CR_bk hR hI2 (by rw [show (S 44 10 - 1).toNat = (S 44 10).toNat - 1 by omega]; exact g3) (by rw [show (S 44 12 - 0).toNat = (S 44 12).toNat by omega]; exact BuR_cong hC.2.2.2 (fun c a b => g2 c (by omega) (by omega))) (fun c hc => g2 c (by omega) (by omega))⟩)
  · refine G_bipush hk dX10_back_9 (by decide) ?_
    exact G_iret hk hr dX10_back_11 (by rw [show q_back S w = (_, S) by unfold q_back; (repeat' split) <;> first | rfl | (exfalso; omega)]; exact ⟨rfl, hR, hiC_0 S⟩)

theorem c_X10_faint (l : Launch) (Γ : Ev) (d : Nat) (S : Sx) (hR : CR S S) (hI : InvM S) (v : Int) (h_v : R32 v) : Ctr l Γ (d + 1) mX10_faint [rf Γ 0, vI v] S (pI (fun r S2 => r = (q_faint S v).1 ∧ CR S2 (q_faint S v).2 ∧ hiC S S2)) := by
  refine Ctr.of (by decide) rfl rfl (Nat.le_of_ble_eq_true rfl) ?_
  intro κ hl hk hr
  subst hl
  obtain ⟨⟨hC, hW, hWt, h09, h010⟩, hSh⟩ := id hR
  obtain ⟨h15, n8, h62, n12, h132, m12⟩ := cl_n hC
  have i2 := hI.2.1
  have t31 : (S 44 6).toNat ≤ 31 := hI.1.1
  have e6 : S 1 3 = S 44 6 := by
    have : S 1 3 = ((S 44 6).toNat : Int) := hC.2.1.1.1
    omega
  refine G_iload_n hk dX10_faint_0 rfl ?_
  refine G_iconst hk dX10_faint_1 ?_
  refine G_bipush hk dX10_faint_2 (by decide) ?_
  refine G_cS3P hk dX10_faint_4 msX10_isWithin mlX10_81 (Nat.le_of_ble_eq_true rfl) (c_X10_isWithin _ Γ (d + 0) _ _ _ _ ⟨by omega, by omega⟩ ⟨by omega, by omega⟩ ⟨by omega, by omega⟩) ?_
  refine G_bif_ne (tgt := 13) hk dX10_faint_7 (by decide) (fun h_7 => ?_) (fun h_7 => ?_)
  · refine G_rload_n hk dX10_faint_13 rfl ?_
    refine G_getI hk dX10_faint_14 flX10_73 (by decide) rfl rfl ?_
    refine G_istore_n hk dX10_faint_17 (by decide) rfl ?_
    refine G_rload_n hk dX10_faint_18 rfl ?_
    refine G_iload_n hk dX10_faint_19 rfl ?_
    refine G_putI hk dX10_faint_20 flX10_73 fpX10_9 (by decide) rfl rfl ?_
    refine G_iload_n hk dX10_faint_23 rfl ?_
    exact G_iret hk hr dX10_faint_24 (by
    have e : q_faint S v = (S 44 14, su S 44 14 v) := by unfold q_faint; rw [if_neg (by omega)]
    have hI2 := inv_faint hI v
    rw [e] at hI2 ⊢
    have g : ∀ c, 1 ≤ c → su S 0 9 v c = S c := fun c hc => su_ne _ (by omega)
    exact ⟨h09, CR_mk hI2 (pe_keep hR rfl rfl (fun c a _ => g c a)) (pi_keep hR rfl rfl (fun c a _ => g c (by omega))) (bu_keep hR rfl rfl (fun c a _ => g c (by omega))) (wi_keep hR rfl rfl (fun c a _ => g c (by omega))) (wa_keep hR rfl (g 24 (by decide))) rfl hR.1.2.2.2.2 (ShR_cong hR.2 (fun c a _ => g c (by omega)) rfl rfl rfl), fun c hc => g c (by omega)⟩)
  · refine G_bipush hk dX10_faint_10 (by decide) ?_
    exact G_iret hk hr dX10_faint_12 (by rw [show q_faint S v = (_, S) by unfold q_faint; (repeat' split) <;> first | rfl | (exfalso; omega)]; exact ⟨rfl, hR, hiC_0 S⟩)

theorem c_X10_want (l : Launch) (Γ : Ev) (d : Nat) (S : Sx) (hR : CR S S) (hI : InvM S) (w p : Int) (h_w : R32 w) (h_p : R32 p) : Ctr l Γ (d + 2) mX10_want [rf Γ 0, vI w, vI p] S (pI (fun r S2 => r = (q_want S w p).1 ∧ CR S2 (q_want S w p).2 ∧ hiC S S2)) := by
  refine Ctr.of (by decide) rfl rfl (Nat.le_of_ble_eq_true rfl) ?_
  intro κ hl hk hr
  subst hl
  obtain ⟨⟨hC, hW, hWt, h09, h010⟩, hSh⟩ := id hR
  obtain ⟨h15, n8, h62, n12, h132, m12⟩ := cl_n hC
  have i2 := hI.2.1
  have t31 : (S 44 6).toNat ≤ 31 := hI.1.1
  have e6 : S 1 3 = S 44 6 := by
    have : S 1 3 = ((S 44 6).toNat : Int) := hC.2.1.1.1
    omega
  refine G_iload_n hk dX10_want_0 rfl ?_
  refine G_cS1P hk dX10_want_1 msX10_isDrawer mlX10_116 (Nat.le_of_ble_eq_true rfl) (c_X10_isDrawer _ Γ (d + 0) _ _ ⟨by omega, by omega⟩) ?_
  refine G_bif_eq (tgt := 17) hk dX10_want_4 (by decide) (fun h_4 => ?_) (fun h_4 => ?_)
  · refine G_bipush hk dX10_want_17 (by decide) ?_
    exact G_iret hk hr dX10_want_19 (by rw [show q_want S w p = (_, S) by unfold q_want; (repeat' split) <;> first | rfl | (exfalso; omega)]; exact ⟨rfl, hR, hiC_0 S⟩)
  · refine G_iload_n hk dX10_want_7 rfl ?_
    refine G_iconst hk dX10_want_8 ?_
    refine G_bipush hk dX10_want_9 (by decide) ?_
    refine G_cS3P hk dX10_want_11 msX10_isWithin mlX10_81 (Nat.le_of_ble_eq_true rfl) (c_X10_isWithin _ Γ (d + 1) _ _ _ _ ⟨by omega, by omega⟩ ⟨by omega, by omega⟩ ⟨by omega, by omega⟩) ?_
    refine G_bif_ne (tgt := 20) hk dX10_want_14 (by decide) (fun h_14 => ?_) (fun h_14 => ?_)
    · refine G_rload_n hk dX10_want_20 rfl ?_
      refine G_getR hk dX10_want_21 flX10_49 (by decide) rfl rfl ?_
      refine G_iload_n hk dX10_want_24 rfl ?_
      refine G_iload_n hk dX10_want_25 rfl ?_
      refine G_cV2I hk dX10_want_26 mvX2_changeWant mlX10_142 (by decide) rfl rfl (Nat.le_of_ble_eq_true rfl) (c_X2_changeWant _ Γ (d + 1) _ _ _ ⟨by omega, by omega⟩) (fun r_26 S_26 hp_26 => ?_)
      exact G_iret hk hr dX10_want_29 (by
    have e : q_want S w p = (S 53 w.toNat, su S 53 w.toNat p) := by unfold q_want; rw [if_neg (by omega), if_neg (by omega)]
    have hI2 := inv_want hI w p
    rw [e] at hI2 ⊢
    obtain ⟨e1, e2⟩ := hp_26
    have g : ∀ c, c ≠ 24 → S_26 c = S c := fun c hc => by rw [e2, su_ne _ hc]
    refine ⟨by rw [e1]; exact hWt w.toNat (by omega), CR_mk hI2 (pe_keep hR rfl rfl (fun c a _ => g c (by omega))) (pi_keep hR rfl rfl (fun c a _ => g c (by omega))) (bu_keep hR rfl rfl (fun c a _ => g c (by omega))) (wi_keep hR rfl rfl (fun c a _ => g c (by omega))) ?_ (by rw [g 0 (by decide)]; exact hR.1.2.2.2.1) (by rw [g 0 (by decide)]; exact hR.1.2.2.2.2) (ShR_cong hR.2 (fun c a _ => g c (by omega)) rfl rfl rfl), fun c hc => g c (by omega)⟩
    intro k hk9
    show S_26 24 k = su S 53 w.toNat p 53 k
    rw [e2, su_row, su_row]
    split
    · rfl
    · exact hWt k hk9)
    · refine G_bipush hk dX10_want_17 (by decide) ?_
      exact G_iret hk hr dX10_want_19 (by rw [show q_want S w p = (_, S) by unfold q_want; (repeat' split) <;> first | rfl | (exfalso; omega)]; exact ⟨rfl, hR, hiC_0 S⟩)

theorem c_X10_forget (l : Launch) (Γ : Ev) (d : Nat) (S : Sx) (hR : CR S S) (hI : InvM S) : Ctr l Γ (d + 2) mX10_forget [rf Γ 0] S (pI (fun r S2 => r = (q_forget S).1 ∧ CR S2 (q_forget S).2 ∧ hiC S S2)) := by
  refine Ctr.of (by decide) rfl rfl (Nat.le_of_ble_eq_true rfl) ?_
  intro κ hl hk hr
  subst hl
  obtain ⟨⟨hC, hW, hWt, h09, h010⟩, hSh⟩ := id hR
  obtain ⟨h15, n8, h62, n12, h132, m12⟩ := cl_n hC
  have i2 := hI.2.1
  have t31 : (S 44 6).toNat ≤ 31 := hI.1.1
  have e6 : S 1 3 = S 44 6 := by
    have : S 1 3 = ((S 44 6).toNat : Int) := hC.2.1.1.1
    omega
  refine G_rload_n hk dX10_forget_0 rfl ?_
  refine G_getR hk dX10_forget_1 flX10_56 (by decide) rfl rfl ?_
  refine G_cV0P hk dX10_forget_4 mvX9_howMany mlX10_217 (by decide) rfl rfl (Nat.le_of_ble_eq_true rfl) (c_X9_howMany _ Γ (d + 0) _) ?_
  refine G_istore_n hk dX10_forget_7 (by decide) rfl ?_
  refine G_rload_n hk dX10_forget_8 rfl ?_
  refine G_getR hk dX10_forget_9 flX10_56 (by decide) rfl rfl ?_
  refine G_cV0V hk dX10_forget_12 mvX9_clear mlX10_218 (by decide) rfl rfl (Nat.le_of_ble_eq_true rfl) (c_X9_clear _ Γ (d + 0) _) (fun S_12 hp_12 => ?_)
  refine G_iload_n hk dX10_forget_15 rfl ?_
  exact G_iret hk hr dX10_forget_16 (by
    have hI2 := inv_forget hI
    have g : ∀ c, c ≠ 28 → S_12 c = S c := fun c hc => by rw [hp_12, su_ne _ hc]
    have e2 : S 28 2 = ((S 44 31).toNat : Int) := hW.1.1
    refine ⟨by show S 28 2 = S 44 31; omega, CR_mk hI2 (pe_keep hR rfl rfl (fun c a _ => g c (by omega))) (pi_keep hR rfl rfl (fun c a _ => g c (by omega))) (bu_keep hR rfl rfl (fun c a _ => g c (by omega))) ?_ (wa_keep hR rfl (g 24 (by decide))) (by rw [g 0 (by decide)]; exact hR.1.2.2.2.1) (by rw [g 0 (by decide)]; exact hR.1.2.2.2.2) (ShR_cong hR.2 (fun c a _ => g c (by omega)) rfl rfl rfl), fun c hc => g c (by omega)⟩
    show WiR S_12 ((0 : Int)).toNat (S 58)
    rw [hp_12]
    refine ⟨⟨by rw [su_at]; rfl, Nat.zero_le _, fun j hj => absurd hj (by simp), fun j hj => absurd hj (by simp), ?_⟩, fun j hj => absurd hj (by simp)⟩
    exact ⟨fun i hi => absurd hi (by simp), fun k hk => absurd hk (by simp), fun i j _ hj => absurd hj (by simp)⟩)
