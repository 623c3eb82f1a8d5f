/-! the class's calls that change something -/
theorem CR_mk {S2 T : Sx} (hI : InvM T) (pe : PeR S2 (T 44 6).toNat (T 49)) (pi : PiR S2 (T 44 10).toNat (T 51)) (bu : BuR S2 (T 44 12).toNat (T 52)) (wi : WiR S2 (T 44 31).toNat (T 58)) (wa : ∀ w, w < 4 → S2 24 w = T 53 w) (f : S2 0 9 = T 44 14) (lt : S2 0 10 = T 44 4) (sh : ShR S2 T) : CR S2 T := ⟨⟨⟨hI.1, pe, pi, bu⟩, wi, wa, f, lt⟩, sh⟩
theorem pe_keep {S S2 T : Sx} (h : CR S S) (e1 : T 44 6 = S 44 6) (e2 : T 49 = S 49) (f : ∀ c, 1 ≤ c → c ≤ 4 → S2 c = S c) : PeR S2 (T 44 6).toNat (T 49) := by
  rw [e1, e2]
  exact PeR_cong h.1.1.2.1 (f 1 (by decide) (by decide)) (f 2 (by decide) (by decide)) (f 3 (by decide) (by decide)) (f 4 (by decide) (by decide))
theorem pi_keep {S S2 T : Sx} (h : CR S S) (e1 : T 44 10 = S 44 10) (e2 : T 51 = S 51) (f : ∀ c, 6 ≤ c → c ≤ 11 → S2 c = S c) : PiR S2 (T 44 10).toNat (T 51) := by
  rw [e1, e2]
  exact PiR_cong h.1.1.2.2.1 f
theorem bu_keep {S S2 T : Sx} (h : CR S S) (e1 : T 44 12 = S 44 12) (e2 : T 52 = S 52) (f : ∀ c, 13 ≤ c → c ≤ 16 → S2 c = S c) : BuR S2 (T 44 12).toNat (T 52) := by
  rw [e1, e2]
  exact BuR_cong h.1.1.2.2.2 f
theorem wi_keep {S S2 T : Sx} (h : CR S S) (e1 : T 44 31 = S 44 31) (e2 : T 58 = S 58) (f : ∀ c, 28 ≤ c → c ≤ 32 → S2 c = S c) : WiR S2 (T 44 31).toNat (T 58) := by
  rw [e1, e2]
  exact WiR_cong h.1.2.1 f
theorem wa_keep {S S2 T : Sx} (h : CR S S) (e : T 53 = S 53) (f : S2 24 = S 24) : ∀ w, w < 4 → S2 24 w = T 53 w := by
  rw [e, f]
  exact h.1.2.2.1
theorem CR_find {S : Sx} (h : CR S S) (hI : InvM S) {f : Int} (hf : 0 ≤ f ∧ f ≤ 5) : CR (su S 0 10 f) (su S 44 4 f) ∧ hiC S (su S 0 10 f) := by
  have g : ∀ c, 1 ≤ c → su S 0 10 f c = S c := fun c hc => su_ne _ (by omega)
  refine ⟨CR_mk (inv_find hI hf) (pe_keep h rfl rfl (fun c a _ => g c a)) (pi_keep h rfl rfl (fun c a _ => g c (by omega))) (bu_keep h rfl rfl (fun c a _ => g c (by omega))) (wi_keep h rfl rfl (fun c a _ => g c (by omega))) (wa_keep h rfl (g 24 (by decide))) h.1.2.2.2.1 rfl (ShR_cong h.2 (fun c a _ => g c (by omega)) rfl rfl rfl), fun c hc => g c (by omega)⟩

theorem CR_pe {S S2 T : Sx} (hR : CR S S) (hI : InvM T) (pe : PeR S2 (T 44 6).toNat (T 49)) (f : frPe S S2) (e : ∀ c, 44 ≤ c → c ≠ 44 → c ≠ 49 → T c = S c) (e44 : ∀ k, k ≠ 6 → T 44 k = S 44 k) : CR S2 T ∧ hiC S S2 := by
  have g : ∀ c, c ≠ 1 → c ≠ 2 → c ≠ 3 → c ≠ 4 → S2 c = S c := f
  refine ⟨CR_mk hI pe (pi_keep hR (e44 10 (by decide)) (e 51 (by decide) (by decide) (by decide)) (fun c a _ => g c (by omega) (by omega) (by omega) (by omega))) (bu_keep hR (e44 12 (by decide)) (e 52 (by decide) (by decide) (by decide)) (fun c a _ => g c (by omega) (by omega) (by omega) (by omega))) (wi_keep hR (e44 31 (by decide)) (e 58 (by decide) (by decide) (by decide)) (fun c a _ => g c (by omega) (by omega) (by omega) (by omega))) (wa_keep hR (e 53 (by decide) (by decide) (by decide)) (g 24 (by decide) (by decide) (by decide) (by decide))) ?_ ?_ (ShR_cong hR.2 (fun c a _ => g c (by omega) (by omega) (by omega) (by omega)) (e 45 (by decide) (by decide) (by decide)) (e 46 (by decide) (by decide) (by decide)) (e 47 (by decide) (by decide) (by decide))), fun c hc => g c (by omega) (by omega) (by omega) (by omega)⟩
  · rw [g 0 (by decide) (by decide) (by decide) (by decide), e44 14 (by decide)]; exact hR.1.2.2.2.1
  · rw [g 0 (by decide) (by decide) (by decide) (by decide), e44 4 (by decide)]; exact hR.1.2.2.2.2
theorem CR_type {S S2 : Sx} (hR : CR S S) (hI : InvM S) {b : Int} (hb : 0 ≤ b ∧ b ≤ 255) (h31 : ¬ S 44 6 = 31) (pe : PeR S2 ((S 44 6).toNat + 1) (su S 49 (S 44 6).toNat b 49)) (f : frPe S S2) : S2 1 3 = (q_type S b).1 ∧ CR S2 (q_type S b).2 ∧ hiC S S2 := by
  have e : q_type S b = (S 44 6 + 1, su (su S 49 (S 44 6).toNat b) 44 6 (S 44 6 + 1)) := by unfold q_type; rw [if_neg (fun q => q hb), if_neg h31]
  have hI2 := inv_type hI b
  have i2 := hI.2.1
  rw [e] at hI2 ⊢
  refine ⟨?_, CR_pe hR hI2 ?_ f ?_ ?_⟩
  · have : S2 1 3 = (((S 44 6).toNat + 1 : Nat) : Int) := pe.1.1
    show S2 1 3 = S 44 6 + 1
    omega
  · show PeR S2 (su (su S 49 (S 44 6).toNat b) 44 6 (S 44 6 + 1) 44 6).toNat (su (su S 49 (S 44 6).toNat b) 44 6 (S 44 6 + 1) 49)
    rw [su_at, su_ne _ (by decide), show (S 44 6 + 1).toNat = (S 44 6).toNat + 1 by omega]
    exact pe
  · intro c _ a b
    show su (su S 49 (S 44 6).toNat _) 44 6 (S 44 6 + 1) c = S c
    rw [su_ne _ a, su_ne _ b]
  · intro k a
    show su (su S 49 (S 44 6).toNat b) 44 6 (S 44 6 + 1) 44 k = S 44 k
    rw [su_nk _ _ _ a, su_ne _ (by decide)]
theorem CR_cut {S S2 : Sx} (hR : CR S S) {z : Int} (hI : InvM (su S 44 6 z)) (pe : PeR S2 z.toNat (S 49)) (f : frPe S S2) : CR S2 (su S 44 6 z) ∧ hiC S S2 := by
  refine CR_pe hR hI ?_ f ?_ ?_
  · rw [su_at, su_ne _ (by decide)]
    exact pe
  · intro c _ a _
    exact su_ne _ a
  · intro k a
    exact su_nk _ _ _ a

theorem c_X4_cutNo (l : Launch) (Γ : Ev) (d : Nat) (S : Sx) (h : S 1 3 = 0) : Ctr l Γ d mX4_cutTo [rf Γ 1, vI 0] S (pV (fun S2 => S2 = S)) := by
  refine Ctr.of (by decide) rfl rfl (Nat.le_of_ble_eq_true rfl) ?_
  intro κ hl hk hr
  subst hl
  refine G_iload_n hk dX4_cutTo_0 rfl ?_
  refine G_if_lt (tgt := 21) hk dX4_cutTo_1 (by decide) ⟨by omega, by omega⟩ (fun h_1 => ?_) (fun h_1 => ?_)
  · exact absurd h_1 (by omega)--stop
  · refine G_iload_n hk dX4_cutTo_4 rfl ?_
    refine G_rload_n hk dX4_cutTo_5 rfl ?_
    refine G_getI hk dX4_cutTo_6 flX4_25 (by decide) rfl rfl ?_
    refine G_icmp_ge (tgt := 21) hk dX4_cutTo_9 (by decide) ⟨by omega, by omega⟩ ⟨by omega, by omega⟩ (fun h_9 => ?_) (fun h_9 => ?_)
    · exact G_vret hk hr dX4_cutTo_21 rfl
    · exact absurd h_9 (by omega)--stop

theorem c_cutZ {l : Launch} {Γ : Ev} (d : Nat) {S : Sx} {n : Nat} {t : Nat → Int} (hP : PeR S n t) : Ctr l Γ (d + 3) mX4_cutTo [rf Γ 1, vI 0] S (pV (fun S2 => PeR S2 0 t ∧ frPe S S2)) := by
  by_cases e : n = 0
  · refine Ctr_mono (c_X4_cutNo l Γ (d + 3) S (by have := hP.1.1; omega)) ?_
    rintro v S2 ⟨rfl, h⟩
    subst h
    subst e
    exact ⟨rfl, hP, fun _ _ _ _ _ => rfl⟩
  · exact c_X4_cutTo l Γ d S n t hP.1 0 (by omega)

theorem c_X10_type (l : Launch) (Γ : Ev) (d : Nat) (S : Sx) (hR : CR S S) (hI : InvM S) (b : Int) (h_b : R32 b) : Ctr l Γ (d + 4) mX10_type [rf Γ 0, vI b] S (pI (fun r S2 => r = (q_type S b).1 ∧ CR S2 (q_type S b).2 ∧ hiC S S2)) := by
  refine Ctr.of (by decide) rfl rfl (Nat.le_of_ble_eq_true rfl) ?_
  intro κ hl hk hr
  subst hl
  obtain ⟨⟨hC, hW, hWt, h09, h010⟩, hSh⟩ := id hR
  obtain ⟨h15, n8, h62, n12, h132, m12⟩ := cl_n hC
  have i2 := hI.2.1
  have t31 : (S 44 6).toNat ≤ 31 := hI.1.1
  have e6 : S 1 3 = S 44 6 := by
    have : S 1 3 = ((S 44 6).toNat : Int) := hC.2.1.1.1
    omega
  refine G_iload_n hk dX10_type_0 rfl ?_
  refine G_iconst hk dX10_type_1 ?_
  refine G_sipush hk dX10_type_2 (by decide) ?_
  refine G_cS3P hk dX10_type_5 msX10_isWithin mlX10_81 (Nat.le_of_ble_eq_true rfl) (c_X10_isWithin _ Γ (d + 3) _ _ _ _ ⟨by omega, by omega⟩ ⟨by omega, by omega⟩ ⟨by omega, by omega⟩) ?_
  refine G_bif_ne (tgt := 14) hk dX10_type_8 (by decide) (fun h_8 => ?_) (fun h_8 => ?_)
  · refine G_rload_n hk dX10_type_14 rfl ?_
    refine G_getR hk dX10_type_15 flX10_10 (by decide) rfl rfl ?_
    refine G_cV0P hk dX10_type_18 mvX4_length mlX10_85 (by decide) rfl rfl (Nat.le_of_ble_eq_true rfl) (c_X4_length _ Γ (d + 3) _) ?_
    rw [e6]
    refine G_bipush hk dX10_type_21 (by decide) ?_
    refine G_icmp_lt (tgt := 29) hk dX10_type_23 (by decide) ⟨by omega, by omega⟩ ⟨by omega, by omega⟩ (fun h_23 => ?_) (fun h_23 => ?_)
    · refine G_rload_n hk dX10_type_29 rfl ?_
      refine G_getR hk dX10_type_30 flX10_10 (by decide) rfl rfl ?_
      refine G_iload_n hk dX10_type_33 rfl ?_
      refine G_cV1V hk dX10_type_34 mvX4_append mlX10_89 (by decide) rfl rfl (Nat.le_of_ble_eq_true rfl) (c_X4_append _ Γ (d + 0) _ (S 44 6).toNat (S 49) (su S 49 (S 44 6).toNat b 49) hC.2.1.1 (by omega) b ⟨by omega, by omega⟩ (fun j hj => su_nk _ _ _ (by omega)) (su_at _ _ _ _)) (fun S_34 hp_34 => ?_)
      refine G_rload_n hk dX10_type_37 rfl ?_
      refine G_getR hk dX10_type_38 flX10_10 (by decide) rfl rfl ?_
      refine G_cV0P hk dX10_type_41 mvX4_length mlX10_85 (by decide) rfl rfl (Nat.le_of_ble_eq_true rfl) (c_X4_length _ Γ (d + 3) _) ?_
      exact G_iret hk hr dX10_type_44 (CR_type hR hI h_8 (by omega) hp_34.1 hp_34.2)
    · refine G_bipush hk dX10_type_26 (by decide) ?_
      exact G_iret hk hr dX10_type_28 (by rw [show q_type S b = (_, S) by unfold q_type; rw [if_neg (fun q => q h_8), if_pos (by omega)]]; exact ⟨rfl, hR, hiC_0 S⟩)
  · refine G_bipush hk dX10_type_11 (by decide) ?_
    exact G_iret hk hr dX10_type_13 (by rw [show q_type S b = (_, S) by unfold q_type; rw [if_pos h_8]]; exact ⟨rfl, hR, hiC_0 S⟩)

theorem c_X10_wipe (l : Launch) (Γ : Ev) (d : Nat) (S : Sx) (hR : CR S S) (hI : InvM S) : Ctr l Γ (d + 4) mX10_wipe [rf Γ 0] S (pI (fun r S2 => r = (q_wipe S).1 ∧ CR S2 (q_wipe S).2 ∧ hiC S S2)) := by
  refine Ctr.of (by decide) rfl rfl (Nat.le_of_ble_eq_true rfl) ?_
  intro κ hl hk hr
  subst hl
  obtain ⟨⟨hC, hW, hWt, h09, h010⟩, hSh⟩ := id hR
  obtain ⟨h15, n8, h62, n12, h132, m12⟩ := cl_n hC
  have i2 := hI.2.1
  have t31 : (S 44 6).toNat ≤ 31 := hI.1.1
  have e6 : S 1 3 = S 44 6 := by
    have : S 1 3 = ((S 44 6).toNat : Int) := hC.2.1.1.1
    omega
  refine G_rload_n hk dX10_wipe_0 rfl ?_
  refine G_getR hk dX10_wipe_1 flX10_10 (by decide) rfl rfl ?_
  refine G_cV0P hk dX10_wipe_4 mvX4_length mlX10_85 (by decide) rfl rfl (Nat.le_of_ble_eq_true rfl) (c_X4_length _ Γ (d + 3) _) ?_
  rw [e6]
  refine G_istore_n hk dX10_wipe_7 (by decide) rfl ?_
  refine G_rload_n hk dX10_wipe_8 rfl ?_
  refine G_getR hk dX10_wipe_9 flX10_10 (by decide) rfl rfl ?_
  refine G_iconst hk dX10_wipe_12 ?_
  refine G_cV1V hk dX10_wipe_13 mvX4_cutTo mlX10_93 (by decide) rfl rfl (Nat.le_of_ble_eq_true rfl) (c_cutZ (d + 0) hC.2.1) (fun S_13 hp_13 => ?_)
  refine G_iload_n hk dX10_wipe_16 rfl ?_
  exact G_iret hk hr dX10_wipe_17 ⟨rfl, CR_cut hR (inv_wipe hI) hp_13.1 hp_13.2⟩

theorem c_X10_undo (l : Launch) (Γ : Ev) (d : Nat) (S : Sx) (hR : CR S S) (hI : InvM S) : Ctr l Γ (d + 4) mX10_undo [rf Γ 0] S (pI (fun r S2 => r = (q_undo S).1 ∧ CR S2 (q_undo S).2 ∧ hiC S S2)) := by
  refine Ctr.of (by decide) rfl rfl (Nat.le_of_ble_eq_true rfl) ?_
  intro κ hl hk hr
  subst hl
  obtain ⟨⟨hC, hW, hWt, h09, h010⟩, hSh⟩ := id hR
  obtain ⟨h15, n8, h62, n12, h132, m12⟩ := cl_n hC
  have i2 := hI.2.1
  have t31 : (S 44 6).toNat ≤ 31 := hI.1.1
  have e6 : S 1 3 = S 44 6 := by
    have : S 1 3 = ((S 44 6).toNat : Int) := hC.2.1.1.1
    omega
  refine G_rload_n hk dX10_undo_0 rfl ?_
  refine G_getR hk dX10_undo_1 flX10_10 (by decide) rfl rfl ?_
  refine G_cV0P hk dX10_undo_4 mvX4_length mlX10_85 (by decide) rfl rfl (Nat.le_of_ble_eq_true rfl) (c_X4_length _ Γ (d + 3) _) ?_
  rw [e6]
  refine G_if_ne (tgt := 13) hk dX10_undo_7 (by decide) ⟨by omega, by omega⟩ (fun h_7 => ?_) (fun h_7 => ?_)
  · refine G_rload_n hk dX10_undo_13 rfl ?_
    refine G_getR hk dX10_undo_14 flX10_10 (by decide) rfl rfl ?_
    refine G_rload_n hk dX10_undo_17 rfl ?_
    refine G_getR hk dX10_undo_18 flX10_10 (by decide) rfl rfl ?_
    refine G_cV0P hk dX10_undo_21 mvX4_length mlX10_85 (by decide) rfl rfl (Nat.le_of_ble_eq_true rfl) (c_X4_length _ Γ (d + 3) _) ?_
    rw [e6]
    refine G_iconst hk dX10_undo_24 ?_
    refine G_isub hk dX10_undo_25 ?_
    rw [show S 44 6 - 1 = (((S 44 6).toNat - 1 : Nat) : Int) by omega]
    refine G_cV1V hk dX10_undo_26 mvX4_cutTo mlX10_93 (by decide) rfl rfl (Nat.le_of_ble_eq_true rfl) (c_X4_cutTo _ Γ (d + 0) _ (S 44 6).toNat (S 49) hC.2.1.1 ((S 44 6).toNat - 1) (by omega)) (fun S_26 hp_26 => ?_)
    refine G_rload_n hk dX10_undo_29 rfl ?_
    refine G_getR hk dX10_undo_30 flX10_10 (by decide) rfl rfl ?_
    refine G_cV0P hk dX10_undo_33 mvX4_length mlX10_85 (by decide) rfl rfl (Nat.le_of_ble_eq_true rfl) (c_X4_length _ Γ (d + 3) _) ?_
    exact G_iret hk hr dX10_undo_36 (by
    have e : q_undo S = (S 44 6 - 1, su S 44 6 (S 44 6 - 1)) := by unfold q_undo; rw [if_neg h_7]
    have hI2 := inv_undo hI
    rw [e] at hI2 ⊢
    have l3 : S_26 1 3 = (((S 44 6).toNat - 1 : Nat) : Int) := hp_26.1.1.1
    refine ⟨?_, CR_cut hR hI2 (by rw [show (S 44 6 - 1).toNat = (S 44 6).toNat - 1 by omega]; exact hp_26.1) hp_26.2⟩
    show S_26 1 3 = S 44 6 - 1
    omega)
  · refine G_bipush hk dX10_undo_10 (by decide) ?_
    exact G_iret hk hr dX10_undo_12 (by rw [show q_undo S = (_, S) by unfold q_undo; rw [if_pos h_7]]; exact ⟨rfl, hR, hiC_0 S⟩)

theorem CR_picture {S S2 : Sx} (hR : CR S S) (hI : InvM S) {y p z w : Int} (h0 : 0 ≤ y ∧ y ≤ 29) (h1 : 0 ≤ p ∧ p ≤ 7) (h2 : 1 ≤ z ∧ z ≤ 9) (h3 : 0 ≤ w ∧ w ≤ 3) (hf9 : ¬ S 44 10 = 12) (f : ∀ c, (c < 6 ∨ 11 < c) → S2 c = S c) (pr : PiR S2 ((S 44 10).toNat + 1) ((su (su (su (su S 51 (4 * S 44 10).toNat y) 51 (4 * S 44 10 + 1).toNat p) 51 (4 * S 44 10 + 2).toNat z) 51 (4 * S 44 10 + 3).toNat w) 51)) : S2 6 2 = (q_picture S y p z w).1 ∧ CR S2 (q_picture S y p z w).2 ∧ hiC S S2 := by
  have e : q_picture S y p z w = (S 44 10 + 1, su (su (su (su (su S 51 (4 * S 44 10).toNat y) 51 (4 * S 44 10 + 1).toNat p) 51 (4 * S 44 10 + 2).toNat z) 51 (4 * S 44 10 + 3).toNat w) 44 10 (S 44 10 + 1)) := by unfold q_picture; rw [if_neg (fun q => q h0), if_neg (fun q => q h1), if_neg (fun q => q h2), if_neg (fun q => q h3), if_neg hf9]
  have hI2 := inv_picture hI y p z w
  have i2 := hI.2.1
  rw [e] at hI2 ⊢
  refine ⟨?_, CR_mk hI2 (pe_keep hR rfl rfl (fun c a b => f c (by omega))) ?_ (bu_keep hR rfl rfl (fun c a b => f c (by omega))) (wi_keep hR rfl rfl (fun c a b => f c (by omega))) (wa_keep hR rfl (f 24 (by omega))) (by rw [f 0 (by omega)]; exact hR.1.2.2.2.1) (by rw [f 0 (by omega)]; exact hR.1.2.2.2.2) (ShR_cong hR.2 (fun c a b => f c (by omega)) rfl rfl rfl), fun c hc => f c (by omega)⟩
  · have g : S2 6 2 = (((S 44 10).toNat + 1 : Nat) : Int) := pr.1.1
    show S2 6 2 = S 44 10 + 1
    omega
  · show PiR S2 (su (su (su (su (su S 51 (4 * S 44 10).toNat y) 51 (4 * S 44 10 + 1).toNat p) 51 (4 * S 44 10 + 2).toNat z) 51 (4 * S 44 10 + 3).toNat w) 44 10 (S 44 10 + 1) 44 10).toNat (su (su (su (su (su S 51 (4 * S 44 10).toNat y) 51 (4 * S 44 10 + 1).toNat p) 51 (4 * S 44 10 + 2).toNat z) 51 (4 * S 44 10 + 3).toNat w) 44 10 (S 44 10 + 1) 51)
    rw [su_at, su_ne _ (by decide), show (S 44 10 + 1).toNat = (S 44 10).toNat + 1 by omega]
    exact pr

theorem c_adX5 {l : Launch} {Γ : Ev} (d : Nat) {S : Sx} (hR : CR S S) (hI : InvM S) {y p z w : Int} (hy : 0 ≤ y ∧ y ≤ 29) : Ctr l Γ (d + 2) mX5_add [rf Γ 5, vI y, vI p, vI z, vI w] S (pI (fun r S2 => (r = 0 ∧ S 44 10 = 12 ∧ S2 = S) ∨ (r = 1 ∧ ¬ S 44 10 = 12 ∧ (∀ c, (c < 6 ∨ 11 < c) → S2 c = S c) ∧ PiR S2 ((S 44 10).toNat + 1) ((su (su (su (su S 51 (4 * S 44 10).toNat y) 51 (4 * S 44 10 + 1).toNat p) 51 (4 * S 44 10 + 2).toNat z) 51 (4 * S 44 10 + 3).toNat w) 51)))) := by
  have i2 := hI.2.1
  have pr := hR.1.1.2.2.1
  have e2 : S 6 2 = ((S 44 10).toNat : Int) := pr.1.1
  have e3 : (S 44 10).toNat ≤ 12 := pr.1.2.1
  by_cases e : S 44 10 = 12
  · refine Ctr_mono (c_X5_add0 l Γ d S y p z w (by omega)) ?_
    rintro v S2 ⟨r, rfl, rfl, rfl⟩
    exact ⟨0, rfl, Or.inl ⟨rfl, e, rfl⟩⟩
  · refine Ctr_mono (c_X5_add1 l Γ d S (S 44 10).toNat (S 51) ((su (su (su (su S 51 (4 * S 44 10).toNat y) 51 (4 * S 44 10 + 1).toNat p) 51 (4 * S 44 10 + 2).toNat z) 51 (4 * S 44 10 + 3).toNat w) 51) pr (by omega) y p z w hy (fun j hj => ?_) ?_ ?_ ?_ ?_) ?_
    · rw [su_row, su_row, su_row, su_row, if_neg (by omega), if_neg (by omega), if_neg (by omega), if_neg (by omega)]
    · rw [su_row, su_row, su_row, su_row, if_neg (by omega), if_neg (by omega), if_neg (by omega), if_pos (by omega)]
    · rw [su_row, su_row, su_row, su_row, if_neg (by omega), if_neg (by omega), if_pos (by omega)]
    · rw [su_row, su_row, su_row, su_row, if_neg (by omega), if_pos (by omega)]
    · rw [su_row, su_row, su_row, su_row, if_pos (by omega)]
    · rintro v S2 ⟨r, rfl, g1, g2, g3⟩
      exact ⟨r, rfl, Or.inr ⟨g1, e, fun c hc => g3 c (by omega) (by omega) (by omega) (by omega) (by omega) (by omega), g2⟩⟩

theorem CR_burn {S S2 : Sx} (hR : CR S S) (hI : InvM S) {y p : Int} (h0 : 0 ≤ y ∧ y ≤ 29) (h1 : 0 ≤ p ∧ p ≤ 11) (hf9 : ¬ S 44 12 = 12) (f : ∀ c, (c < 13 ∨ 16 < c) → S2 c = S c) (pr : BuR S2 ((S 44 12).toNat + 1) ((su (su S 52 (2 * S 44 12).toNat y) 52 (2 * S 44 12 + 1).toNat p) 52)) : S2 13 2 = (q_burn S y p).1 ∧ CR S2 (q_burn S y p).2 ∧ hiC S S2 := by
  have e : q_burn S y p = (S 44 12 + 1, su (su (su S 52 (2 * S 44 12).toNat y) 52 (2 * S 44 12 + 1).toNat p) 44 12 (S 44 12 + 1)) := by unfold q_burn; rw [if_neg (fun q => q h0), if_neg (fun q => q h1), if_neg hf9]
  have hI2 := inv_burn hI y p
  have i2 := hI.2.1
  rw [e] at hI2 ⊢
  refine ⟨?_, CR_mk hI2 (pe_keep hR rfl rfl (fun c a b => f c (by omega))) (pi_keep hR rfl rfl (fun c a b => f c (by omega))) ?_ (wi_keep hR rfl rfl (fun c a b => f c (by omega))) (wa_keep hR rfl (f 24 (by omega))) (by rw [f 0 (by omega)]; exact hR.1.2.2.2.1) (by rw [f 0 (by omega)]; exact hR.1.2.2.2.2) (ShR_cong hR.2 (fun c a b => f c (by omega)) rfl rfl rfl), fun c hc => f c (by omega)⟩
  · have g : S2 13 2 = (((S 44 12).toNat + 1 : Nat) : Int) := pr.1.1
    show S2 13 2 = S 44 12 + 1
    omega
  · show BuR S2 (su (su (su S 52 (2 * S 44 12).toNat y) 52 (2 * S 44 12 + 1).toNat p) 44 12 (S 44 12 + 1) 44 12).toNat (su (su (su S 52 (2 * S 44 12).toNat y) 52 (2 * S 44 12 + 1).toNat p) 44 12 (S 44 12 + 1) 52)
    rw [su_at, su_ne _ (by decide), show (S 44 12 + 1).toNat = (S 44 12).toNat + 1 by omega]
    exact pr

theorem c_adX0 {l : Launch} {Γ : Ev} (d : Nat) {S : Sx} (hR : CR S S) (hI : InvM S) {y p : Int} (hy : 0 ≤ y ∧ y ≤ 29) : Ctr l Γ (d + 2) mX0_add [rf Γ 12, vI y, vI p] S (pI (fun r S2 => (r = 0 ∧ S 44 12 = 12 ∧ S2 = S) ∨ (r = 1 ∧ ¬ S 44 12 = 12 ∧ (∀ c, (c < 13 ∨ 16 < c) → S2 c = S c) ∧ BuR S2 ((S 44 12).toNat + 1) ((su (su S 52 (2 * S 44 12).toNat y) 52 (2 * S 44 12 + 1).toNat p) 52)))) := by
  have i2 := hI.2.1
  have pr := hR.1.1.2.2.2
  have e2 : S 13 2 = ((S 44 12).toNat : Int) := pr.1.1
  have e3 : (S 44 12).toNat ≤ 12 := pr.1.2.1
  by_cases e : S 44 12 = 12
  · refine Ctr_mono (c_X0_add0 l Γ d S y p (by omega)) ?_
    rintro v S2 ⟨r, rfl, rfl, rfl⟩
    exact ⟨0, rfl, Or.inl ⟨rfl, e, rfl⟩⟩
  · refine Ctr_mono (c_X0_add1 l Γ d S (S 44 12).toNat (S 52) ((su (su S 52 (2 * S 44 12).toNat y) 52 (2 * S 44 12 + 1).toNat p) 52) pr (by omega) y p hy (fun j hj => ?_) ?_ ?_) ?_
    · rw [su_row, su_row, if_neg (by omega), if_neg (by omega)]
    · rw [su_row, su_row, if_neg (by omega), if_pos (by omega)]
    · rw [su_row, su_row, if_pos (by omega)]
    · rintro v S2 ⟨r, rfl, g1, g2, g3⟩
      exact ⟨r, rfl, Or.inr ⟨g1, e, fun c hc => g3 c (by omega) (by omega) (by omega) (by omega), g2⟩⟩

theorem CR_seen {S S2 : Sx} (hR : CR S S) (hI : InvM S) {y p v : Int} (h0 : 0 ≤ y ∧ y ≤ 29) (h1 : 0 ≤ p ∧ p ≤ 7) (h2 : 0 ≤ v ∧ v ≤ 99) (hf9 : ¬ S 44 31 = 8) (f : ∀ c, (c < 28 ∨ 32 < c) → S2 c = S c) (pr : WiR S2 ((S 44 31).toNat + 1) ((su (su (su S 58 (3 * S 44 31).toNat y) 58 (3 * S 44 31 + 1).toNat p) 58 (3 * S 44 31 + 2).toNat v) 58)) : S2 28 2 = (q_seen S y p v).1 ∧ CR S2 (q_seen S y p v).2 ∧ hiC S S2 := by
  have e : q_seen S y p v = (S 44 31 + 1, su (su (su (su S 58 (3 * S 44 31).toNat y) 58 (3 * S 44 31 + 1).toNat p) 58 (3 * S 44 31 + 2).toNat v) 44 31 (S 44 31 + 1)) := by unfold q_seen; rw [if_neg (fun q => q h0), if_neg (fun q => q h1), if_neg (fun q => q h2), if_neg hf9]
  have hI2 := inv_seen hI y p v
  have i2 := hI.2.1
  rw [e] at hI2 ⊢
  refine ⟨?_, CR_mk hI2 (pe_keep hR rfl rfl (fun c a b => f c (by omega))) (pi_keep hR rfl rfl (fun c a b => f c (by omega))) (bu_keep hR rfl rfl (fun c a b => f c (by omega))) ?_ (wa_keep hR rfl (f 24 (by omega))) (by rw [f 0 (by omega)]; exact hR.1.2.2.2.1) (by rw [f 0 (by omega)]; exact hR.1.2.2.2.2) (ShR_cong hR.2 (fun c a b => f c (by omega)) rfl rfl rfl), fun c hc => f c (by omega)⟩
  · have g : S2 28 2 = (((S 44 31).toNat + 1 : Nat) : Int) := pr.1.1
    show S2 28 2 = S 44 31 + 1
    omega
  · show WiR S2 (su (su (su (su S 58 (3 * S 44 31).toNat y) 58 (3 * S 44 31 + 1).toNat p) 58 (3 * S 44 31 + 2).toNat v) 44 31 (S 44 31 + 1) 44 31).toNat (su (su (su (su S 58 (3 * S 44 31).toNat y) 58 (3 * S 44 31 + 1).toNat p) 58 (3 * S 44 31 + 2).toNat v) 44 31 (S 44 31 + 1) 58)
    rw [su_at, su_ne _ (by decide), show (S 44 31 + 1).toNat = (S 44 31).toNat + 1 by omega]
    exact pr

theorem c_adX9 {l : Launch} {Γ : Ev} (d : Nat) {S : Sx} (hR : CR S S) (hI : InvM S) {y p v : Int} (hy : 0 ≤ y ∧ y ≤ 29) : Ctr l Γ (d + 2) mX9_add [rf Γ 27, vI y, vI p, vI v] S (pI (fun r S2 => (r = 0 ∧ S 44 31 = 8 ∧ S2 = S) ∨ (r = 1 ∧ ¬ S 44 31 = 8 ∧ (∀ c, (c < 28 ∨ 32 < c) → S2 c = S c) ∧ WiR S2 ((S 44 31).toNat + 1) ((su (su (su S 58 (3 * S 44 31).toNat y) 58 (3 * S 44 31 + 1).toNat p) 58 (3 * S 44 31 + 2).toNat v) 58)))) := by
  have i2 := hI.2.1
  have pr := hR.1.2.1
  have e2 : S 28 2 = ((S 44 31).toNat : Int) := pr.1.1
  have e3 : (S 44 31).toNat ≤ 8 := pr.1.2.1
  by_cases e : S 44 31 = 8
  · refine Ctr_mono (c_X9_add0 l Γ d S y p v (by omega)) ?_
    rintro v S2 ⟨r, rfl, rfl, rfl⟩
    exact ⟨0, rfl, Or.inl ⟨rfl, e, rfl⟩⟩
  · refine Ctr_mono (c_X9_add1 l Γ d S (S 44 31).toNat (S 58) ((su (su (su S 58 (3 * S 44 31).toNat y) 58 (3 * S 44 31 + 1).toNat p) 58 (3 * S 44 31 + 2).toNat v) 58) pr (by omega) y p v hy (fun j hj => ?_) ?_ ?_ ?_) ?_
    · rw [su_row, su_row, su_row, if_neg (by omega), if_neg (by omega), if_neg (by omega)]
    · rw [su_row, su_row, su_row, if_neg (by omega), if_neg (by omega), if_pos (by omega)]
    · rw [su_row, su_row, su_row, if_neg (by omega), if_pos (by omega)]
    · rw [su_row, su_row, su_row, if_pos (by omega)]
    · rintro v S2 ⟨r, rfl, g1, g2, g3⟩
      exact ⟨r, rfl, Or.inr ⟨g1, e, fun c hc => g3 c (by omega) (by omega) (by omega) (by omega) (by omega), g2⟩⟩
