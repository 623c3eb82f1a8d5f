def frB (S S2 : Sx) : Prop := frC S S2 ∧ ∀ k, k ≠ 7 → S2 17 k = S 17 k
theorem frB_0 (S : Sx) : frB S S := ⟨fun _ _ _ _ _ => rfl, fun _ _ => rfl⟩
theorem gvT_fr {S : Sx} {p m : Int} {c : Nat} (h : c ≠ 18) : gvT S p m c = S c := by
  unfold gvT
  split
  · exact su_ne _ h
  · rfl
theorem CrS_bur {N : Nat} {X : Sim} {S : Sx} {tw : Nat → Int} {p k : Nat} {q : Int} {T2 T4 : Sx} (hq : q = (p : Int)) (h : CrS N X S) (h15 : S 1 5 = (N : Int)) (hp : p < N) (hk : k < 12) (hw : TwOk N tw) (hb : X.2.2 k = 1)
    (e2 : T2 = gvT (su S 17 7 (zor (S 17 7) (1 * 2 ^ ((k : Int)).toNat))) q (S 19 k)) (e4 : T4 = gvT T2 (tw p) (S 20 k)) : CrS N (bur tw p k X) T4 ∧ frB S T4 := by
  subst hq
  obtain ⟨h1, h2, h3, h4⟩ := h
  have a := h2 k hk
  rw [a.1] at e2
  rw [a.2] at e4
  have c2 : ∀ c, c ≠ 18 → T2 c = su S 17 7 (zor (S 17 7) (1 * 2 ^ ((k : Int)).toNat)) c := fun c b => by rw [e2, gvT_fr b]
  have c4 : ∀ c, c ≠ 18 → T4 c = su S 17 7 (zor (S 17 7) (1 * 2 ^ ((k : Int)).toNat)) c := fun c b => by rw [e4, gvT_fr b, c2 c b]
  have r18 : ∀ j, j < N → T2 18 j = if j = p then X.1 p + X.2.1 (2 * k) else X.1 j := fun j hj => by
    rw [e2]
    unfold gvT
    rw [if_pos ⟨by omega, by rw [su_ne _ (by decide), h15]; omega⟩, su_row, su_ne _ (by decide : (18 : Nat) ≠ 17), show ((p : Int)).toNat = p from rfl, h1 p hp, h1 j hj]
  have n7 : zor (S 17 7) (1 * 2 ^ ((k : Int)).toNat) = (bsm (fun j => decide ((bur tw p k X).2.2 j = 2)) 12 : Int) := by
    rw [h4, bsm_or _ (by decide) hk]
    congr 1
    apply bsm_cong
    intro j _
    simp only [bur, upf]
    by_cases e : j = k
    · simp [e]
    · simp [e]
  have n6 : S 17 6 = (bsm (fun j => decide ((bur tw p k X).2.2 j ≠ 0)) 12 : Int) := by
    rw [h3]
    congr 1
    apply bsm_cong
    intro j _
    simp only [bur, upf]
    by_cases e : j = k
    · subst e; simp [hb]
    · simp [e]
  refine ⟨⟨?_, ?_, ?_, ?_⟩, ?_, ?_⟩
  · intro j hj
    rw [e4]
    show _ = sBu tw p (X.2.1 (2 * k)) (X.2.1 (2 * k + 1)) X.1 j
    unfold sBu
    rcases hw p hp with t | ⟨t1, t2, t3⟩
    · unfold gvT
      rw [if_neg (by omega), r18 j hj, if_neg (show ¬ tw p = (j : Int) by omega)]
      by_cases e : j = p
      · rw [if_pos e, if_pos e, e]
      · rw [if_neg e, if_neg e]
    · have tp : (tw p).toNat < N := by omega
      have g := r18 (tw p).toNat tp
      rw [if_neg (by omega)] at g
      unfold gvT
      rw [if_pos ⟨t1, by rw [c2 1 (by decide), su_ne _ (by decide), h15]; exact t2⟩, su_row, g, r18 j hj]
      by_cases e : j = (tw p).toNat
      · rw [if_pos e, if_pos (show tw p = (j : Int) by omega), ← e]
      · rw [if_neg e, if_neg (show ¬ tw p = (j : Int) by omega)]
        by_cases e5 : j = p
        · rw [if_pos e5, if_pos e5, e5]
        · rw [if_neg e5, if_neg e5]
  · intro j hj
    rw [c4 19 (by decide), c4 20 (by decide), su_ne _ (by decide), su_ne _ (by decide)]
    exact h2 j hj
  · rw [c4 17 (by decide), su_nk _ _ _ (by decide)]; exact n6
  · rw [c4 17 (by decide), su_at]; exact n7
  · intro c a b _ _
    rw [c4 c b, su_ne _ a]
  · intro j hj
    rw [c4 17 (by decide), su_nk _ _ _ hj]

theorem c_X3_burnPicture (l : Launch) (Γ : Ev) (d : Nat) (S : Sx) (A : Av) (hC : ClE S A) (X : Sim) (hX : CrS (aN A) X S) (hst : ∀ k, k < 12 → 0 ≤ X.2.2 k ∧ X.2.2 k ≤ 2 ∧ (X.2.2 k ≠ 0 → 0 ≤ aP A (4 * k + 1) ∧ aP A (4 * k + 1) ≤ (aN A : Int) - 1)) (v : Int) (k : Nat) (hv : v = (k : Int)) (hk9 : k < 12) (hnp : X.2.2 k = 1 → k < anp A) : Ctr l Γ (d + 2) mX3_burnPicture [rf Γ 17, vI v] S (pV (fun S2 => CrS (aN A) (if X.2.2 k = 1 then bur (aTw A) (aP A (4 * k + 1)).toNat k X else X) S2 ∧ frB S S2)) := by
  refine Ctr.of (by decide) rfl rfl (Nat.le_of_ble_eq_true rfl) ?_
  intro κ hl hk hr
  subst hl
  subst hv
  obtain ⟨h15, n8, h62, n12, -, -⟩ := cl_n hC
  have hs := hst k hk9
  refine G_rload_n hk dX3_burnPicture_0 rfl ?_
  refine G_iload_n hk dX3_burnPicture_1 rfl ?_
  refine G_cV1P hk dX3_burnPicture_2 mvX3_isThere mlX3_134 (by decide) rfl rfl (Nat.le_of_ble_eq_true rfl) (c_X3_isThere _ Γ (d + 0) _ _ X hX (fun k hk => ⟨(hst k hk).1, (hst k hk).2.1⟩) _ ⟨by omega, by omega⟩) ?_
  refine G_bif_ne (tgt := 9) hk dX3_burnPicture_5 (by decide) (fun h_5 => ?_) (fun h_5 => ?_)
  · have h1k : X.2.2 k = 1 := h_5.2.2
    have h1n := hnp h1k
    have hpp := hs.2.2 (by omega)
    refine G_rload_n hk dX3_burnPicture_9 rfl ?_
    refine G_getR hk dX3_burnPicture_10 flX3_29 (by decide) rfl rfl ?_
    refine G_iload_n hk dX3_burnPicture_13 rfl ?_
    refine G_cV1P hk dX3_burnPicture_14 mvX5_personOn mlX3_116 (by decide) rfl rfl (Nat.le_of_ble_eq_true rfl) (c_X5_personOn _ Γ (d + 0) _ _ ⟨by omega, by omega⟩ ⟨by omega, by omega⟩) ?_
    rw [if_pos (by omega), show ((k : Int)).toNat = k from rfl, (hC.2.2.1.2 k h1n).1]
    refine G_istore_n hk dX3_burnPicture_17 (by decide) rfl ?_
    refine G_rload_n hk dX3_burnPicture_18 rfl ?_
    refine G_dup hk dX3_burnPicture_19 rfl ?_
    refine G_getI hk dX3_burnPicture_20 flX3_59 (by decide) rfl rfl ?_
    refine G_iconst hk dX3_burnPicture_23 ?_
    refine G_iload_n hk dX3_burnPicture_24 rfl ?_
    refine G_ishl hk dX3_burnPicture_25 (by omega) (shl_ok (by omega)) (by omega) (by omega) ?_
    refine G_ior hk dX3_burnPicture_26 ?_
    refine G_putI hk dX3_burnPicture_27 flX3_59 fpX3_7 (by decide) rfl rfl ?_
    refine G_rload_n hk dX3_burnPicture_30 rfl ?_
    refine G_iload_n hk dX3_burnPicture_31 rfl ?_
    refine G_rload_n hk dX3_burnPicture_32 rfl ?_
    refine G_getR hk dX3_burnPicture_33 flX3_15 (by decide) rfl rfl ?_
    refine G_iload_n hk dX3_burnPicture_36 rfl ?_
    refine G_iald hk dX3_burnPicture_37 (by decide) rfl (by decide) (by omega) (by omega) ?_
    try simp (decide := true) only [su_app, sr_app, ↓reduceIte]
    rw [show ((k : Int)).toNat = k from rfl]
    refine G_cV2V hk dX3_burnPicture_38 mvX3_giveTo mlX3_137 (by decide) rfl rfl (Nat.le_of_ble_eq_true rfl) (c_X3_giveTo _ Γ (d + 0) _ _ _ ⟨by omega, by omega⟩ (by simp (decide := true) only [su_app, ↓reduceIte]; omega)) (fun S_38 hp_38 => ?_)
    have f38 : ∀ c, c ≠ 17 → c ≠ 18 → S_38 c = S c := fun c a b => by rw [hp_38, gvT_fr b, su_ne _ a]
    have q5 : S_38 1 5 = (aN A : Int) := by rw [f38 1 (by decide) (by decide)]; exact h15
    refine G_rload_n hk dX3_burnPicture_41 rfl ?_
    refine G_rload_n hk dX3_burnPicture_42 rfl ?_
    refine G_getR hk dX3_burnPicture_43 flX3_25 (by decide) rfl rfl ?_
    refine G_iload_n hk dX3_burnPicture_46 rfl ?_
    refine G_cV1P hk dX3_burnPicture_47 mvX4_twinOf mlX3_113 (by decide) rfl rfl (Nat.le_of_ble_eq_true rfl) (c_X4_twinOf _ Γ (d + 0) _ _ ⟨by omega, by omega⟩ ⟨by omega, by omega⟩) ?_
    rw [if_pos (by omega), show S_38 4 (aP A (4 * k + 1)).toNat = aTw A (aP A (4 * k + 1)).toNat by rw [f38 4 (by decide) (by decide)]; exact (hC.2.1.2.2.2 _ (by show (aP A (4 * k + 1)).toNat < aN A; omega)).2]
    have t9 := aTw_ok (A := A) (aP A (4 * k + 1)).toNat (by omega)
    refine G_rload_n hk dX3_burnPicture_50 rfl ?_
    refine G_getR hk dX3_burnPicture_51 flX3_18 (by decide) rfl rfl ?_
    refine G_iload_n hk dX3_burnPicture_54 rfl ?_
    refine G_iald hk dX3_burnPicture_55 (by decide) rfl (by decide) (by omega) (by omega) ?_
    try simp (decide := true) only [su_app, sr_app, ↓reduceIte]
    rw [f38 20 (by decide) (by decide), show ((k : Int)).toNat = k from rfl]
    refine G_cV2V hk dX3_burnPicture_56 mvX3_giveTo mlX3_137 (by decide) rfl rfl (Nat.le_of_ble_eq_true rfl) (c_X3_giveTo _ Γ (d + 0) _ _ _ ⟨by omega, by omega⟩ ⟨by omega, by omega⟩) (fun S_56 hp_56 => ?_)
    exact G_vret hk hr dX3_burnPicture_59 (by rw [if_pos h1k]; exact CrS_bur (by omega) hX h15 (by omega) hk9 aTw_ok h1k hp_38 hp_56)
  · exact G_vret hk hr dX3_burnPicture_8 (by rw [if_neg (show ¬ X.2.2 k = 1 from fun h => h_5 ⟨by omega, by omega, h⟩)]; exact ⟨hX, frB_0 S⟩)
