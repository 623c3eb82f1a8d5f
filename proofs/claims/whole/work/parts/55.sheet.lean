/-! sheets -/
theorem ac_link : Cond.methodLink RX8 49 arraycopyName ∈ gt := gt_in (tin4 (List.mem_of_getElem? (l := tables_1_4) (i := 95) (by decide +kernel))) rfl
theorem ac_nat : Cond.native arraycopyName ∈ gt := gt_in (tin4 (List.mem_of_getElem? (l := tables_1_4) (i := 97) (by decide +kernel))) rfl
theorem ac_st : Cond.static arraycopyName ∈ gt := gt_in (tin4 (List.mem_of_getElem? (l := tables_1_4) (i := 96) (by decide +kernel))) rfl
theorem ac_ini : Cond.initialized "java/lang/System" ∈ gt := gt_in (tin1 (List.mem_of_getElem? (l := tables_1_1) (i := 15) (by decide +kernel))) rfl
theorem G_acopy {κ : Kx} {Γ : Ev} {own : String} {cc : ByteArray} {nL d pc : Nat} {L : List (Option Value)} {rest : List Value} {S : Sx} (hk : Ok κ Γ own cc nL (d + 1)) {idx b0 b1 n0 n1 : Nat} {ts0 ts1 : List Nat} {sp dp n : Int} (hd : decode cc pc = .ok (.invokestatic idx, 3)) (hlk : Cond.methodLink own idx arraycopyName ∈ gt) (hb0 : b0 < 59) (hy0 : lay b0 = .inl (0, n0, ts0)) (hb1 : b1 < 59) (hy1 : lay b1 = .inl (0, n1, ts1)) (hn0 : n0 < 1000) (hn1 : n1 < 1000) (h1 : 0 ≤ sp) (h2 : 0 ≤ dp) (h3 : 0 ≤ n) (h4 : sp + n ≤ (n0 : Int)) (h5 : dp + n ≤ (n1 : Int)) (h8 : (rest.map fun v => v.category).sum ≤ 8)
    (kk : GW κ Γ (pc + 3) L rest (wl Γ (sr S b1 (fill (S b1) (fun a => S b0 (sp.toNat + a)) dp.toNat n.toNat)))) : GW κ Γ pc L (vI n :: vI dp :: rf Γ b1 :: vI sp :: rf Γ b0 :: rest) (wl Γ S) := by
  obtain ⟨p, l, e, R, s, m, args, below, meth, c, Q, H0, A, nl0, c1, c2⟩ := κ
  obtain ⟨k1, k2, k3, k4, k5, k6, k7, k8, k9, k10, k11, k12, k13⟩ := hk
  subst k13
  intro H locs ls hP hD hS hl
  have he0 : (wl Γ S)[b0]? = some (Γ.2.2.2.2 b0, .inl (Γ.2.1, n0, .inl (fun j => Int32.ofInt (S b0 j)))) := by rw [wl_at hb0, hy0]; rfl
  have he1 : (wl Γ S)[b1]? = some (Γ.2.2.2.2 b1, .inl (Γ.2.1, n1, .inl (fun j => Int32.ofInt (S b1 j)))) := by rw [wl_at hb1, hy1]; rfl
  have r1 : R32 sp := ⟨by omega, by omega⟩
  have r2 : R32 dp := ⟨by omega, by omega⟩
  have r3 : R32 n := ⟨by omega, by omega⟩
  have nn : ∀ z : Int, R32 z → 0 ≤ z → ¬ Int32.ofInt z < 0 := fun z a b q => by
    have h := (i32_lt a (show R32 0 by decide)).mp q
    omega
  have hw : nativeFrameWords "java/lang/System" "arraycopy" 5 ≤ 20 := by decide +kernel
  have hset : (wl Γ S).set b1 (Γ.2.2.2.2 b1, .inl (Γ.2.1, n1, .inl (va_cpy (fun j => Int32.ofInt (S b0 j)) (fun j => Int32.ofInt (S b1 j)) sp.toNat dp.toNat n.toNat))) = wl Γ (sr S b1 (fill (S b1) (fun a => S b0 (sp.toNat + a)) dp.toNat n.toNat)) := by
    rw [← wl_set hb1, hy1]
    have e : va_cpy (fun j => Int32.ofInt (S b0 j)) (fun j => Int32.ofInt (S b1 j)) sp.toNat dp.toNat n.toNat = fun j => Int32.ofInt (fill (S b1) (fun a => S b0 (sp.toNat + a)) dp.toNat n.toNat j) := by
      funext j
      unfold va_cpy fill
      split <;> rfl
    rw [e]
    rfl
  refine va_copyi (D := Γ.1) (cl := cls) (tys := tys Γ) (rest := rest) k1 k2 (by rw [k3, hl.1]) k4 (k5 _ hlk) (k5 _ ac_nat) (k5 _ ac_st) (k5 _ ac_ini) k6 hP hD hS b0 b1 0 0 he0 he1 rfl rfl rfl (nn sp r1 h1) (nn dp r2 h2) (nn n r3 h3) ?_ ?_ ?_ (by omega) ?_ hd (fun H1 locs1 hP1 hD1 hS1 => ?_)
  · rw [i32_cl r1 h1, i32_cl r3 h3]; omega
  · rw [i32_cl r2 h2, i32_cl r3 h3]; omega
  · intro i _; rfl
  · omega
  · rw [i32_cl r1 h1, i32_cl r2 h2, i32_cl r3 h3, hset] at hP1 hD1
    exact kk H1 locs1 ls hP1 hD1 hS1 hl
def SH (b : Nat) : Prop := b < 59 ∧ b + 1 < 59 ∧ lay b = .inr (8, [.inl (b + 1), .inr false, .inr false]) ∧ lay (b + 1) = .inl (0, 60, [])
theorem SH_s : ∀ (s : Nat), s < 4 → SH (36 + 2 * s)
  | 0, _ => ⟨by decide, by decide, rfl, rfl⟩
  | 1, _ => ⟨by decide, by decide, rfl, rfl⟩
  | 2, _ => ⟨by decide, by decide, rfl, rfl⟩
  | 3, _ => ⟨by decide, by decide, rfl, rfl⟩
  | s + 4, h => absurd h (by omega)
theorem sh_j {s : Int} (h : 0 ≤ s ∧ s ≤ 3) : ([36, 38, 40, 42] : List Nat)[s.toNat]? = some (36 + 2 * s.toNat) := by
  have e : s = 0 ∨ s = 1 ∨ s = 2 ∨ s = 3 := by omega
  rcases e with e | e | e | e <;> subst e <;> rfl

theorem c_X8_isLost (l : Launch) (Γ : Ev) (d : Nat) (S : Sx) (b : Nat) (hS : SH b) (hf : -1 ≤ S b 1 ∧ S b 1 ≤ 2) : Ctr l Γ d mX8_isLost [rf Γ b] S (pP S (bz (S b 1 = -1))) := by
  refine Ctr.of (by decide) rfl rfl (Nat.le_of_ble_eq_true rfl) ?_
  intro κ hl hk hr
  subst hl
  obtain ⟨hb, hb1, hy, hy1⟩ := hS
  refine G_rload_n hk dX8_isLost_0 rfl ?_
  refine G_getI hk dX8_isLost_1 flX8_15 hb hy rfl ?_
  refine G_iconst hk dX8_isLost_4 ?_
  refine G_icmp_ne (tgt := 12) hk dX8_isLost_5 (by decide) ⟨by omega, by omega⟩ ⟨by omega, by omega⟩ (fun h_5 => ?_) (fun h_5 => ?_)
  · refine G_iconst hk dX8_isLost_12 ?_
    exact G_zret hk hr dX8_isLost_13 (by decide) ⟨by simp only [bz]; split <;> first | rfl | (exfalso; omega), rfl⟩
  · refine G_iconst hk dX8_isLost_8 ?_
    refine G_goto (tgt := 13) hk dX8_isLost_9 (by decide) ?_
    exact G_zret hk hr dX8_isLost_13 (by decide) ⟨by simp only [bz]; split <;> first | rfl | (exfalso; omega), rfl⟩

theorem c_X8_length (l : Launch) (Γ : Ev) (d : Nat) (S : Sx) (b : Nat) (hS : SH b) : Ctr l Γ d mX8_length [rf Γ b] S (pP S (S b 2)) := by
  refine Ctr.of (by decide) rfl rfl (Nat.le_of_ble_eq_true rfl) ?_
  intro κ hl hk hr
  subst hl
  obtain ⟨hb, hb1, hy, hy1⟩ := hS
  refine G_rload_n hk dX8_length_0 rfl ?_
  refine G_getI hk dX8_length_1 flX8_19 hb hy rfl ?_
  exact G_iret hk hr dX8_length_4 ⟨rfl, rfl⟩

theorem c_X8_isLike (l : Launch) (Γ : Ev) (d : Nat) (S : Sx) (b : Nat) (hS : SH b) (b2 : Nat) (hS2 : SH b2) (hf : -1 ≤ S b 1 ∧ S b 1 ≤ 2) (hf2 : -1 ≤ S b2 1 ∧ S b2 1 ≤ 2) : Ctr l Γ d mX8_isLike [rf Γ b, rf Γ b2] S (pP S (bz (S b 1 = S b2 1))) := by
  refine Ctr.of (by decide) rfl rfl (Nat.le_of_ble_eq_true rfl) ?_
  intro κ hl hk hr
  subst hl
  obtain ⟨hb, hb1, hy, hy1⟩ := hS
  obtain ⟨hc, hc1, hz, hz1⟩ := hS2
  refine G_rload_n hk dX8_isLike_0 rfl ?_
  refine G_getI hk dX8_isLike_1 flX8_15 hb hy rfl ?_
  refine G_rload_n hk dX8_isLike_4 rfl ?_
  refine G_getI hk dX8_isLike_5 flX8_15 hc hz rfl ?_
  refine G_icmp_ne (tgt := 15) hk dX8_isLike_8 (by decide) ⟨by omega, by omega⟩ ⟨by omega, by omega⟩ (fun h_8 => ?_) (fun h_8 => ?_)
  · refine G_iconst hk dX8_isLike_15 ?_
    exact G_zret hk hr dX8_isLike_16 (by decide) ⟨by simp only [bz]; split <;> first | rfl | (exfalso; omega), rfl⟩
  · refine G_iconst hk dX8_isLike_11 ?_
    refine G_goto (tgt := 16) hk dX8_isLike_12 (by decide) ?_
    exact G_zret hk hr dX8_isLike_16 (by decide) ⟨by simp only [bz]; split <;> first | rfl | (exfalso; omega), rfl⟩

theorem c_X8_renew (l : Launch) (Γ : Ev) (d : Nat) (S : Sx) (b : Nat) (hS : SH b) (f n : Int) (hn : 0 ≤ n ∧ n ≤ 60) : Ctr l Γ (d + 1) mX8_renew [rf Γ b, vI f, vI n] S (pV (fun S2 => S2 = su (su (fl S (b + 1) 0 60) b 1 f) b 2 n)) := by
  refine Ctr.of (by decide) rfl rfl (Nat.le_of_ble_eq_true rfl) ?_
  intro κ hl hk hr
  subst hl
  obtain ⟨hb, hb1, hy, hy1⟩ := hS
  refine G_rload_n hk dX8_renew_0 rfl ?_
  refine G_getR hk dX8_renew_1 flX8_9 hb hy rfl ?_
  refine G_iconst hk dX8_renew_4 ?_
  refine G_cS2V hk dX8_renew_5 msJ7_fill_53178 mlX8_22 (Nat.le_of_ble_eq_true rfl) (c_fillI _ Γ (d + 0) _ (b + 1) 60 hb1 hy1 (by decide) _) (fun S_5 hp_5 => ?_)
  refine G_rload_n hk dX8_renew_8 rfl ?_
  refine G_iload_n hk dX8_renew_9 rfl ?_
  refine G_putI hk dX8_renew_10 flX8_15 fpX8_1 hb hy rfl ?_
  refine G_rload_n hk dX8_renew_13 rfl ?_
  refine G_iconst hk dX8_renew_14 ?_
  refine G_iload_n hk dX8_renew_15 rfl ?_
  refine G_bipush hk dX8_renew_16 (by decide) ?_
  refine G_cS2P hk dX8_renew_18 msJ9_min_7cf53 mlX8_28 (Nat.le_of_ble_eq_true rfl) (c_J9_min _ Γ (d + 0) _ _ _ ⟨by omega, by omega⟩ ⟨by omega, by omega⟩) ?_
  rw [show (if n > 60 then 60 else n) = n by rw [if_neg (by omega)]]
  refine G_cS2P hk dX8_renew_21 msJ9_max_7cf53 mlX8_34 (Nat.le_of_ble_eq_true rfl) (c_J9_max _ Γ (d + 0) _ _ _ ⟨by omega, by omega⟩ ⟨by omega, by omega⟩) ?_
  rw [show (if 0 < n then n else 0) = n by split <;> omega]
  refine G_putI hk dX8_renew_24 flX8_19 fpX8_2 hb hy rfl ?_
  exact G_vret hk hr dX8_renew_27 (by rw [hp_5])

theorem c_X8_becomeLost (l : Launch) (Γ : Ev) (d : Nat) (S : Sx) (b : Nat) (hS : SH b) : Ctr l Γ d mX8_becomeLost [rf Γ b] S (pV (fun S2 => S2 = su (su S b 1 (-1)) b 2 0)) := by
  refine Ctr.of (by decide) rfl rfl (Nat.le_of_ble_eq_true rfl) ?_
  intro κ hl hk hr
  subst hl
  obtain ⟨hb, hb1, hy, hy1⟩ := hS
  refine G_rload_n hk dX8_becomeLost_0 rfl ?_
  refine G_iconst hk dX8_becomeLost_1 ?_
  refine G_putI hk dX8_becomeLost_2 flX8_15 fpX8_1 hb hy rfl ?_
  refine G_rload_n hk dX8_becomeLost_5 rfl ?_
  refine G_iconst hk dX8_becomeLost_6 ?_
  refine G_putI hk dX8_becomeLost_7 flX8_19 fpX8_2 hb hy rfl ?_
  exact G_vret hk hr dX8_becomeLost_10 rfl

theorem c_X8_hasRun (l : Launch) (Γ : Ev) (d : Nat) (S : Sx) (b : Nat) (hS : SH b) (i n : Int) (hi : R32 i) (hn : R32 n) (h2 : 0 ≤ S b 2 ∧ S b 2 ≤ 60) : Ctr l Γ d mX8_hasRun [rf Γ b, vI i, vI n] S (pP S (bz (0 ≤ i ∧ 0 ≤ n ∧ i ≤ S b 2 - n))) := by
  refine Ctr.of (by decide) rfl rfl (Nat.le_of_ble_eq_true rfl) ?_
  intro κ hl hk hr
  subst hl
  obtain ⟨hb, hb1, hy, hy1⟩ := hS
  refine G_iload_n hk dX8_hasRun_0 rfl ?_
  refine G_if_lt (tgt := 22) hk dX8_hasRun_1 (by decide) ⟨by omega, by omega⟩ (fun h_1 => ?_) (fun h_1 => ?_)
  · refine G_iconst hk dX8_hasRun_22 ?_
    exact G_zret hk hr dX8_hasRun_23 (by decide) ⟨by simp only [bz]; split <;> first | rfl | (exfalso; omega), rfl⟩
  · refine G_iload_n hk dX8_hasRun_4 rfl ?_
    refine G_if_lt (tgt := 22) hk dX8_hasRun_5 (by decide) ⟨by omega, by omega⟩ (fun h_5 => ?_) (fun h_5 => ?_)
    · refine G_iconst hk dX8_hasRun_22 ?_
      exact G_zret hk hr dX8_hasRun_23 (by decide) ⟨by simp only [bz]; split <;> first | rfl | (exfalso; omega), rfl⟩
    · refine G_iload_n hk dX8_hasRun_8 rfl ?_
      refine G_rload_n hk dX8_hasRun_9 rfl ?_
      refine G_getI hk dX8_hasRun_10 flX8_19 hb hy rfl ?_
      refine G_iload_n hk dX8_hasRun_13 rfl ?_
      refine G_isub hk dX8_hasRun_14 ?_
      refine G_icmp_gt (tgt := 22) hk dX8_hasRun_15 (by decide) ⟨by omega, by omega⟩ ⟨by omega, by omega⟩ (fun h_15 => ?_) (fun h_15 => ?_)
      · refine G_iconst hk dX8_hasRun_22 ?_
        exact G_zret hk hr dX8_hasRun_23 (by decide) ⟨by simp only [bz]; split <;> first | rfl | (exfalso; omega), rfl⟩
      · refine G_iconst hk dX8_hasRun_18 ?_
        refine G_goto (tgt := 23) hk dX8_hasRun_19 (by decide) ?_
        exact G_zret hk hr dX8_hasRun_23 (by decide) ⟨by simp only [bz]; split <;> first | rfl | (exfalso; omega), rfl⟩

theorem c_X8_troubleWith (l : Launch) (Γ : Ev) (d : Nat) (S : Sx) (b : Nat) (hS : SH b) (f i : Int) (h_f : R32 f) (h_i : R32 i) (hf : -1 ≤ S b 1 ∧ S b 1 ≤ 2) (h2 : 0 ≤ S b 2 ∧ S b 2 ≤ 60) : Ctr l Γ (d + 1) mX8_troubleWith [rf Γ b, vI f, vI i] S (pP S (if S b 1 = -1 then 1 else if ¬ f = S b 1 then 3 else if 0 ≤ i ∧ i ≤ S b 2 - 1 then 0 else 2)) := by
  refine Ctr.of (by decide) rfl rfl (Nat.le_of_ble_eq_true rfl) ?_
  intro κ hl hk hr
  subst hl
  obtain ⟨hb, hb1, hy, hy1⟩ := hS
  refine G_rload_n hk dX8_troubleWith_0 rfl ?_
  refine G_cV0P hk dX8_troubleWith_1 mvX8_isLost mlX8_37 hb hy rfl (Nat.le_of_ble_eq_true rfl) (c_X8_isLost _ Γ (d + 0) _ b ⟨hb, hb1, hy, hy1⟩ ⟨by omega, by omega⟩) ?_
  refine G_bif_eq (tgt := 9) hk dX8_troubleWith_4 (by decide) (fun h_4 => ?_) (fun h_4 => ?_)
  · refine G_iload_n hk dX8_troubleWith_9 rfl ?_
    refine G_rload_n hk dX8_troubleWith_10 rfl ?_
    refine G_getI hk dX8_troubleWith_11 flX8_15 hb hy rfl ?_
    refine G_icmp_eq (tgt := 19) hk dX8_troubleWith_14 (by decide) ⟨by omega, by omega⟩ ⟨by omega, by omega⟩ (fun h_14 => ?_) (fun h_14 => ?_)
    · refine G_rload_n hk dX8_troubleWith_19 rfl ?_
      refine G_iload_n hk dX8_troubleWith_20 rfl ?_
      refine G_iconst hk dX8_troubleWith_21 ?_
      refine G_cV2P hk dX8_troubleWith_22 mvX8_hasRun mlX8_41 hb hy rfl (Nat.le_of_ble_eq_true rfl) (c_X8_hasRun _ Γ (d + 0) _ b ⟨hb, hb1, hy, hy1⟩ _ _ ⟨by omega, by omega⟩ ⟨by omega, by omega⟩ ⟨by omega, by omega⟩) ?_
      refine G_bif_eq (tgt := 32) hk dX8_troubleWith_25 (by decide) (fun h_25 => ?_) (fun h_25 => ?_)
      · refine G_iconst hk dX8_troubleWith_32 ?_
        exact G_iret hk hr dX8_troubleWith_33 ⟨by (repeat' split) <;> first | rfl | (exfalso; omega), rfl⟩
      · refine G_iconst hk dX8_troubleWith_28 ?_
        refine G_goto (tgt := 33) hk dX8_troubleWith_29 (by decide) ?_
        exact G_iret hk hr dX8_troubleWith_33 ⟨by (repeat' split) <;> first | rfl | (exfalso; omega), rfl⟩
    · refine G_iconst hk dX8_troubleWith_17 ?_
      exact G_iret hk hr dX8_troubleWith_18 ⟨by (repeat' split) <;> first | rfl | (exfalso; omega), rfl⟩
  · refine G_iconst hk dX8_troubleWith_7 ?_
    exact G_iret hk hr dX8_troubleWith_8 ⟨by (repeat' split) <;> first | rfl | (exfalso; omega), rfl⟩

theorem c_X8_item (l : Launch) (Γ : Ev) (d : Nat) (S : Sx) (b : Nat) (hS : SH b) (i : Int) (h_i : R32 i) (h2 : 0 ≤ S b 2 ∧ S b 2 ≤ 60) : Ctr l Γ (d + 1) mX8_item [rf Γ b, vI i] S (pP S (if 0 ≤ i ∧ i ≤ S b 2 - 1 then S (b + 1) i.toNat else 0)) := by
  refine Ctr.of (by decide) rfl rfl (Nat.le_of_ble_eq_true rfl) ?_
  intro κ hl hk hr
  subst hl
  obtain ⟨hb, hb1, hy, hy1⟩ := hS
  refine G_rload_n hk dX8_item_0 rfl ?_
  refine G_iload_n hk dX8_item_1 rfl ?_
  refine G_iconst hk dX8_item_2 ?_
  refine G_cV2P hk dX8_item_3 mvX8_hasRun mlX8_41 hb hy rfl (Nat.le_of_ble_eq_true rfl) (c_X8_hasRun _ Γ (d + 0) _ b ⟨hb, hb1, hy, hy1⟩ _ _ ⟨by omega, by omega⟩ ⟨by omega, by omega⟩ ⟨by omega, by omega⟩) ?_
  refine G_bif_eq (tgt := 18) hk dX8_item_6 (by decide) (fun h_6 => ?_) (fun h_6 => ?_)
  · refine G_iconst hk dX8_item_18 ?_
    exact G_iret hk hr dX8_item_19 ⟨by split <;> first | rfl | (exfalso; omega), rfl⟩
  · refine G_rload_n hk dX8_item_9 rfl ?_
    refine G_getR hk dX8_item_10 flX8_9 hb hy rfl ?_
    refine G_iload_n hk dX8_item_13 rfl ?_
    refine G_iald hk dX8_item_14 hb1 hy1 (by decide) (by omega) (by omega) ?_
    refine G_goto (tgt := 19) hk dX8_item_15 (by decide) ?_
    exact G_iret hk hr dX8_item_19 ⟨by split <;> first | rfl | (exfalso; omega), rfl⟩

theorem c_X8_narrow (l : Launch) (Γ : Ev) (d : Nat) (S : Sx) (b : Nat) (hS : SH b) (v : Int) (hf : -1 ≤ S b 1 ∧ S b 1 ≤ 2) : Ctr l Γ d mX8_narrow [rf Γ b, vI v] S (pP S (cutf (S b 1) v)) := by
  refine Ctr.of (by decide) rfl rfl (Nat.le_of_ble_eq_true rfl) ?_
  intro κ hl hk hr
  subst hl
  obtain ⟨hb, hb1, hy, hy1⟩ := hS
  refine G_rload_n hk dX8_narrow_0 rfl ?_
  refine G_getI hk dX8_narrow_1 flX8_15 hb hy rfl ?_
  refine G_if_ne (tgt := 10) hk dX8_narrow_4 (by decide) ⟨by omega, by omega⟩ (fun h_4 => ?_) (fun h_4 => ?_)
  · refine G_rload_n hk dX8_narrow_10 rfl ?_
    refine G_getI hk dX8_narrow_11 flX8_15 hb hy rfl ?_
    refine G_iconst hk dX8_narrow_14 ?_
    refine G_icmp_ne (tgt := 23) hk dX8_narrow_15 (by decide) ⟨by omega, by omega⟩ ⟨by omega, by omega⟩ (fun h_15 => ?_) (fun h_15 => ?_)
    · refine G_iload_n hk dX8_narrow_23 rfl ?_
      exact G_iret hk hr dX8_narrow_24 ⟨by unfold cutf; (repeat' split) <;> first | rfl | (exfalso; omega), rfl⟩
    · refine G_iload_n hk dX8_narrow_18 rfl ?_
      refine G_i2s hk dX8_narrow_19 ?_
      refine G_goto (tgt := 24) hk dX8_narrow_20 (by decide) ?_
      exact G_iret hk hr dX8_narrow_24 ⟨by unfold cutf; (repeat' split) <;> first | rfl | (exfalso; omega), rfl⟩
  · refine G_iload_n hk dX8_narrow_7 rfl ?_
    refine G_i2b hk dX8_narrow_8 ?_
    exact G_iret hk hr dX8_narrow_9 ⟨by unfold cutf; (repeat' split) <;> first | rfl | (exfalso; omega), rfl⟩

theorem c_X8_putItem (l : Launch) (Γ : Ev) (d : Nat) (S : Sx) (b : Nat) (hS : SH b) (i v : Int) (h_i : R32 i) (hf : -1 ≤ S b 1 ∧ S b 1 ≤ 2) (h2 : 0 ≤ S b 2 ∧ S b 2 ≤ 60) : Ctr l Γ (d + 1) mX8_putItem [rf Γ b, vI i, vI v] S (pV (fun S2 => S2 = if 0 ≤ i ∧ i ≤ S b 2 - 1 then su S (b + 1) i.toNat (cutf (S b 1) v) else S)) := by
  refine Ctr.of (by decide) rfl rfl (Nat.le_of_ble_eq_true rfl) ?_
  intro κ hl hk hr
  subst hl
  obtain ⟨hb, hb1, hy, hy1⟩ := hS
  refine G_rload_n hk dX8_putItem_0 rfl ?_
  refine G_iload_n hk dX8_putItem_1 rfl ?_
  refine G_iconst hk dX8_putItem_2 ?_
  refine G_cV2P hk dX8_putItem_3 mvX8_hasRun mlX8_41 hb hy rfl (Nat.le_of_ble_eq_true rfl) (c_X8_hasRun _ Γ (d + 0) _ b ⟨hb, hb1, hy, hy1⟩ _ _ ⟨by omega, by omega⟩ ⟨by omega, by omega⟩ ⟨by omega, by omega⟩) ?_
  refine G_bif_eq (tgt := 20) hk dX8_putItem_6 (by decide) (fun h_6 => ?_) (fun h_6 => ?_)
  · exact G_vret hk hr dX8_putItem_20 (by split <;> first | rfl | (exfalso; omega))
  · refine G_rload_n hk dX8_putItem_9 rfl ?_
    refine G_getR hk dX8_putItem_10 flX8_9 hb hy rfl ?_
    refine G_iload_n hk dX8_putItem_13 rfl ?_
    refine G_rload_n hk dX8_putItem_14 rfl ?_
    refine G_iload_n hk dX8_putItem_15 rfl ?_
    refine G_cV1P hk dX8_putItem_16 mvX8_narrow mlX8_45 hb hy rfl (Nat.le_of_ble_eq_true rfl) (c_X8_narrow _ Γ (d + 0) _ b ⟨hb, hb1, hy, hy1⟩ _ ⟨by omega, by omega⟩) ?_
    refine G_iast hk dX8_putItem_19 hb1 hy1 (by decide) (by omega) (by omega) ?_
    exact G_vret hk hr dX8_putItem_20 (by split <;> first | rfl | (exfalso; omega))

theorem c_X8_putRun (l : Launch) (Γ : Ev) (d : Nat) (S : Sx) (b : Nat) (hS : SH b) (b2 : Nat) (hS2 : SH b2) (j i n : Int) (h_j : 0 ≤ j) (h_i : 0 ≤ i) (h_n : 0 ≤ n) (hl : i + n ≤ S b2 2) (hl2 : j + n ≤ S b 2) (h2 : 0 ≤ S b 2 ∧ S b 2 ≤ 60) (h3 : 0 ≤ S b2 2 ∧ S b2 2 ≤ 60) : Ctr l Γ (d + 1) mX8_putRun [rf Γ b, vI j, rf Γ b2, vI i, vI n] S (pV (fun S2 => S2 = sr S (b + 1) (fill (S (b + 1)) (fun a => S (b2 + 1) (i.toNat + a)) j.toNat n.toNat))) := by
  refine Ctr.of (by decide) rfl rfl (Nat.le_of_ble_eq_true rfl) ?_
  intro κ hl hk hr
  subst hl
  obtain ⟨hb, hb1, hy, hy1⟩ := hS
  obtain ⟨hc, hc1, hz, hz1⟩ := hS2
  refine G_rload_n hk dX8_putRun_0 rfl ?_
  refine G_iload_n hk dX8_putRun_1 rfl ?_
  refine G_iload hk dX8_putRun_2 rfl ?_
  refine G_cV2P hk dX8_putRun_4 mvX8_hasRun mlX8_41 hc hz rfl (Nat.le_of_ble_eq_true rfl) (c_X8_hasRun _ Γ (d + 0) _ b2 ⟨hc, hc1, hz, hz1⟩ _ _ ⟨by omega, by omega⟩ ⟨by omega, by omega⟩ ⟨by omega, by omega⟩) ?_
  refine G_bif_eq (tgt := 35) hk dX8_putRun_7 (by decide) (fun h_7 => ?_) (fun h_7 => ?_)
  · exact absurd ⟨by omega, by omega, by omega⟩ h_7--stop
  · refine G_rload_n hk dX8_putRun_10 rfl ?_
    refine G_iload_n hk dX8_putRun_11 rfl ?_
    refine G_iload hk dX8_putRun_12 rfl ?_
    refine G_cV2P hk dX8_putRun_14 mvX8_hasRun mlX8_41 hb hy rfl (Nat.le_of_ble_eq_true rfl) (c_X8_hasRun _ Γ (d + 0) _ b ⟨hb, hb1, hy, hy1⟩ _ _ ⟨by omega, by omega⟩ ⟨by omega, by omega⟩ ⟨by omega, by omega⟩) ?_
    refine G_bif_eq (tgt := 35) hk dX8_putRun_17 (by decide) (fun h_17 => ?_) (fun h_17 => ?_)
    · exact absurd ⟨by omega, by omega, by omega⟩ h_17--stop
    · refine G_rload_n hk dX8_putRun_20 rfl ?_
      refine G_getR hk dX8_putRun_21 flX8_9 hc hz rfl ?_
      refine G_iload_n hk dX8_putRun_24 rfl ?_
      refine G_rload_n hk dX8_putRun_25 rfl ?_
      refine G_getR hk dX8_putRun_26 flX8_9 hb hy rfl ?_
      refine G_iload_n hk dX8_putRun_29 rfl ?_
      refine G_iload hk dX8_putRun_30 rfl ?_
      refine G_acopy hk dX8_putRun_32 ac_link hc1 hz1 hb1 hy1 (by decide) (by decide) h_i h_j h_n (by omega) (by omega) (Nat.le_of_ble_eq_true rfl) ?_
      exact G_vret hk hr dX8_putRun_35 rfl
