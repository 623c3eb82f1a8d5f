theorem CR_wi {S S2 T T2 : Sx} (hR : CR S T) (hI : InvM T2) (wi : WiR S2 (T2 44 31).toNat (T2 58)) (f : ∀ c, (c < 28 ∨ 32 < c) → S2 c = S c) (e : ∀ c, c ≠ 44 → c ≠ 58 → T2 c = T c) (e44 : ∀ k, k ≠ 31 → T2 44 k = T 44 k) : CR S2 T2 := by
  obtain ⟨⟨⟨_, pe, pi, bu⟩, _, wa, f9, lt⟩, sh⟩ := hR
  refine CR_mk hI ?_ ?_ ?_ wi ?_ ?_ ?_ (ShR_cong sh (fun c a b => f c (by omega)) (e 45 (by decide) (by decide)) (e 46 (by decide) (by decide)) (e 47 (by decide) (by decide)))
  · rw [e44 6 (by decide), e 49 (by decide) (by decide)]
    exact PeR_cong pe (f 1 (by omega)) (f 2 (by omega)) (f 3 (by omega)) (f 4 (by omega))
  · rw [e44 10 (by decide), e 51 (by decide) (by decide)]
    exact PiR_cong pi (fun c a b => f c (by omega))
  · rw [e44 12 (by decide), e 52 (by decide) (by decide)]
    exact BuR_cong bu (fun c a b => f c (by omega))
  · rw [e 53 (by decide) (by decide), f 24 (by omega)]
    exact wa
  · rw [e44 14 (by decide), f 0 (by omega)]
    exact f9
  · rw [e44 4 (by decide), f 0 (by omega)]
    exact lt
theorem c_adW {l : Launch} {Γ : Ev} (d : Nat) {S T : Sx} (hR : CR S T) (hI : InvM T) {y p v : Int} (hy : 0 ≤ y ∧ y ≤ 29) (hp : 0 ≤ p ∧ p ≤ 7) (hv : 0 ≤ v ∧ v ≤ 99) : Ctr l Γ (d + 2) mX9_add [rf Γ 27, vI y, vI p, vI v] S (pI (fun r S2 => (r = 0 ∧ ¬ 0 ≤ (q_seen T y p v).1 ∧ S2 = S) ∨ (r = 1 ∧ 0 ≤ (q_seen T y p v).1 ∧ (∀ c, (c < 28 ∨ 32 < c) → S2 c = S c) ∧ CR S2 (q_seen T y p v).2))) := by
  have i2 := hI.2.1
  have pr : WiR S (T 44 31).toNat (T 58) := hR.1.2.1
  have e2 : S 28 2 = ((T 44 31).toNat : Int) := pr.1.1
  have e3 : (T 44 31).toNat ≤ 8 := pr.1.2.1
  by_cases e : T 44 31 = 8
  · have eq : q_seen T y p v = (-4, T) := by unfold q_seen; rw [if_neg (by omega), if_neg (by omega), if_neg (by omega), if_pos e]
    refine Ctr_mono (c_X9_add0 l Γ d S y p v (by omega)) ?_
    rintro v S2 ⟨r, rfl, rfl, rfl⟩
    exact ⟨0, rfl, Or.inl ⟨rfl, by rw [eq]; show ¬ (0 : Int) ≤ -4; decide, rfl⟩⟩
  · have eq : q_seen T y p v = (T 44 31 + 1, su (su (su (su T 58 (3 * T 44 31).toNat y) 58 (3 * T 44 31 + 1).toNat p) 58 (3 * T 44 31 + 2).toNat v) 44 31 (T 44 31 + 1)) := by unfold q_seen; rw [if_neg (by omega), if_neg (by omega), if_neg (by omega), if_neg e]
    have hI2 := inv_seen hI y p v
    rw [eq] at hI2 ⊢
    refine Ctr_mono (c_X9_add1 l Γ d S (T 44 31).toNat (T 58) ((su (su (su T 58 (3 * T 44 31).toNat y) 58 (3 * T 44 31 + 1).toNat p) 58 (3 * T 44 31 + 2).toNat v) 58) pr (by omega) y p v hy (fun j hj => ?_) ?_ ?_ ?_) ?_
    · rw [su_row, su_row, su_row, if_neg (by omega), if_neg (by omega), if_neg (by omega)]
    · rw [su_row, su_row, su_row, if_neg (by omega), if_neg (by omega), if_pos (by omega)]
    · rw [su_row, su_row, su_row, if_neg (by omega), if_pos (by omega)]
    · rw [su_row, su_row, su_row, if_pos (by omega)]
    · rintro v2 S2 ⟨r, rfl, g1, g2, g3⟩
      have f : ∀ c, (c < 28 ∨ 32 < c) → S2 c = S c := fun c hc => g3 c (by omega) (by omega) (by omega) (by omega) (by omega)
      refine ⟨r, rfl, Or.inr ⟨g1, by show 0 ≤ T 44 31 + 1; omega, f, CR_wi hR hI2 ?_ f ?_ ?_⟩⟩
      · show WiR S2 (su (su (su (su T 58 (3 * T 44 31).toNat y) 58 (3 * T 44 31 + 1).toNat p) 58 (3 * T 44 31 + 2).toNat v) 44 31 (T 44 31 + 1) 44 31).toNat (su (su (su (su T 58 (3 * T 44 31).toNat y) 58 (3 * T 44 31 + 1).toNat p) 58 (3 * T 44 31 + 2).toNat v) 44 31 (T 44 31 + 1) 58)
        rw [su_at, su_ne _ (by decide), show (T 44 31 + 1).toNat = (T 44 31).toNat + 1 by omega]
        exact g2
      · intro c a b
        show su (su (su (su T 58 _ _) 58 _ _) 58 _ _) 44 31 _ c = T c
        rw [su_ne _ a, su_ne _ b, su_ne _ b, su_ne _ b]
      · intro k a
        show su (su (su (su T 58 _ _) 58 _ _) 58 _ _) 44 31 _ 44 k = T 44 k
        rw [su_nk _ _ _ a, su_ne _ (by decide), su_ne _ (by decide), su_ne _ (by decide)]
theorem seen_bad {T : Sx} {y p v : Int} (h : ¬ ((0 ≤ y ∧ y ≤ 29) ∧ (0 ≤ p ∧ p ≤ 7) ∧ (0 ≤ v ∧ v ≤ 99))) : ¬ 0 ≤ (q_seen T y p v).1 := by
  have e : q_seen T y p v = (-2, T) := by
    unfold q_seen
    by_cases h1 : 0 ≤ y ∧ y ≤ 29
    · rw [if_neg (fun q => q h1)]
      by_cases h2 : 0 ≤ p ∧ p ≤ 7
      · rw [if_neg (fun q => q h2), if_pos (fun h3 => h ⟨h1, h2, h3⟩)]
      · rw [if_pos h2]
    · rw [if_pos h1]
  rw [e]
  show ¬ (0 : Int) ≤ -2
  decide
theorem qrk_t {S : Sx} {b n : Nat} {len : Int} (h : ¬ 3 * (n : Int) + 3 ≤ len ∨ ¬ 0 ≤ (q_seen (qrd S b n) (S 47 (b + 3 * n)) (S 47 (b + 3 * n + 1)) (S 47 (b + 3 * n + 2))).1) : qrk S b len n = true := by
  unfold qrk
  rcases h with h | h
  · rw [decide_eq_false h]; rfl
  · rw [decide_eq_false (p := 0 ≤ _) h, Bool.and_false]; rfl
theorem qrk_f {S : Sx} {b n : Nat} {len : Int} (h1 : 3 * (n : Int) + 3 ≤ len) (h : 0 ≤ (q_seen (qrd S b n) (S 47 (b + 3 * n)) (S 47 (b + 3 * n + 1)) (S 47 (b + 3 * n + 2))).1) : qrk S b len n = false := by
  unfold qrk
  rw [decide_eq_true h1, decide_eq_true h]; rfl
theorem read_end {S : Sx} {s : Int} (hs : 0 ≤ s ∧ s ≤ 3) (hl : ¬ S 45 s.toNat < 0) {n : Nat} (hn : n < 21) (h0 : ∀ j, j < n → qrk S (60 * s).toNat (S 46 s.toNat) j = false) (h1 : qrk S (60 * s).toNat (S 46 s.toNat) n = true) : q_read S s = ((n : Int), qrd S (60 * s).toNat n) := by
  have e : qrn S (60 * s).toNat (S 46 s.toNat) = n := by
    unfold qrn
    exact srch_at _ n h0 h1 21 hn
  unfold q_read
  rw [if_neg (fun q => q hs), if_neg hl, e]

theorem c_X10_read (l : Launch) (Γ : Ev) (d : Nat) (S : Sx) (hR : CR S S) (hI : InvM S) (s : Int) (h_s : R32 s) : Ctr l Γ (d + 3) mX10_read [rf Γ 0, vI s] S (pI (fun r S2 => r = (q_read S s).1 ∧ CR S2 (q_read S s).2 ∧ hiC S S2)) := by
  refine Ctr.of (by decide) rfl rfl (Nat.le_of_ble_eq_true rfl) ?_
  intro κ hl hk hr
  subst hl
  obtain ⟨⟨hC, hW, hWt, h09, h010⟩, hSh⟩ := id hR
  obtain ⟨h15, n8, h62, n12, h132, m12⟩ := cl_n hC
  have i2 := hI.2.1
  have t31 : (S 44 6).toNat ≤ 31 := hI.1.1
  have e6 : S 1 3 = S 44 6 := by
    have : S 1 3 = ((S 44 6).toNat : Int) := hC.2.1.1.1
    omega
  refine G_iload_n hk dX10_read_0 rfl ?_
  refine G_cS1P hk dX10_read_1 msX10_isSheet mlX10_221 (Nat.le_of_ble_eq_true rfl) (c_X10_isSheet _ Γ (d + 1) _ _ ⟨by omega, by omega⟩) ?_
  refine G_bif_ne (tgt := 10) hk dX10_read_4 (by decide) (fun h_4 => ?_) (fun h_4 => ?_)
  · have hS := SH_s s.toNat (by omega)
    obtain ⟨hb, hb1, hy, hy1⟩ := id hS
    have c45 := hI.2.2.1.1 s.toNat (by omega)
    have c46 := hI.2.2.1.2.1 s.toNat (by omega)
    have hs1 := hSh s.toNat (by omega)
    refine G_rload_n hk dX10_read_10 rfl ?_
    refine G_getR hk dX10_read_11 flX10_69 (by decide) rfl rfl ?_
    refine G_iload_n hk dX10_read_14 rfl ?_
    refine G_aald hk dX10_read_15 (by decide) rfl (by decide) (by omega) (by omega) (sh_j ⟨by omega, by omega⟩) ?_
    refine G_astore_n hk dX10_read_16 (by decide) rfl ?_
    refine G_rload_n hk dX10_read_17 rfl ?_
    refine G_cV0P hk dX10_read_18 mvX8_isLost mlX10_224 hb hy rfl (Nat.le_of_ble_eq_true rfl) (c_X8_isLost _ Γ (d + 2) _ _ hS ⟨by omega, by omega⟩) ?_
    refine G_bif_eq (tgt := 30) hk dX10_read_21 (by decide) (fun h_21 => ?_) (fun h_21 => ?_)
    · have hl : ¬ S 45 s.toNat < 0 := by omega
      refine G_iconst hk dX10_read_30 ?_
      refine G_istore_n hk dX10_read_31 (by decide) rfl ?_
      refine G_iconst hk dX10_read_32 ?_
      refine G_istore hk dX10_read_33 (by decide) rfl ?_
      have lp := loop_up (P := fun n => ∀ (S1 : Sx) (q5 q6 q7 : Option Value), (CR S1 (qrd S (60 * s).toNat n) ∧ hiC S S1 ∧ (∀ j, j < n → qrk S (60 * s).toNat (S 46 s.toNat) j = false)) → GW κ Γ 35 [some (rf Γ 0), some (vI s), some (rf Γ (36 + 2 * s.toNat)), some (vI (n : Int)), some (vI (3 * (n : Int))), q5, q6, q7] [] (wl Γ S1)) 20 ?_ ?_ 0 (Nat.zero_le _)
      · exact GW_L rfl (lp S none none none ⟨hR, hiC_0 S, fun j hj => absurd hj (by omega)⟩)
      · intro S1 q5 q6 q7 ⟨hR1, hh, hn⟩
        obtain ⟨n, hn20⟩ : ∃ n, n = 20 := ⟨20, rfl⟩
        rw [← hn20] at hR1 hn ⊢
        have f47 : qrd S (60 * s).toNat n 47 = S 47 := qrd_row S _ (by decide) (by decide) n
        have f46 : qrd S (60 * s).toNat n 46 = S 46 := qrd_row S _ (by decide) (by decide) n
        have f45 : qrd S (60 * s).toNat n 45 = S 45 := qrd_row S _ (by decide) (by decide) n
        obtain ⟨u1, u2, u3⟩ := hR1.2 s.toNat (by omega)
        rw [f45] at u1 u2
        rw [f46, if_neg hl] at u2
        have it : ∀ i : Nat, (i : Int) < S 46 s.toNat → S1 (36 + 2 * s.toNat + 1) i = S 47 ((60 * s).toNat + i) := fun i hi => by rw [u3 i (by omega), f47, show 60 * s.toNat + i = (60 * s).toNat + i by omega]
        refine G_iload hk dX10_read_35 rfl ?_
        refine G_iconst hk dX10_read_37 ?_
        refine G_iadd hk dX10_read_38 ?_
        refine G_rload_n hk dX10_read_39 rfl ?_
        refine G_cV0P hk dX10_read_40 mvX8_length mlX10_230 hb hy rfl (Nat.le_of_ble_eq_true rfl) (c_X8_length _ Γ (d + 2) _ _ hS) ?_
        rw [u2]
        refine G_icmp_ge (tgt := 114) hk dX10_read_43 (by decide) ⟨by omega, by omega⟩ ⟨by omega, by omega⟩ (fun h_43 => ?_) (fun h_43 => ?_)
        · refine G_iload_n hk dX10_read_114 rfl ?_
          exact G_iret hk hr dX10_read_115 ⟨by rw [read_end ⟨by omega, by omega⟩ hl (show n < 21 by omega) hn (qrk_t (Or.inl (by omega)))], by rw [read_end ⟨by omega, by omega⟩ hl (show n < 21 by omega) hn (qrk_t (Or.inl (by omega)))]; exact hR1, hh⟩
        · exact absurd h_43 (by omega)--stop
      · intro n hn9 ih S1 q5 q6 q7 ⟨hR1, hh, hn⟩
        have f47 : qrd S (60 * s).toNat n 47 = S 47 := qrd_row S _ (by decide) (by decide) n
        have f46 : qrd S (60 * s).toNat n 46 = S 46 := qrd_row S _ (by decide) (by decide) n
        have f45 : qrd S (60 * s).toNat n 45 = S 45 := qrd_row S _ (by decide) (by decide) n
        obtain ⟨u1, u2, u3⟩ := hR1.2 s.toNat (by omega)
        rw [f45] at u1 u2
        rw [f46, if_neg hl] at u2
        have it : ∀ i : Nat, (i : Int) < S 46 s.toNat → S1 (36 + 2 * s.toNat + 1) i = S 47 ((60 * s).toNat + i) := fun i hi => by rw [u3 i (by omega), f47, show 60 * s.toNat + i = (60 * s).toNat + i by omega]
        have hI1 := inv_qrd hI (60 * s).toNat n
        have x0 := hI.2.2.1.2.2.1 ((60 * s).toNat + 3 * n) (by omega)
        refine G_iload hk dX10_read_35 rfl ?_
        refine G_iconst hk dX10_read_37 ?_
        refine G_iadd hk dX10_read_38 ?_
        refine G_rload_n hk dX10_read_39 rfl ?_
        refine G_cV0P hk dX10_read_40 mvX8_length mlX10_230 hb hy rfl (Nat.le_of_ble_eq_true rfl) (c_X8_length _ Γ (d + 2) _ _ hS) ?_
        rw [u2]
        refine G_icmp_ge (tgt := 114) hk dX10_read_43 (by decide) ⟨by omega, by omega⟩ ⟨by omega, by omega⟩ (fun h_43 => ?_) (fun h_43 => ?_)
        · refine G_iload_n hk dX10_read_114 rfl ?_
          exact G_iret hk hr dX10_read_115 ⟨by rw [read_end ⟨by omega, by omega⟩ hl (show n < 21 by omega) hn (qrk_t (Or.inl (by omega)))], by rw [read_end ⟨by omega, by omega⟩ hl (show n < 21 by omega) hn (qrk_t (Or.inl (by omega)))]; exact hR1, hh⟩
        · have x1 := hI.2.2.1.2.2.1 ((60 * s).toNat + (3 * n + 1)) (by omega)
          have x2 := hI.2.2.1.2.2.1 ((60 * s).toNat + (3 * n + 2)) (by omega)
          have aa1 : (60 * s).toNat + (3 * n + 1) = (60 * s).toNat + 3 * n + 1 := by omega
          have aa2 : (60 * s).toNat + (3 * n + 2) = (60 * s).toNat + 3 * n + 2 := by omega
          rw [aa1] at x1
          rw [aa2] at x2
          refine G_rload_n hk dX10_read_46 rfl ?_
          refine G_iload hk dX10_read_47 rfl ?_
          refine G_cV1P hk dX10_read_49 mvX8_item mlX10_231 hb hy rfl (Nat.le_of_ble_eq_true rfl) (c_X8_item _ Γ (d + 1) _ _ hS _ ⟨by omega, by omega⟩ (by rw [u2]; omega)) ?_
          rw [u2, if_pos (by omega), show (3 * (n : Int)).toNat = 3 * n by omega, it (3 * n) (by omega)]
          refine G_istore hk dX10_read_52 (by decide) rfl ?_
          refine G_rload_n hk dX10_read_54 rfl ?_
          refine G_iload hk dX10_read_55 rfl ?_
          refine G_iconst hk dX10_read_57 ?_
          refine G_iadd hk dX10_read_58 ?_
          refine G_cV1P hk dX10_read_59 mvX8_item mlX10_231 hb hy rfl (Nat.le_of_ble_eq_true rfl) (c_X8_item _ Γ (d + 1) _ _ hS _ ⟨by omega, by omega⟩ (by rw [u2]; omega)) ?_
          rw [u2, if_pos (by omega), show (3 * (n : Int) + 1).toNat = 3 * n + 1 by omega, it (3 * n + 1) (by omega)]
          rw [aa1]
          refine G_istore hk dX10_read_62 (by decide) rfl ?_
          refine G_rload_n hk dX10_read_64 rfl ?_
          refine G_iload hk dX10_read_65 rfl ?_
          refine G_iconst hk dX10_read_67 ?_
          refine G_iadd hk dX10_read_68 ?_
          refine G_cV1P hk dX10_read_69 mvX8_item mlX10_231 hb hy rfl (Nat.le_of_ble_eq_true rfl) (c_X8_item _ Γ (d + 1) _ _ hS _ ⟨by omega, by omega⟩ (by rw [u2]; omega)) ?_
          rw [u2, if_pos (by omega), show (3 * (n : Int) + 2).toNat = 3 * n + 2 by omega, it (3 * n + 2) (by omega)]
          rw [aa2]
          refine G_istore hk dX10_read_72 (by decide) rfl ?_
          refine G_iload hk dX10_read_74 rfl ?_
          refine G_iload hk dX10_read_76 rfl ?_
          refine G_iload hk dX10_read_78 rfl ?_
          refine G_cS3P hk dX10_read_80 msX10_isSighting mlX10_212 (Nat.le_of_ble_eq_true rfl) (c_X10_isSighting _ Γ (d + 0) _ _ _ _ x0 x1 x2) ?_
          refine G_bif_eq (tgt := 114) hk dX10_read_83 (by decide) (fun h_83 => ?_) (fun h_83 => ?_)
          · refine G_iload_n hk dX10_read_114 rfl ?_
            exact G_iret hk hr dX10_read_115 ⟨by rw [read_end ⟨by omega, by omega⟩ hl (show n < 21 by omega) hn (qrk_t (Or.inr (seen_bad h_83)))], by rw [read_end ⟨by omega, by omega⟩ hl (show n < 21 by omega) hn (qrk_t (Or.inr (seen_bad h_83)))]; exact hR1, hh⟩
          · refine G_rload_n hk dX10_read_86 rfl ?_
            refine G_getR hk dX10_read_87 flX10_56 (by decide) rfl rfl ?_
            refine G_iload hk dX10_read_90 rfl ?_
            refine G_iload hk dX10_read_92 rfl ?_
            refine G_iload hk dX10_read_94 rfl ?_
            refine G_cV3I hk dX10_read_96 mvX9_add mlX10_215 (by decide) rfl rfl (Nat.le_of_ble_eq_true rfl) (c_adW (d + 0) hR1 hI1 h_83.1 h_83.2.1 h_83.2.2) (fun r_96 S_96 hp_96 => ?_)
            have r01 : 0 ≤ r_96 ∧ r_96 ≤ 1 := by rcases hp_96 with ⟨g, _⟩ | ⟨g, _⟩ <;> omega
            refine G_if_ne (tgt := 105) hk dX10_read_99 (by decide) ⟨by omega, by omega⟩ (fun h_99 => ?_) (fun h_99 => ?_)
            · obtain ⟨-, g1, g2, g3⟩ := hp_96.resolve_left (fun g => h_99 g.1)
              refine G_iinc hk dX10_read_105 rfl (by decide) rfl ?_
              refine G_iinc hk dX10_read_108 rfl (by decide) rfl ?_
              refine G_goto (tgt := 35) hk dX10_read_111 (by decide) ?_
              have h9 := ih S_96 (some (vI (S 47 ((60 * s).toNat + 3 * n)))) (some (vI (S 47 ((60 * s).toNat + 3 * n + 1)))) (some (vI (S 47 ((60 * s).toNat + 3 * n + 2)))) ⟨g3, fun c hc => by rw [g2 c (by omega)]; exact hh c hc, fun j hj => by
                by_cases e : j = n
                · rw [e]; exact qrk_f (by omega) g1
                · exact hn j (by omega)⟩
              rw [show 3 * ((n + 1 : Nat) : Int) = 3 * (n : Int) + 3 by omega] at h9
              exact h9
            · obtain ⟨-, g1, g2⟩ := hp_96.resolve_right (fun g => by omega)
              refine G_goto (tgt := 114) hk dX10_read_102 (by decide) ?_
              refine G_iload_n hk dX10_read_114 rfl ?_
              exact G_iret hk hr dX10_read_115 ⟨by rw [read_end ⟨by omega, by omega⟩ hl (show n < 21 by omega) hn (qrk_t (Or.inr g1))], by rw [read_end ⟨by omega, by omega⟩ hl (show n < 21 by omega) hn (qrk_t (Or.inr g1))]; exact (g2 ▸ hR1), (g2 ▸ hh)⟩
    · refine G_rload_n hk dX10_read_24 rfl ?_
      refine G_iconst hk dX10_read_25 ?_
      refine G_cV1I hk dX10_read_26 mvX10_found mlX10_227 (by decide) rfl rfl (Nat.le_of_ble_eq_true rfl) (c_X10_found _ Γ (d + 2) _ _) (fun r_26 S_26 hp_26 => ?_)
      exact G_iret hk hr dX10_read_29 (by
  have e : q_read S s = (-11, su S 44 4 1) := by unfold q_read; rw [if_neg (by omega), if_pos (by omega)]
  rw [e, hp_26.1, hp_26.2]
  exact ⟨rfl, CR_find hR hI (by decide)⟩)
  · refine G_bipush hk dX10_read_7 (by decide) ?_
    exact G_iret hk hr dX10_read_9 (by rw [show q_read S s = (_, S) by unfold q_read; (repeat' split) <;> first | rfl | (exfalso; omega)]; exact ⟨rfl, hR, hiC_0 S⟩)
