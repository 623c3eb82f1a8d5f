def qrd (S : Sx) (b : Nat) : Nat → Sx
  | 0 => S
  | n + 1 => (q_seen (qrd S b n) (S 47 (b + 3 * n)) (S 47 (b + 3 * n + 1)) (S 47 (b + 3 * n + 2))).2
def qrk (S : Sx) (b : Nat) (len : Int) (n : Nat) : Bool := !(decide (3 * (n : Int) + 3 ≤ len) && decide (0 ≤ (q_seen (qrd S b n) (S 47 (b + 3 * n)) (S 47 (b + 3 * n + 1)) (S 47 (b + 3 * n + 2))).1))
def qrn (S : Sx) (b : Nat) (len : Int) : Nat := srch (qrk S b len) 21
def q_read (S : Sx) (s : Int) : Qx := if ¬ (0 ≤ s ∧ s ≤ 3) then (-2, S) else if S 45 s.toNat < 0 then (-11, su S 44 4 1) else ((qrn S (60 * s).toNat (S 46 s.toNat) : Int), qrd S (60 * s).toNat (qrn S (60 * s).toNat (S 46 s.toNat)))
theorem q_seen_no {S : Sx} {y p v : Int} (h31 : 0 ≤ S 44 31 ∧ S 44 31 ≤ 8) (h : ¬ 0 ≤ (q_seen S y p v).1) : (q_seen S y p v).2 = S := by
  unfold q_seen at h ⊢
  by_cases g1 : 0 ≤ y ∧ y ≤ 29
  · rw [if_neg (fun q => q g1)] at h ⊢
    by_cases g2 : 0 ≤ p ∧ p ≤ 7
    · rw [if_neg (fun q => q g2)] at h ⊢
      by_cases g3 : 0 ≤ v ∧ v ≤ 99
      · rw [if_neg (fun q => q g3)] at h ⊢
        by_cases g4 : S 44 31 = 8
        · rw [if_pos g4]
        · rw [if_neg g4] at h
          exact absurd (show 0 ≤ S 44 31 + 1 by omega) h
      · rw [if_pos g3]
    · rw [if_pos g2]
  · rw [if_pos g1]
theorem q_seen_row {S : Sx} {y p v : Int} {c : Nat} (h1 : c ≠ 44) (h2 : c ≠ 58) : (q_seen S y p v).2 c = S c := by
  unfold q_seen
  (repeat' split) <;> first | rfl | simp only [su_ne _ h1, su_ne _ h2]
theorem q_seen_44 {S : Sx} {y p v : Int} {k : Nat} (h1 : k ≠ 31) : (q_seen S y p v).2 44 k = S 44 k := by
  unfold q_seen
  (repeat' split) <;> first | rfl | simp (decide := true) only [su_app, ↓reduceIte, if_neg h1]
theorem q_seen_31 {S : Sx} {y p v : Int} (h : 0 ≤ S 44 31 ∧ S 44 31 ≤ 8) : 0 ≤ (q_seen S y p v).2 44 31 ∧ (q_seen S y p v).2 44 31 ≤ 8 := by
  unfold q_seen
  (repeat' split) <;> first | exact h | (simp (decide := true) only [su_app, ↓reduceIte]; omega)
theorem q_seen_r {S : Sx} {y p v : Int} (h : 0 ≤ S 44 31 ∧ S 44 31 ≤ 8) : -4 ≤ (q_seen S y p v).1 ∧ (q_seen S y p v).1 ≤ 9 := by
  unfold q_seen
  (repeat' split) <;> first | (show (-4 : Int) ≤ -2 ∧ (-2 : Int) ≤ 9; decide) | (show (-4 : Int) ≤ -4 ∧ (-4 : Int) ≤ 9; decide) | (show -4 ≤ S 44 31 + 1 ∧ S 44 31 + 1 ≤ 9; omega)
theorem qrd_row (S : Sx) (b : Nat) {c : Nat} (h1 : c ≠ 44) (h2 : c ≠ 58) : ∀ n, qrd S b n c = S c
  | 0 => rfl
  | n + 1 => by simp only [qrd]; rw [q_seen_row h1 h2]; exact qrd_row S b h1 h2 n
theorem qrd_44 (S : Sx) (b : Nat) {k : Nat} (h1 : k ≠ 31) : ∀ n, qrd S b n 44 k = S 44 k
  | 0 => rfl
  | n + 1 => by simp only [qrd]; rw [q_seen_44 h1]; exact qrd_44 S b h1 n
theorem qrd_31 {S : Sx} (b : Nat) (h : 0 ≤ S 44 31 ∧ S 44 31 ≤ 8) : ∀ n, 0 ≤ qrd S b n 44 31 ∧ qrd S b n 44 31 ≤ 8
  | 0 => h
  | n + 1 => by simp only [qrd]; exact q_seen_31 (qrd_31 b h n)

theorem c_X11_read (l : Launch) (Γ : Ev) (d : Nat) (S : Sx) (hI : InvM S) (s : Int) (h_s : R32 s) : Ctr l Γ (d + 3) mX11_read [rf Γ 44, vI s] S (pI (fun r S2 => (r, S2) = q_read S s)) := by
  refine Ctr.of (by decide) rfl rfl (Nat.le_of_ble_eq_true rfl) ?_
  intro κ hl hk hr
  subst hl
  have hI31 : 0 ≤ S 44 31 ∧ S 44 31 ≤ 8 := by
    have h1 := hI.2.1
    have h2 : (S 44 31).toNat ≤ 8 := hI.1.2.2.2.2.2.2.2.2.1
    omega
  have hc47 := hI.2.2.1.2.2.1
  refine G_iload_n hk dX11_read_0 rfl ?_
  refine G_cS1P hk dX11_read_1 msX11_isSheet mlX11_73 (Nat.le_of_ble_eq_true rfl) (c_X11_isSheet _ Γ (d + 1) _ _ ⟨by omega, by omega⟩) ?_
  refine G_bif_ne (tgt := 10) hk dX11_read_4 (by decide) (fun h_4 => ?_) (fun h_4 => ?_)
  · have g45 := hI.2.2.1.1 s.toNat (by omega)
    have g46 := hI.2.2.1.2.1 s.toNat (by omega)
    refine G_rload_n hk dX11_read_10 rfl ?_
    refine G_getR hk dX11_read_11 flX11_7 (by decide) rfl rfl ?_
    refine G_iload_n hk dX11_read_14 rfl ?_
    refine G_iald hk dX11_read_15 (by decide) rfl (by decide) (by omega) (by omega) ?_
    refine G_if_ge (tgt := 25) hk dX11_read_16 (by decide) ⟨by omega, by omega⟩ (fun h_16 => ?_) (fun h_16 => ?_)
    · refine G_iconst hk dX11_read_25 ?_
      refine G_istore_n hk dX11_read_26 (by decide) rfl ?_
      refine G_iconst hk dX11_read_27 ?_
      refine G_istore_n hk dX11_read_28 (by decide) rfl ?_
      have lp := loop_up (P := fun n => ∀ w4 : Option Value, (∀ i, i < n → qrk S (60 * s).toNat (S 46 s.toNat) i = false) → GW κ Γ 29 [some (rf Γ 44), some (vI s), some (vI (n : Int)), some (vI 1), w4] [] (wl Γ (qrd S (60 * s).toNat n))) 21 ?_ ?_ 0 (Nat.zero_le _)
      · exact GW_L (L' := [some (rf Γ 44), some (vI s), some (vI ((0 : Nat) : Int)), some (vI 1), none]) rfl (lp none (fun i hi => absurd hi (by omega)))
      · intro w4 hno
        have h9 := hno 20 (by omega)
        unfold qrk at h9
        simp only [Bool.not_eq_false', Bool.and_eq_true, decide_eq_true_eq] at h9
        omega
      · intro n hn9 ih w4 hno
        have e46 : (qrd S (60 * s).toNat n) 46 = S 46 := qrd_row S _ (by decide) (by decide) n
        have e47 : (qrd S (60 * s).toNat n) 47 = S 47 := qrd_row S _ (by decide) (by decide) n
        have h31 := qrd_31 (60 * s).toNat hI31 n
        refine G_iload_n hk dX11_read_29 rfl ?_
        refine G_if_eq (tgt := 110) hk dX11_read_30 (by decide) ⟨by omega, by omega⟩ (fun h_30 => ?_) (fun h_30 => ?_)
        · exact absurd h_30 (by omega)--stop
        · refine G_iconst hk dX11_read_33 ?_
          refine G_iload_n hk dX11_read_34 rfl ?_
          refine G_imul hk dX11_read_35 ?_
          refine G_iconst hk dX11_read_36 ?_
          refine G_iadd hk dX11_read_37 ?_
          refine G_rload_n hk dX11_read_38 rfl ?_
          refine G_getR hk dX11_read_39 flX11_13 (by decide) rfl rfl ?_
          refine G_iload_n hk dX11_read_42 rfl ?_
          refine G_iald hk dX11_read_43 (by decide) rfl (by decide) (by omega) (by omega) ?_
          rw [e46]
          refine G_icmp_gt (tgt := 110) hk dX11_read_44 (by decide) ⟨by omega, by omega⟩ ⟨by omega, by omega⟩ (fun h_44 => ?_) (fun h_44 => ?_)
          · refine G_iload_n hk dX11_read_110 rfl ?_
            exact G_iret hk hr dX11_read_111 (by unfold q_read; rw [if_neg (by omega), if_neg (by omega)]; have h8 : qrn S (60 * s).toNat (S 46 s.toNat) = n := srch_at _ n hno (by unfold qrk; simp only [Bool.not_eq_true', Bool.and_eq_false_iff, decide_eq_false_iff_not]; left; omega) 21 (by omega); rw [h8])
          · have c1 := hc47 ((60 * s).toNat + 3 * n) (by omega)
            have c2 := hc47 ((60 * s).toNat + 3 * n + 1) (by omega)
            have c3 := hc47 ((60 * s).toNat + 3 * n + 2) (by omega)
            refine G_bipush hk dX11_read_47 (by decide) ?_
            refine G_iload_n hk dX11_read_49 rfl ?_
            refine G_imul hk dX11_read_50 ?_
            refine G_iconst hk dX11_read_51 ?_
            refine G_iload_n hk dX11_read_52 rfl ?_
            refine G_imul hk dX11_read_53 ?_
            refine G_iadd hk dX11_read_54 ?_
            refine G_istore hk dX11_read_55 (by decide) rfl ?_
            refine G_rload_n hk dX11_read_57 rfl ?_
            refine G_rload_n hk dX11_read_58 rfl ?_
            refine G_getR hk dX11_read_59 flX11_16 (by decide) rfl rfl ?_
            refine G_iload hk dX11_read_62 rfl ?_
            refine G_iald hk dX11_read_64 (by decide) rfl (by decide) (by omega) (by omega) ?_
            rw [e47, show (60 * s + 3 * (n : Int)).toNat = (60 * s).toNat + 3 * n by omega]
            refine G_rload_n hk dX11_read_65 rfl ?_
            refine G_getR hk dX11_read_66 flX11_16 (by decide) rfl rfl ?_
            refine G_iload hk dX11_read_69 rfl ?_
            refine G_iconst hk dX11_read_71 ?_
            refine G_iadd hk dX11_read_72 ?_
            refine G_iald hk dX11_read_73 (by decide) rfl (by decide) (by omega) (by omega) ?_
            rw [e47, show (60 * s + 3 * (n : Int) + 1).toNat = (60 * s).toNat + 3 * n + 1 by omega]
            refine G_rload_n hk dX11_read_74 rfl ?_
            refine G_getR hk dX11_read_75 flX11_16 (by decide) rfl rfl ?_
            refine G_iload hk dX11_read_78 rfl ?_
            refine G_iconst hk dX11_read_80 ?_
            refine G_iadd hk dX11_read_81 ?_
            refine G_iald hk dX11_read_82 (by decide) rfl (by decide) (by omega) (by omega) ?_
            rw [e47, show (60 * s + 3 * (n : Int) + 2).toNat = (60 * s).toNat + 3 * n + 2 by omega]
            refine G_cV3I hk dX11_read_83 mvX11_seen mlX11_270 (by decide) rfl rfl (Nat.le_of_ble_eq_true rfl) (c_X11_seen _ Γ (d + 0) _ _ _ _ c1 c2 c3 h31) (fun r_83 S_83 hp_83 => ?_)
            have hr83 : -4 ≤ r_83 ∧ r_83 ≤ 9 := by
              have h5 := q_seen_r (y := S 47 ((60 * s).toNat + 3 * n)) (p := S 47 ((60 * s).toNat + 3 * n + 1)) (v := S 47 ((60 * s).toNat + 3 * n + 2)) h31
              rw [← hp_83] at h5
              exact h5
            have hr84 : r_83 = (q_seen (qrd S (60 * s).toNat n) (S 47 ((60 * s).toNat + 3 * n)) (S 47 ((60 * s).toNat + 3 * n + 1)) (S 47 ((60 * s).toNat + 3 * n + 2))).1 := by rw [← hp_83]
            have hS83 : S_83 = (q_seen (qrd S (60 * s).toNat n) (S 47 ((60 * s).toNat + 3 * n)) (S 47 ((60 * s).toNat + 3 * n + 1)) (S 47 ((60 * s).toNat + 3 * n + 2))).2 := by rw [← hp_83]
            refine G_if_lt (tgt := 93) hk dX11_read_86 (by decide) ⟨by omega, by omega⟩ (fun h_86 => ?_) (fun h_86 => ?_)
            · refine G_iconst hk dX11_read_93 ?_
              refine G_istore_n hk dX11_read_94 (by decide) rfl ?_
              refine G_iload_n hk dX11_read_95 rfl ?_
              refine G_iload_n hk dX11_read_96 rfl ?_
              refine G_if_eq (tgt := 104) hk dX11_read_97 (by decide) ⟨by omega, by omega⟩ (fun h_97 => ?_) (fun h_97 => ?_)
              · refine G_iconst hk dX11_read_104 ?_
                refine G_iadd hk dX11_read_105 ?_
                refine G_istore_n hk dX11_read_106 (by decide) rfl ?_
                refine G_goto (tgt := 29) hk dX11_read_107 (by decide) ?_
                refine G_iload_n hk dX11_read_29 rfl ?_
                refine G_if_eq (tgt := 110) hk dX11_read_30 (by decide) ⟨by omega, by omega⟩ (fun h_30 => ?_) (fun h_30 => ?_)
                · refine G_iload_n hk dX11_read_110 rfl ?_
                  have h7 : S_83 = (qrd S (60 * s).toNat n) := by
                    rw [hS83]
                    exact q_seen_no h31 (by rw [← hr84]; omega)
                  rw [h7]
                  exact G_iret hk hr dX11_read_111 (by unfold q_read; rw [if_neg (by omega), if_neg (by omega)]; have h8 : qrn S (60 * s).toNat (S 46 s.toNat) = n := srch_at _ n hno (by unfold qrk; simp only [Bool.not_eq_true', Bool.and_eq_false_iff, decide_eq_false_iff_not]; right; rw [← hr84]; omega) 21 (by omega); rw [h8]; simp)
                · exact absurd h_30 (by omega)--stop
              · exact absurd h_97 (by omega)--stop
            · refine G_iconst hk dX11_read_89 ?_
              refine G_goto (tgt := 94) hk dX11_read_90 (by decide) ?_
              refine G_istore_n hk dX11_read_94 (by decide) rfl ?_
              refine G_iload_n hk dX11_read_95 rfl ?_
              refine G_iload_n hk dX11_read_96 rfl ?_
              refine G_if_eq (tgt := 104) hk dX11_read_97 (by decide) ⟨by omega, by omega⟩ (fun h_97 => ?_) (fun h_97 => ?_)
              · exact absurd h_97 (by omega)--stop
              · refine G_iconst hk dX11_read_100 ?_
                refine G_goto (tgt := 105) hk dX11_read_101 (by decide) ?_
                refine G_iadd hk dX11_read_105 ?_
                refine G_istore_n hk dX11_read_106 (by decide) rfl ?_
                refine G_goto (tgt := 29) hk dX11_read_107 (by decide) ?_
                have h7 : S_83 = qrd S (60 * s).toNat (n + 1) := hS83
                rw [h7]
                refine ih _ (fun i hi => ?_)
                by_cases e : i = n
                · rw [e]
                  unfold qrk
                  simp only [Bool.not_eq_false', Bool.and_eq_true, decide_eq_true_eq]
                  rw [← hr84]
                  exact ⟨by omega, by omega⟩
                · exact hno i (by omega)
    · refine G_rload_n hk dX11_read_19 rfl ?_
      refine G_iconst hk dX11_read_20 ?_
      refine G_cV1I hk dX11_read_21 mvX11_finds mlX11_79 (by decide) rfl rfl (Nat.le_of_ble_eq_true rfl) (c_X11_finds _ Γ (d + 2) _ _) (fun r_21 S_21 hp_21 => ?_)
      obtain ⟨rfl, rfl⟩ := hp_21
      exact G_iret hk hr dX11_read_24 (by unfold q_read; (repeat' split) <;> first | (exfalso; omega) | rfl)
  · refine G_bipush hk dX11_read_7 (by decide) ?_
    exact G_iret hk hr dX11_read_9 (by unfold q_read; (repeat' split) <;> first | (exfalso; omega) | rfl)

def q_write (S : Sx) (y s : Int) : Qx := if ¬ (0 ≤ y ∧ y ≤ 29) then (-2, S) else if ¬ (0 ≤ s ∧ s ≤ 3) then (-2, S) else if S 45 s.toNat < 0 then (-11, su S 44 4 1) else (lsr (S 46 s.toNat) (aN (av S)), sr S 47 (fill (S 47) (fun p => cutf (S 45 s.toNat) (a_solidOf (av S) y (p : Int))) (60 * s).toNat (lsr (S 46 s.toNat) (aN (av S))).toNat))
theorem frQ_sr {S S1 S2 : Sx} {f : Nat → Int} (h : frQ S S1) (h2 : S2 = sr S1 47 f) : frQ (sr S 47 f) S2 := by
  subst h2
  refine ⟨fun c a b e g i j => ?_, h.2.1, h.2.2.1, h.2.2.2⟩
  by_cases q : c = 47
  · rw [q, sr_at, sr_at]
  · rw [sr_ne _ q, sr_ne _ q]; exact h.1 c a b e g i j

theorem c_X11_write (l : Launch) (Γ : Ev) (d : Nat) (S : Sx) (hI : InvM S) (y s : Int) (h_y : R32 y) (h_s : R32 s) : Ctr l Γ (d + 7) mX11_write [rf Γ 44, vI y, vI s] S (pI (fun r S2 => r = (q_write S y s).1 ∧ frQ (q_write S y s).2 S2)) := by
  refine Ctr.of (by decide) rfl rfl (Nat.le_of_ble_eq_true rfl) ?_
  intro κ hl hk hr
  subst hl
  have n8 := aN_8 hI.1
  have hrf : ∀ S1 : Sx, S1 = S ∨ S1 = su S 44 4 1 → frQ S1 S1 := by
    rintro S1 (rfl | rfl)
    · exact ⟨fun _ _ _ _ _ _ _ => rfl, fun _ _ => rfl, hI.2.2.2.2.1, hI.2.2.2.2.2.2.1⟩
    · exact ⟨fun _ _ _ _ _ _ _ => rfl, fun _ _ => rfl, hI.2.2.2.2.1, hI.2.2.2.2.2.2.1⟩
  refine G_iload_n hk dX11_write_0 rfl ?_
  refine G_cS1P hk dX11_write_1 msX11_isYear mlX11_130 (Nat.le_of_ble_eq_true rfl) (c_X11_isYear _ Γ (d + 5) _ _ ⟨by omega, by omega⟩) ?_
  refine G_bif_eq (tgt := 14) hk dX11_write_4 (by decide) (fun h_4 => ?_) (fun h_4 => ?_)
  · refine G_bipush hk dX11_write_14 (by decide) ?_
    exact G_iret hk hr dX11_write_16 ⟨by unfold q_write; (repeat' split) <;> first | (exfalso; omega) | rfl, by unfold q_write; (repeat' split) <;> first | (exfalso; omega) | exact hrf _ (Or.inl rfl)⟩
  · refine G_iload_n hk dX11_write_7 rfl ?_
    refine G_cS1P hk dX11_write_8 msX11_isSheet mlX11_73 (Nat.le_of_ble_eq_true rfl) (c_X11_isSheet _ Γ (d + 5) _ _ ⟨by omega, by omega⟩) ?_
    refine G_bif_ne (tgt := 17) hk dX11_write_11 (by decide) (fun h_11 => ?_) (fun h_11 => ?_)
    · have g45 := hI.2.2.1.1 s.toNat (by omega)
      have g46 := hI.2.2.1.2.1 s.toNat (by omega)
      refine G_rload_n hk dX11_write_17 rfl ?_
      refine G_getR hk dX11_write_18 flX11_7 (by decide) rfl rfl ?_
      refine G_iload_n hk dX11_write_21 rfl ?_
      refine G_iald hk dX11_write_22 (by decide) rfl (by decide) (by omega) (by omega) ?_
      refine G_if_ge (tgt := 32) hk dX11_write_23 (by decide) ⟨by omega, by omega⟩ (fun h_23 => ?_) (fun h_23 => ?_)
      · refine G_rload_n hk dX11_write_32 rfl ?_
        refine G_cV0I hk dX11_write_33 mvX11_reads mlX11_113 (by decide) rfl rfl (Nat.le_of_ble_eq_true rfl) (c_rd hI) (fun r_33 S_33 hp_33 => ?_)
        obtain ⟨hr0, hR, hq⟩ := hp_33
        have eQ := av_frQ hq
        refine G_pop hk dX11_write_36 rfl ?_
        refine G_rload_n hk dX11_write_37 rfl ?_
        refine G_iload_n hk dX11_write_38 rfl ?_
        refine G_cV1V hk dX11_write_39 mvX11_lives mlX11_192 (by decide) rfl rfl (Nat.le_of_ble_eq_true rfl) (c_lv hR ⟨by omega, by omega⟩) (fun S_39 hp_39 => ?_)
        obtain ⟨hX1, hR1, hf1⟩ := hp_39
        rw [eQ] at hX1
        have e8 : S_39 44 8 = (aN (av S) : Int) := by rw [hR1.2.1, av_frP hf1, eQ]
        have e46 : S_39 46 = S 46 := by rw [hf1.1 46 (by decide) (by decide) (by decide) (by decide) (by decide), hq.1 46 (by decide) (by decide) (by decide) (by decide) (by decide) (by decide)]
        have e45 : S_39 45 = S 45 := by rw [hf1.1 45 (by decide) (by decide) (by decide) (by decide) (by decide), hq.1 45 (by decide) (by decide) (by decide) (by decide) (by decide) (by decide)]
        have e47 : S_39 47 = S 47 := by rw [hf1.1 47 (by decide) (by decide) (by decide) (by decide) (by decide), hq.1 47 (by decide) (by decide) (by decide) (by decide) (by decide) (by decide)]
        have hl9 := lsr_le (a := S 46 s.toNat) (b := (aN (av S) : Int)) (by omega) (by omega)
        refine G_rload_n hk dX11_write_42 rfl ?_
        refine G_getR hk dX11_write_43 flX11_13 (by decide) rfl rfl ?_
        refine G_iload_n hk dX11_write_46 rfl ?_
        refine G_iald hk dX11_write_47 (by decide) rfl (by decide) (by omega) (by omega) ?_
        rw [e46]
        refine G_rload_n hk dX11_write_48 rfl ?_
        refine G_getI hk dX11_write_49 flX11_97 (by decide) rfl rfl ?_
        rw [e8]
        refine G_cS2P hk dX11_write_52 msX11_lesser mlX11_151 (Nat.le_of_ble_eq_true rfl) (c_X11_lesser _ Γ (d + 6) _ _ _ ⟨by omega, by omega⟩ ⟨by omega, by omega⟩) ?_
        rw [show (if S 46 s.toNat < (aN (av S) : Int) then S 46 s.toNat else (aN (av S) : Int)) = lsr (S 46 s.toNat) (aN (av S)) from rfl]
        refine G_istore_n hk dX11_write_55 (by decide) rfl ?_
        refine G_iconst hk dX11_write_56 ?_
        refine G_istore hk dX11_write_57 (by decide) rfl ?_
        have lp := loop_up (P := fun k => GW κ Γ 59 [some (rf Γ 44), some (vI y), some (vI s), some (vI (lsr (S 46 s.toNat) (aN (av S)))), some (vI (k : Int))] [] (wl Γ (sr S_39 47 (fill (S_39 47) (fun p => cutf (S 45 s.toNat) (a_solidOf (av S) y (p : Int))) (60 * s).toNat k)))) (lsr (S 46 s.toNat) (aN (av S))).toNat ?_ ?_ 0 (Nat.zero_le _)
        · rw [fill_0, sr_self] at lp
          exact lp
        · skip
          refine G_iload hk dX11_write_59 rfl ?_
          refine G_iload_n hk dX11_write_61 rfl ?_
          refine G_icmp_ge (tgt := 99) hk dX11_write_62 (by decide) ⟨by omega, by omega⟩ ⟨by omega, by omega⟩ (fun h_62 => ?_) (fun h_62 => ?_)
          · refine G_iload_n hk dX11_write_99 rfl ?_
            exact G_iret hk hr dX11_write_100 ⟨by unfold q_write; rw [if_neg (by omega), if_neg (by omega), if_neg (by omega)], by
            unfold q_write
            rw [if_neg (by omega), if_neg (by omega), if_neg (by omega)]
            exact frQ_sr (frQ_t hq (frQ_P hf1)) (by rw [e47])⟩
          · exact absurd h_62 (by omega)--stop
        · intro k hk9 ih
          have e54 := hX1.1 k (by omega)
          refine G_iload hk dX11_write_59 rfl ?_
          refine G_iload_n hk dX11_write_61 rfl ?_
          refine G_icmp_ge (tgt := 99) hk dX11_write_62 (by decide) ⟨by omega, by omega⟩ ⟨by omega, by omega⟩ (fun h_62 => ?_) (fun h_62 => ?_)
          · exact absurd h_62 (by omega)--stop
          · refine G_rload_n hk dX11_write_65 rfl ?_
            refine G_getR hk dX11_write_66 flX11_16 (by decide) rfl rfl ?_
            refine G_bipush hk dX11_write_69 (by decide) ?_
            refine G_iload_n hk dX11_write_71 rfl ?_
            refine G_imul hk dX11_write_72 ?_
            refine G_iload hk dX11_write_73 rfl ?_
            refine G_iadd hk dX11_write_75 ?_
            refine G_rload_n hk dX11_write_76 rfl ?_
            refine G_getR hk dX11_write_77 flX11_7 (by decide) rfl rfl ?_
            refine G_iload_n hk dX11_write_80 rfl ?_
            refine G_iald hk dX11_write_81 (by decide) rfl (by decide) (by omega) (by omega) ?_
            rw [sr_ne _ (show (45 : Nat) ≠ 47 by decide), e45]
            refine G_rload_n hk dX11_write_82 rfl ?_
            refine G_getR hk dX11_write_83 flX11_37 (by decide) rfl rfl ?_
            refine G_iload hk dX11_write_86 rfl ?_
            refine G_iald hk dX11_write_88 (by decide) rfl (by decide) (by omega) (by omega) ?_
            rw [sr_ne _ (show (54 : Nat) ≠ 47 by decide), Int.toNat_natCast, e54]
            refine G_cS2P hk dX11_write_89 msX11_cut mlX11_87 (Nat.le_of_ble_eq_true rfl) (c_X11_cut _ Γ (d + 6) _ _ _ ⟨by omega, by omega⟩) ?_
            refine G_iast hk dX11_write_92 (by decide) rfl (by decide) (by omega) (by omega) ?_
            have e8 : su (sr S_39 47 (fill (S_39 47) (fun p => cutf (S 45 s.toNat) (a_solidOf (av S) y (p : Int))) (60 * s).toNat k)) 47 (60 * s + (k : Int)).toNat (if S 45 s.toNat = 0 then zb8 ((lv (av S) (y.toNat + 1)).1 k) else if S 45 s.toNat = 1 then zs16 ((lv (av S) (y.toNat + 1)).1 k) else (lv (av S) (y.toNat + 1)).1 k) = sr S_39 47 (fill (S_39 47) (fun p => cutf (S 45 s.toNat) (a_solidOf (av S) y (p : Int))) (60 * s).toNat (k + 1)) := by
              rw [sr_su, show (60 * s + (k : Int)).toNat = (60 * s).toNat + k by omega]
              rw [← fill_s (S_39 47) (fun p => cutf (S 45 s.toNat) (a_solidOf (av S) y (p : Int)))]
              rfl
            rw [e8]
            refine G_iinc hk dX11_write_93 rfl (by decide) rfl ?_
            refine G_goto (tgt := 59) hk dX11_write_96 (by decide) ?_
            exact ih
      · refine G_rload_n hk dX11_write_26 rfl ?_
        refine G_iconst hk dX11_write_27 ?_
        refine G_cV1I hk dX11_write_28 mvX11_finds mlX11_79 (by decide) rfl rfl (Nat.le_of_ble_eq_true rfl) (c_X11_finds _ Γ (d + 6) _ _) (fun r_28 S_28 hp_28 => ?_)
        obtain ⟨rfl, rfl⟩ := hp_28
        exact G_iret hk hr dX11_write_31 ⟨by unfold q_write; (repeat' split) <;> first | (exfalso; omega) | rfl, by unfold q_write; (repeat' split) <;> first | (exfalso; omega) | exact hrf _ (Or.inr rfl)⟩
    · refine G_bipush hk dX11_write_14 (by decide) ?_
      exact G_iret hk hr dX11_write_16 ⟨by unfold q_write; (repeat' split) <;> first | (exfalso; omega) | rfl, by unfold q_write; (repeat' split) <;> first | (exfalso; omega) | exact hrf _ (Or.inl rfl)⟩
