/-! the class's collectors -/
def CoS (S : Sx) (A : Av) (c : Nat → Bool) (li : Nat → Int) : Prop := (∀ w, w < 4 → S 24 w = aW A w) ∧ (∀ k, k < 12 → S 25 k = if k < anp A then aP A (4 * k + 1) else -1) ∧ (∀ k, k < 12 → S 26 k = if c k = true then li k else -1)
def CcO (A : Av) (c : Nat → Bool) (li : Nat → Int) : Prop := AvOk A ∧ (∀ k, k < 12 → c k = true → k < anp A) ∧ (∀ k, k < anp A → 0 ≤ li k ∧ li k ≤ 3)
theorem Co_r {S : Sx} {A : Av} {c : Nat → Bool} {li : Nat → Int} (h : CoS S A c li) (hc : CcO A c li) : (∀ w, w < 4 → R32 (S 24 w)) ∧ (∀ k, k < 12 → -1 ≤ S 25 k ∧ S 25 k ≤ 7) ∧ (∀ k, k < 12 → -1 ≤ S 26 k ∧ S 26 k ≤ 3) := by
  refine ⟨fun w hw => ?_, fun k hk => ?_, fun k hk => ?_⟩
  · have := hc.1.2.2.2.2.2.2.2.1 w hw
    rw [h.1 w hw]
    exact ⟨by omega, by omega⟩
  · rw [h.2.1 k hk]
    split
    · next g => have := (hc.1.2.2.2.1 k g).2.1; omega
    · omega
  · rw [h.2.2 k hk]
    split
    · next g => have := hc.2.2 k (hc.2.1 k hk g); omega
    · omega
theorem gd_is {S : Sx} {A : Av} {c : Nat → Bool} {li : Nat → Int} (h : CoS S A c li) (hc : CcO A c li) {j k : Nat} (hj : j < 12) (hk : k < 12) : gd c (aW A) (aP A) li j k = true ↔ (0 ≤ S 26 j ∧ S 26 j < 4 ∧ S 24 (S 26 j).toNat = S 25 k ∧ ¬ S 24 (S 26 j).toNat = S 25 j) ∧ (0 ≤ S 26 k ∧ S 26 k < 4 ∧ S 24 (S 26 k).toNat = S 25 j ∧ ¬ S 24 (S 26 k).toNat = S 25 k) := by
  have a1 := h.2.2 j hj
  have a2 := h.2.2 k hk
  unfold gd
  cases cj : c j with
  | false =>
    rw [cj] at a1
    simp at a1
    simp [a1]
  | true =>
    cases ck : c k with
    | false =>
      rw [ck] at a2
      simp at a2
      simp [a2]
    | true =>
      rw [cj] at a1
      rw [ck] at a2
      simp only [if_true] at a1 a2
      have nj := hc.2.1 j hj cj
      have nk := hc.2.1 k hk ck
      have lj := hc.2.2 j nj
      have lk := hc.2.2 k nk
      have b1 := h.2.1 j hj
      have b2 := h.2.1 k hk
      rw [if_pos nj] at b1
      rw [if_pos nk] at b2
      have w1 := h.1 (li j).toNat (by omega)
      have w2 := h.1 (li k).toNat (by omega)
      rw [a1, a2, b1, b2, w1, w2]
      unfold gnc
      simp only [Bool.true_and, decide_eq_true_eq]
      constructor
      · rintro ⟨g1, g2, g3, g4, g5⟩
        exact ⟨⟨by omega, by omega, g2, g3⟩, ⟨by omega, by omega, g4, g5⟩⟩
      · rintro ⟨⟨_, _, g2, g3⟩, ⟨_, _, g4, g5⟩⟩
        exact ⟨fun e => g5 (by rw [← e]; exact g2), g2, g3, g4, g5⟩
def fsw (c : Nat → Bool) (W P : Nat → Int) (n : Nat) (li : Nat → Int) : Int := if pJ c W P n li < n then (pJ c W P n li : Int) * 12 + (pK c W P n li (pJ c W P n li) : Int) else -1

theorem c_X2_changeWant (l : Launch) (Γ : Ev) (d : Nat) (S : Sx) (w p : Int) (hw : 0 ≤ w ∧ w ≤ 3) : Ctr l Γ d mX2_changeWant [rf Γ 23, vI w, vI p] S (pI (fun r S2 => r = S 24 w.toNat ∧ S2 = su S 24 w.toNat p)) := by
  refine Ctr.of (by decide) rfl rfl (Nat.le_of_ble_eq_true rfl) ?_
  intro κ hl hk hr
  subst hl
  refine G_iload_n hk dX2_changeWant_0 rfl ?_
  refine G_if_lt (tgt := 9) hk dX2_changeWant_1 (by decide) ⟨by omega, by omega⟩ (fun h_1 => ?_) (fun h_1 => ?_)
  · exact absurd h_1 (by omega)--stop
  · refine G_iload_n hk dX2_changeWant_4 rfl ?_
    refine G_iconst hk dX2_changeWant_5 ?_
    refine G_icmp_lt (tgt := 12) hk dX2_changeWant_6 (by decide) ⟨by omega, by omega⟩ ⟨by omega, by omega⟩ (fun h_6 => ?_) (fun h_6 => ?_)
    · refine G_rload_n hk dX2_changeWant_12 rfl ?_
      refine G_getR hk dX2_changeWant_13 flX2_9 (by decide) rfl rfl ?_
      refine G_iload_n hk dX2_changeWant_16 rfl ?_
      refine G_iald hk dX2_changeWant_17 (by decide) rfl (by decide) (by omega) (by omega) ?_
      refine G_istore_n hk dX2_changeWant_18 (by decide) rfl ?_
      refine G_rload_n hk dX2_changeWant_19 rfl ?_
      refine G_getR hk dX2_changeWant_20 flX2_9 (by decide) rfl rfl ?_
      refine G_iload_n hk dX2_changeWant_23 rfl ?_
      refine G_iload_n hk dX2_changeWant_24 rfl ?_
      refine G_iast hk dX2_changeWant_25 (by decide) rfl (by decide) (by omega) (by omega) ?_
      refine G_iload_n hk dX2_changeWant_26 rfl ?_
      exact G_iret hk hr dX2_changeWant_27 ⟨rfl, rfl⟩
    · exact absurd h_6 (by omega)--stop

theorem c_X2_isGain (l : Launch) (Γ : Ev) (d : Nat) (S : Sx) (o g n : Int) (ho : -1 ≤ o ∧ o ≤ 3) (hg : R32 g) (hn : R32 n) (hw : ∀ w, w < 4 → R32 (S 24 w)) : Ctr l Γ d mX2_isGain [rf Γ 23, vI o, vI g, vI n] S (pP S (bz (0 ≤ o ∧ o < 4 ∧ S 24 o.toNat = n ∧ ¬ S 24 o.toNat = g))) := by
  refine Ctr.of (by decide) rfl rfl (Nat.le_of_ble_eq_true rfl) ?_
  intro κ hl hk hr
  subst hl
  refine G_iload_n hk dX2_isGain_0 rfl ?_
  refine G_if_lt (tgt := 33) hk dX2_isGain_1 (by decide) ⟨by omega, by omega⟩ (fun h_1 => ?_) (fun h_1 => ?_)
  · refine G_iconst hk dX2_isGain_33 ?_
    exact G_zret hk hr dX2_isGain_34 (by decide) ⟨by simp only [bz]; split <;> first | rfl | (exfalso; omega), rfl⟩
  · refine G_iload_n hk dX2_isGain_4 rfl ?_
    refine G_iconst hk dX2_isGain_5 ?_
    refine G_icmp_ge (tgt := 33) hk dX2_isGain_6 (by decide) ⟨by omega, by omega⟩ ⟨by omega, by omega⟩ (fun h_6 => ?_) (fun h_6 => ?_)
    · refine G_iconst hk dX2_isGain_33 ?_
      exact G_zret hk hr dX2_isGain_34 (by decide) ⟨by simp only [bz]; split <;> first | rfl | (exfalso; omega), rfl⟩
    · have hwo := hw o.toNat (by omega)
      refine G_rload_n hk dX2_isGain_9 rfl ?_
      refine G_getR hk dX2_isGain_10 flX2_9 (by decide) rfl rfl ?_
      refine G_iload_n hk dX2_isGain_13 rfl ?_
      refine G_iald hk dX2_isGain_14 (by decide) rfl (by decide) (by omega) (by omega) ?_
      refine G_iload_n hk dX2_isGain_15 rfl ?_
      refine G_icmp_ne (tgt := 33) hk dX2_isGain_16 (by decide) ⟨by omega, by omega⟩ ⟨by omega, by omega⟩ (fun h_16 => ?_) (fun h_16 => ?_)
      · refine G_iconst hk dX2_isGain_33 ?_
        exact G_zret hk hr dX2_isGain_34 (by decide) ⟨by simp only [bz]; split <;> first | rfl | (exfalso; omega), rfl⟩
      · refine G_rload_n hk dX2_isGain_19 rfl ?_
        refine G_getR hk dX2_isGain_20 flX2_9 (by decide) rfl rfl ?_
        refine G_iload_n hk dX2_isGain_23 rfl ?_
        refine G_iald hk dX2_isGain_24 (by decide) rfl (by decide) (by omega) (by omega) ?_
        refine G_iload_n hk dX2_isGain_25 rfl ?_
        refine G_icmp_eq (tgt := 33) hk dX2_isGain_26 (by decide) ⟨by omega, by omega⟩ ⟨by omega, by omega⟩ (fun h_26 => ?_) (fun h_26 => ?_)
        · refine G_iconst hk dX2_isGain_33 ?_
          exact G_zret hk hr dX2_isGain_34 (by decide) ⟨by simp only [bz]; split <;> first | rfl | (exfalso; omega), rfl⟩
        · refine G_iconst hk dX2_isGain_29 ?_
          refine G_goto (tgt := 34) hk dX2_isGain_30 (by decide) ?_
          exact G_zret hk hr dX2_isGain_34 (by decide) ⟨by simp only [bz]; split <;> first | rfl | (exfalso; omega), rfl⟩

theorem c_X2_findSwap (l : Launch) (Γ : Ev) (d : Nat) (S : Sx) (A : Av) (c : Nat → Bool) (li : Nat → Int) (h : CoS S A c li) (hc : CcO A c li) : Ctr l Γ (d + 1) mX2_findSwap [rf Γ 23] S (pP S (fsw c (aW A) (aP A) (anp A) li)) := by
  refine Ctr.of (by decide) rfl rfl (Nat.le_of_ble_eq_true rfl) ?_
  intro κ hl hk hr
  subst hl
  obtain ⟨r24, r25, r26⟩ := Co_r h hc
  have r25r : ∀ k, k < 12 → R32 (S 25 k) := fun k hk => by have := r25 k hk; exact ⟨by omega, by omega⟩
  have n12 := hc.1.2.2.1
  refine G_iconst hk dX2_findSwap_0 ?_
  refine G_istore_n hk dX2_findSwap_1 (by decide) rfl ?_
  have lp := loop_up (P := fun j => ∀ q2 : Option Value, (∀ i, i < j → pK c (aW A) (aP A) (anp A) li i = anp A) → GW κ Γ 2 [some (rf Γ 23), some (vI (j : Int)), q2] [] (wl Γ S)) 12 ?_ ?_ 0 (Nat.zero_le _) none (fun i hi => absurd hi (by omega))
  · exact GW_L rfl lp
  · intro q2 hj
    refine G_iload_n hk dX2_findSwap_2 rfl ?_
    refine G_bipush hk dX2_findSwap_3 (by decide) ?_
    refine G_icmp_ge (tgt := 87) hk dX2_findSwap_5 (by decide) ⟨by omega, by omega⟩ ⟨by omega, by omega⟩ (fun h_5 => ?_) (fun h_5 => ?_)
    · refine G_iconst hk dX2_findSwap_87 ?_
      exact G_iret hk hr dX2_findSwap_88 ⟨by
        have e2 : pJ c (aW A) (aP A) (anp A) li = anp A := srch_none _ _ (fun i hi => decide_eq_false (by rw [hj i (by omega)]; omega))
        unfold fsw
        rw [e2, if_neg (by omega)], rfl⟩
    · exact absurd h_5 (by omega)--stop
  · intro j hj9 ih q2 hj
    refine G_iload_n hk dX2_findSwap_2 rfl ?_
    refine G_bipush hk dX2_findSwap_3 (by decide) ?_
    refine G_icmp_ge (tgt := 87) hk dX2_findSwap_5 (by decide) ⟨by omega, by omega⟩ ⟨by omega, by omega⟩ (fun h_5 => ?_) (fun h_5 => ?_)
    · exact absurd h_5 (by omega)--stop
    · refine G_iload_n hk dX2_findSwap_8 rfl ?_
      refine G_iconst hk dX2_findSwap_9 ?_
      refine G_iadd hk dX2_findSwap_10 ?_
      refine G_istore_n hk dX2_findSwap_11 (by decide) rfl ?_
      have lp2 := loop_up (P := fun k => j < k → (∀ i, i < k → (decide (j < i) && gd c (aW A) (aP A) li j i) = false) → GW κ Γ 12 [some (rf Γ 23), some (vI (j : Int)), some (vI (k : Int))] [] (wl Γ S)) 12 ?_ ?_ (j + 1) (by omega) (by omega) (fun i hi => by rw [decide_eq_false (by omega)]; rfl)
      · exact lp2
      · intro _ hno
        refine G_iload_n hk dX2_findSwap_12 rfl ?_
        refine G_bipush hk dX2_findSwap_13 (by decide) ?_
        refine G_icmp_ge (tgt := 81) hk dX2_findSwap_15 (by decide) ⟨by omega, by omega⟩ ⟨by omega, by omega⟩ (fun h_15 => ?_) (fun h_15 => ?_)
        · refine G_iinc hk dX2_findSwap_81 rfl (by decide) rfl ?_
          refine G_goto (tgt := 2) hk dX2_findSwap_84 (by decide) ?_
          refine ih _ (fun i hi => ?_)
          by_cases e : i = j
          · rw [e]
            exact srch_none _ _ (fun q hq => hno q (by omega))
          · exact hj i (by omega)
        · exact absurd h_15 (by omega)--stop
      · intro k hk9 ih2 hjk hno
        have g := gd_is h hc hj9 hk9
        refine G_iload_n hk dX2_findSwap_12 rfl ?_
        refine G_bipush hk dX2_findSwap_13 (by decide) ?_
        refine G_icmp_ge (tgt := 81) hk dX2_findSwap_15 (by decide) ⟨by omega, by omega⟩ ⟨by omega, by omega⟩ (fun h_15 => ?_) (fun h_15 => ?_)
        · exact absurd h_15 (by omega)--stop
        · refine G_rload_n hk dX2_findSwap_18 rfl ?_
          refine G_rload_n hk dX2_findSwap_19 rfl ?_
          refine G_getR hk dX2_findSwap_20 flX2_18 (by decide) rfl rfl ?_
          refine G_iload_n hk dX2_findSwap_23 rfl ?_
          refine G_iald hk dX2_findSwap_24 (by decide) rfl (by decide) (by omega) (by omega) ?_
          rw [show ((j : Int)).toNat = j from rfl]
          refine G_rload_n hk dX2_findSwap_25 rfl ?_
          refine G_getR hk dX2_findSwap_26 flX2_15 (by decide) rfl rfl ?_
          refine G_iload_n hk dX2_findSwap_29 rfl ?_
          refine G_iald hk dX2_findSwap_30 (by decide) rfl (by decide) (by omega) (by omega) ?_
          rw [show ((j : Int)).toNat = j from rfl]
          refine G_rload_n hk dX2_findSwap_31 rfl ?_
          refine G_getR hk dX2_findSwap_32 flX2_15 (by decide) rfl rfl ?_
          refine G_iload_n hk dX2_findSwap_35 rfl ?_
          refine G_iald hk dX2_findSwap_36 (by decide) rfl (by decide) (by omega) (by omega) ?_
          rw [show ((k : Int)).toNat = k from rfl]
          refine G_cV3P hk dX2_findSwap_37 mvX2_isGain mlX2_36 (by decide) rfl rfl (Nat.le_of_ble_eq_true rfl) (c_X2_isGain _ Γ (d + 0) _ _ _ _ (r26 _ (by omega)) (r25r _ (by omega)) (r25r _ (by omega)) r24) ?_
          refine G_bif_eq (tgt := 75) hk dX2_findSwap_40 (by decide) (fun h_40 => ?_) (fun h_40 => ?_)
          · refine G_iinc hk dX2_findSwap_75 rfl (by decide) rfl ?_
            refine G_goto (tgt := 12) hk dX2_findSwap_78 (by decide) ?_
            refine ih2 (by omega) (fun i hi => ?_)
            by_cases e : i = k
            · rw [e, decide_eq_true hjk, Bool.true_and]
              cases q : gd c (aW A) (aP A) li j k with
              | false => rfl
              | true => exact absurd (g.mp q).1 h_40
            · exact hno i (by omega)
          · refine G_rload_n hk dX2_findSwap_43 rfl ?_
            refine G_rload_n hk dX2_findSwap_44 rfl ?_
            refine G_getR hk dX2_findSwap_45 flX2_18 (by decide) rfl rfl ?_
            refine G_iload_n hk dX2_findSwap_48 rfl ?_
            refine G_iald hk dX2_findSwap_49 (by decide) rfl (by decide) (by omega) (by omega) ?_
            rw [show ((k : Int)).toNat = k from rfl]
            refine G_rload_n hk dX2_findSwap_50 rfl ?_
            refine G_getR hk dX2_findSwap_51 flX2_15 (by decide) rfl rfl ?_
            refine G_iload_n hk dX2_findSwap_54 rfl ?_
            refine G_iald hk dX2_findSwap_55 (by decide) rfl (by decide) (by omega) (by omega) ?_
            rw [show ((k : Int)).toNat = k from rfl]
            refine G_rload_n hk dX2_findSwap_56 rfl ?_
            refine G_getR hk dX2_findSwap_57 flX2_15 (by decide) rfl rfl ?_
            refine G_iload_n hk dX2_findSwap_60 rfl ?_
            refine G_iald hk dX2_findSwap_61 (by decide) rfl (by decide) (by omega) (by omega) ?_
            rw [show ((j : Int)).toNat = j from rfl]
            refine G_cV3P hk dX2_findSwap_62 mvX2_isGain mlX2_36 (by decide) rfl rfl (Nat.le_of_ble_eq_true rfl) (c_X2_isGain _ Γ (d + 0) _ _ _ _ (r26 _ (by omega)) (r25r _ (by omega)) (r25r _ (by omega)) r24) ?_
            refine G_bif_eq (tgt := 75) hk dX2_findSwap_65 (by decide) (fun h_65 => ?_) (fun h_65 => ?_)
            · refine G_iinc hk dX2_findSwap_75 rfl (by decide) rfl ?_
              refine G_goto (tgt := 12) hk dX2_findSwap_78 (by decide) ?_
              refine ih2 (by omega) (fun i hi => ?_)
              by_cases e : i = k
              · rw [e, decide_eq_true hjk, Bool.true_and]
                cases q : gd c (aW A) (aP A) li j k with
                | false => rfl
                | true => exact absurd (g.mp q).2 h_65
              · exact hno i (by omega)
            · refine G_iload_n hk dX2_findSwap_68 rfl ?_
              refine G_bipush hk dX2_findSwap_69 (by decide) ?_
              refine G_imul hk dX2_findSwap_71 ?_
              refine G_iload_n hk dX2_findSwap_72 rfl ?_
              refine G_iadd hk dX2_findSwap_73 ?_
              exact G_iret hk hr dX2_findSwap_74 ⟨by
              have gt1 := g.mpr ⟨h_40, h_65⟩
              have kn : k < anp A := by
                have g2 := gt1
                unfold gd at g2
                simp only [Bool.and_eq_true] at g2
                exact hc.2.1 k hk9 g2.1.2
              have e1 : pK c (aW A) (aP A) (anp A) li j = k := srch_at _ k hno (by rw [decide_eq_true hjk, gt1]; rfl) _ kn
              have e2 : pJ c (aW A) (aP A) (anp A) li = j := srch_at _ j (fun i hi => decide_eq_false (by rw [hj i hi]; omega)) (decide_eq_true (by rw [e1]; exact kn)) _ (by omega)
              unfold fsw
              rw [e2, e1, if_pos (by omega)], rfl⟩

theorem c_X2_exchange (l : Launch) (Γ : Ev) (d : Nat) (S : Sx) (j k : Nat) (hj : j < 12) (hk9 : k < 12) : Ctr l Γ d mX2_exchange [rf Γ 23, vI (j : Int), vI (k : Int)] S (pV (fun S2 => S2 = su (su S 26 j (S 26 k)) 26 k (S 26 j))) := by
  refine Ctr.of (by decide) rfl rfl (Nat.le_of_ble_eq_true rfl) ?_
  intro κ hl hk hr
  subst hl
  refine G_iload_n hk dX2_exchange_0 rfl ?_
  refine G_bipush hk dX2_exchange_1 (by decide) ?_
  refine G_icmp_ge (tgt := 38) hk dX2_exchange_3 (by decide) ⟨by omega, by omega⟩ ⟨by omega, by omega⟩ (fun h_3 => ?_) (fun h_3 => ?_)
  · exact absurd h_3 (by omega)--stop
  · refine G_iload_n hk dX2_exchange_6 rfl ?_
    refine G_bipush hk dX2_exchange_7 (by decide) ?_
    refine G_icmp_ge (tgt := 38) hk dX2_exchange_9 (by decide) ⟨by omega, by omega⟩ ⟨by omega, by omega⟩ (fun h_9 => ?_) (fun h_9 => ?_)
    · exact absurd h_9 (by omega)--stop
    · refine G_rload_n hk dX2_exchange_12 rfl ?_
      refine G_getR hk dX2_exchange_13 flX2_18 (by decide) rfl rfl ?_
      refine G_iload_n hk dX2_exchange_16 rfl ?_
      refine G_iald hk dX2_exchange_17 (by decide) rfl (by decide) (by omega) (by omega) ?_
      refine G_istore_n hk dX2_exchange_18 (by decide) rfl ?_
      refine G_rload_n hk dX2_exchange_19 rfl ?_
      refine G_getR hk dX2_exchange_20 flX2_18 (by decide) rfl rfl ?_
      refine G_iload_n hk dX2_exchange_23 rfl ?_
      refine G_rload_n hk dX2_exchange_24 rfl ?_
      refine G_getR hk dX2_exchange_25 flX2_18 (by decide) rfl rfl ?_
      refine G_iload_n hk dX2_exchange_28 rfl ?_
      refine G_iald hk dX2_exchange_29 (by decide) rfl (by decide) (by omega) (by omega) ?_
      refine G_iast hk dX2_exchange_30 (by decide) rfl (by decide) (by omega) (by omega) ?_
      refine G_rload_n hk dX2_exchange_31 rfl ?_
      refine G_getR hk dX2_exchange_32 flX2_18 (by decide) rfl rfl ?_
      refine G_iload_n hk dX2_exchange_35 rfl ?_
      refine G_iload_n hk dX2_exchange_36 rfl ?_
      refine G_iast hk dX2_exchange_37 (by decide) rfl (by decide) (by omega) (by omega) ?_
      exact G_vret hk hr dX2_exchange_38 rfl

theorem Co_ex {S : Sx} {A : Av} {c : Nat → Bool} {li : Nat → Int} (h : CoS S A c li) (hc : CcO A c li) {j k : Nat} (hj : j < 12) (hk : k < 12) (cj : c j = true) (ck : c k = true) : CoS (su (su S 26 j (S 26 k)) 26 k (S 26 j)) A c (swp li j k) ∧ CcO A c (swp li j k) := by
  have a1 := h.2.2 j hj
  have a2 := h.2.2 k hk
  rw [if_pos cj] at a1
  rw [if_pos ck] at a2
  refine ⟨⟨fun w hw => by rw [su_ne _ (by decide), su_ne _ (by decide)]; exact h.1 w hw, fun i hi => by rw [su_ne _ (by decide), su_ne _ (by decide)]; exact h.2.1 i hi, fun i hi => ?_⟩, hc.1, hc.2.1, fun i hi => ?_⟩
  · rw [su_row, su_row, a1, a2]
    unfold swp upf
    by_cases e1 : i = k
    · rw [if_pos e1, if_pos e1, e1, if_pos ck]
    · rw [if_neg e1, if_neg e1]
      by_cases e2 : i = j
      · rw [if_pos e2, if_pos e2, e2, if_pos cj]
      · rw [if_neg e2, if_neg e2]
        exact h.2.2 i hi
  · have l1 := hc.2.2 j (hc.2.1 j hj cj)
    have l2 := hc.2.2 k (hc.2.1 k hk ck)
    have l3 := hc.2.2 i hi
    unfold swp upf
    (repeat' split) <;> omega

theorem c_X2_swapTillRest (l : Launch) (Γ : Ev) (d : Nat) (S : Sx) (A : Av) (c : Nat → Bool) (li : Nat → Int) (h : CoS S A c li) (hc : CcO A c li) : Ctr l Γ (d + 2) mX2_swapTillRest [rf Γ 23] S (pI (fun r S2 => r = (swc c (aW A) (aP A) (anp A) 12 li : Int) ∧ (∀ c, c ≠ 26 → S2 c = S c))) := by
  refine Ctr.of (by decide) rfl rfl (Nat.le_of_ble_eq_true rfl) ?_
  intro κ hl hk hr
  subst hl
  refine G_iconst hk dX2_swapTillRest_0 ?_
  refine G_istore_n hk dX2_swapTillRest_1 (by decide) rfl ?_
  have lp := loop_up (P := fun i => ∀ (S1 : Sx) (li1 : Nat → Int) (q2 : Option Value), (CoS S1 A c li1 ∧ CcO A c li1 ∧ (∀ c, c ≠ 26 → S1 c = S c) ∧ swc c (aW A) (aP A) (anp A) 12 li = i + swc c (aW A) (aP A) (anp A) (12 - i) li1) → GW κ Γ 2 [some (rf Γ 23), some (vI (i : Int)), q2] [] (wl Γ S1)) 12 ?_ ?_ 0 (Nat.zero_le _) S li none ⟨h, hc, fun _ _ => rfl, (Nat.zero_add _).symm⟩
  · exact GW_L rfl lp
  · intro S1 li1 q2 ⟨h1, hc1, hf, he⟩
    refine G_iload_n hk dX2_swapTillRest_2 rfl ?_
    refine G_bipush hk dX2_swapTillRest_3 (by decide) ?_
    refine G_icmp_ge (tgt := 37) hk dX2_swapTillRest_5 (by decide) ⟨by omega, by omega⟩ ⟨by omega, by omega⟩ (fun h_5 => ?_) (fun h_5 => ?_)
    · refine G_bipush hk dX2_swapTillRest_37 (by decide) ?_
      exact G_iret hk hr dX2_swapTillRest_39 ⟨by
        have e0 : swc c (aW A) (aP A) (anp A) (12 - 12) li1 = 0 := rfl
        rw [he, e0]; rfl, hf⟩
    · exact absurd h_5 (by omega)--stop
  · intro i hi9 ih S1 li1 q2 ⟨h1, hc1, hf, he⟩
    have n12 := hc1.1.2.2.1
    have e12 : 12 - i = (12 - (i + 1)) + 1 := by omega
    rw [e12] at he
    by_cases hp : pJ c (aW A) (aP A) (anp A) li1 < anp A
    · obtain ⟨p1, p2, p3⟩ := pair_in hp
      have efs : fsw c (aW A) (aP A) (anp A) li1 = (pJ c (aW A) (aP A) (anp A) li1 : Int) * 12 + (pK c (aW A) (aP A) (anp A) li1 (pJ c (aW A) (aP A) (anp A) li1) : Int) := by unfold fsw; rw [if_pos hp]
      have esw : swc c (aW A) (aP A) (anp A) (12 - (i + 1) + 1) li1 = swc c (aW A) (aP A) (anp A) (12 - (i + 1)) (swp li1 (pJ c (aW A) (aP A) (anp A) li1) (pK c (aW A) (aP A) (anp A) li1 (pJ c (aW A) (aP A) (anp A) li1))) + 1 := by simp only [swc]; rw [if_pos hp]
      rw [esw] at he
      generalize pJ c (aW A) (aP A) (anp A) li1 = j at *
      generalize pK c (aW A) (aP A) (anp A) li1 j = k at *
      unfold gd at p3
      simp only [Bool.and_eq_true] at p3
      refine G_iload_n hk dX2_swapTillRest_2 rfl ?_
      refine G_bipush hk dX2_swapTillRest_3 (by decide) ?_
      refine G_icmp_ge (tgt := 37) hk dX2_swapTillRest_5 (by decide) ⟨by omega, by omega⟩ ⟨by omega, by omega⟩ (fun h_5 => ?_) (fun h_5 => ?_)
      · exact absurd h_5 (by omega)--stop
      · refine G_rload_n hk dX2_swapTillRest_8 rfl ?_
        refine G_cV0P hk dX2_swapTillRest_9 mvX2_findSwap mlX2_40 (by decide) rfl rfl (Nat.le_of_ble_eq_true rfl) (c_X2_findSwap _ Γ (d + 0) _ A c li1 h1 hc1) ?_
        rw [efs]
        refine G_istore_n hk dX2_swapTillRest_12 (by decide) rfl ?_
        refine G_iload_n hk dX2_swapTillRest_13 rfl ?_
        refine G_if_ge (tgt := 19) hk dX2_swapTillRest_14 (by decide) ⟨by omega, by omega⟩ (fun h_14 => ?_) (fun h_14 => ?_)
        · refine G_rload_n hk dX2_swapTillRest_19 rfl ?_
          refine G_iload_n hk dX2_swapTillRest_20 rfl ?_
          refine G_bipush hk dX2_swapTillRest_21 (by decide) ?_
          refine G_idiv hk dX2_swapTillRest_23 (by omega) (by omega) (by omega) (by omega) ?_
          rw [show ((j : Int) * 12 + (k : Int)) / 12 = (j : Int) by omega]
          refine G_iload_n hk dX2_swapTillRest_24 rfl ?_
          refine G_bipush hk dX2_swapTillRest_25 (by decide) ?_
          refine G_irem hk dX2_swapTillRest_27 (by omega) (by omega) (by omega) (by omega) ?_
          rw [show ((j : Int) * 12 + (k : Int)) % 12 = (k : Int) by omega]
          refine G_cV2V hk dX2_swapTillRest_28 mvX2_exchange mlX2_44 (by decide) rfl rfl (Nat.le_of_ble_eq_true rfl) (c_X2_exchange _ Γ (d + 1) _ j k (by omega) (by omega)) (fun S_28 hp_28 => ?_)
          refine G_iinc hk dX2_swapTillRest_31 rfl (by decide) rfl ?_
          refine G_goto (tgt := 2) hk dX2_swapTillRest_34 (by decide) ?_
          have g := Co_ex h1 hc1 (show j < 12 by omega) (show k < 12 by omega) p3.1.1 p3.1.2
          rw [hp_28]
          exact ih _ _ _ ⟨g.1, g.2, fun c hc => by rw [su_ne _ hc, su_ne _ hc]; exact hf c hc, by omega⟩
        · exact absurd h_14 (by omega)--stop
    · have efs : fsw c (aW A) (aP A) (anp A) li1 = -1 := by unfold fsw; rw [if_neg hp]
      have esw : swc c (aW A) (aP A) (anp A) (12 - (i + 1) + 1) li1 = 0 := by simp only [swc]; rw [if_neg hp]
      rw [esw] at he
      refine G_iload_n hk dX2_swapTillRest_2 rfl ?_
      refine G_bipush hk dX2_swapTillRest_3 (by decide) ?_
      refine G_icmp_ge (tgt := 37) hk dX2_swapTillRest_5 (by decide) ⟨by omega, by omega⟩ ⟨by omega, by omega⟩ (fun h_5 => ?_) (fun h_5 => ?_)
      · exact absurd h_5 (by omega)--stop
      · refine G_rload_n hk dX2_swapTillRest_8 rfl ?_
        refine G_cV0P hk dX2_swapTillRest_9 mvX2_findSwap mlX2_40 (by decide) rfl rfl (Nat.le_of_ble_eq_true rfl) (c_X2_findSwap _ Γ (d + 0) _ A c li1 h1 hc1) ?_
        rw [efs]
        refine G_istore_n hk dX2_swapTillRest_12 (by decide) rfl ?_
        refine G_iload_n hk dX2_swapTillRest_13 rfl ?_
        refine G_if_ge (tgt := 19) hk dX2_swapTillRest_14 (by decide) ⟨by omega, by omega⟩ (fun h_14 => ?_) (fun h_14 => ?_)
        · exact absurd h_14 (by omega)--stop
        · refine G_iload_n hk dX2_swapTillRest_17 rfl ?_
          exact G_iret hk hr dX2_swapTillRest_18 ⟨by rw [he]; rfl, hf⟩

theorem per_v {S : Sx} {A : Av} (hC : ClE S A) (k : Nat) : (if 0 ≤ (k : Int) ∧ (k : Int) < S 6 2 then S 9 ((k : Int)).toNat else -1) = if k < anp A then aP A (4 * k + 1) else -1 := by
  have h62 := (cl_n hC).2.2.1
  by_cases e : k < anp A
  · rw [if_pos e, if_pos (by omega)]
    exact (hC.2.2.1.2 k e).1
  · rw [if_neg e, if_neg (by omega)]

theorem c_X2_gather (l : Launch) (Γ : Ev) (d : Nat) (S : Sx) (A : Av) (hC : ClE S A) (hW : ∀ w, w < 4 → S 24 w = aW A w) (c : Nat → Bool) (hcn : ∀ k, k < 12 → c k = true → k < anp A) : Ctr l Γ (d + 2) mX2_gather [rf Γ 23, rf Γ 5, vI (bsm c 12 : Int)] S (pV (fun S2 => CoS S2 A c (a_li A) ∧ (∀ c, c ≠ 25 → c ≠ 26 → S2 c = S c))) := by
  refine Ctr.of (by decide) rfl rfl (Nat.le_of_ble_eq_true rfl) ?_
  intro κ hl hk hr
  subst hl
  obtain ⟨h15, n8, h62, n12, -, -⟩ := cl_n hC
  refine G_iconst hk dX2_gather_0 ?_
  refine G_istore_n hk dX2_gather_1 (by decide) rfl ?_
  have lp := loop_up (P := fun k => ∀ (S1 : Sx) (q4 : Option Value), ((∀ c, c ≠ 25 → c ≠ 26 → S1 c = S c) ∧ (∀ i, i < k → S1 25 i = if i < anp A then aP A (4 * i + 1) else -1) ∧ (∀ i, i < k → S1 26 i = if c i = true then a_li A i else -1)) → GW κ Γ 2 [some (rf Γ 23), some (rf Γ 5), some (vI (bsm c 12 : Int)), some (vI (k : Int)), q4] [] (wl Γ S1)) 12 ?_ ?_ 0 (Nat.zero_le _) S none ⟨fun _ _ _ => rfl, fun i hi => absurd hi (by omega), fun i hi => absurd hi (by omega)⟩
  · exact GW_L rfl lp
  · intro S1 q4 ⟨hf, h25, h26⟩
    refine G_iload_n hk dX2_gather_2 rfl ?_
    refine G_bipush hk dX2_gather_3 (by decide) ?_
    refine G_icmp_ge (tgt := 61) hk dX2_gather_5 (by decide) ⟨by omega, by omega⟩ ⟨by omega, by omega⟩ (fun h_5 => ?_) (fun h_5 => ?_)
    · exact G_vret hk hr dX2_gather_61 ⟨⟨fun w hw => by rw [hf 24 (by decide) (by decide)]; exact hW w hw, h25, h26⟩, hf⟩
    · exact absurd h_5 (by omega)--stop
  · intro k hk9 ih S1 q4 ⟨hf, h25, h26⟩
    have hC1 := ClE_lo hC (fun c hc => hf c (by omega) (by omega))
    have q62 := (cl_n hC1).2.2.1
    have bl := bsm_31 c (n := 12) (by decide)
    have hq := bit_q (k := k) bl
    rw [bsm_tb] at hq
    simp only [hk9, decide_true, Bool.true_and] at hq
    refine G_iload_n hk dX2_gather_2 rfl ?_
    refine G_bipush hk dX2_gather_3 (by decide) ?_
    refine G_icmp_ge (tgt := 61) hk dX2_gather_5 (by decide) ⟨by omega, by omega⟩ ⟨by omega, by omega⟩ (fun h_5 => ?_) (fun h_5 => ?_)
    · exact absurd h_5 (by omega)--stop
    · refine G_iload_n hk dX2_gather_8 rfl ?_
      refine G_iload_n hk dX2_gather_9 rfl ?_
      refine G_ishr hk dX2_gather_10 (by omega) (by omega) (by omega) (by omega) ?_
      rw [show ((k : Int)).toNat = k from rfl]
      refine G_iconst hk dX2_gather_11 ?_
      refine G_iand hk dX2_gather_12 ?_
      refine G_iconst hk dX2_gather_13 ?_
      refine G_icmp_ne (tgt := 21) hk dX2_gather_14 (by decide) (zand_r _ _) ⟨by omega, by omega⟩ (fun h_14 => ?_) (fun h_14 => ?_)
      · have ck : ¬ c k = true := fun q => h_14 (hq.mpr q)
        refine G_iconst hk dX2_gather_21 ?_
        refine G_istore hk dX2_gather_22 (by decide) rfl ?_
        refine G_rload_n hk dX2_gather_24 rfl ?_
        refine G_getR hk dX2_gather_25 flX2_15 (by decide) rfl rfl ?_
        refine G_iload_n hk dX2_gather_28 rfl ?_
        refine G_rload_n hk dX2_gather_29 rfl ?_
        refine G_iload_n hk dX2_gather_30 rfl ?_
        refine G_cV1P hk dX2_gather_31 mvX5_personOn mlX2_27 (by decide) rfl rfl (Nat.le_of_ble_eq_true rfl) (c_X5_personOn _ Γ (d + 0) _ _ ⟨by omega, by omega⟩ ⟨by omega, by omega⟩) ?_
        rw [per_v hC1 k]
        refine G_iast hk dX2_gather_34 (by decide) rfl (by decide) (by omega) (by omega) ?_
        refine G_rload_n hk dX2_gather_35 rfl ?_
        refine G_getR hk dX2_gather_36 flX2_18 (by decide) rfl rfl ?_
        refine G_iload_n hk dX2_gather_39 rfl ?_
        refine G_iload hk dX2_gather_40 rfl ?_
        refine G_if_eq (tgt := 53) hk dX2_gather_42 (by decide) ⟨by omega, by omega⟩ (fun h_42 => ?_) (fun h_42 => ?_)
        · refine G_iconst hk dX2_gather_53 ?_
          refine G_iast hk dX2_gather_54 (by decide) rfl (by decide) (by omega) (by omega) ?_
          refine G_iinc hk dX2_gather_55 rfl (by decide) rfl ?_
          refine G_goto (tgt := 2) hk dX2_gather_58 (by decide) ?_
          rw [show ((k : Int)).toNat = k from rfl]
          refine ih _ _ ⟨fun c c1 c2 => by rw [su_ne _ c2, su_ne _ c1]; exact hf c c1 c2, fun i hi => ?_, fun i hi => ?_⟩
          · rw [su_ne _ (by decide), su_row]
            by_cases e : i = k
            · rw [if_pos e, e]
            · rw [if_neg e]; exact h25 i (by omega)
          · rw [su_row, su_ne _ (by decide)]
            by_cases e : i = k
            · rw [if_pos e, e, if_neg ck]
            · rw [if_neg e]; exact h26 i (by omega)
        · exact absurd h_42 (by omega)--stop
      · have ck : c k = true := hq.mp (by omega)
        have kn := hcn k hk9 ck
        refine G_iconst hk dX2_gather_17 ?_
        refine G_goto (tgt := 22) hk dX2_gather_18 (by decide) ?_
        refine G_istore hk dX2_gather_22 (by decide) rfl ?_
        refine G_rload_n hk dX2_gather_24 rfl ?_
        refine G_getR hk dX2_gather_25 flX2_15 (by decide) rfl rfl ?_
        refine G_iload_n hk dX2_gather_28 rfl ?_
        refine G_rload_n hk dX2_gather_29 rfl ?_
        refine G_iload_n hk dX2_gather_30 rfl ?_
        refine G_cV1P hk dX2_gather_31 mvX5_personOn mlX2_27 (by decide) rfl rfl (Nat.le_of_ble_eq_true rfl) (c_X5_personOn _ Γ (d + 0) _ _ ⟨by omega, by omega⟩ ⟨by omega, by omega⟩) ?_
        rw [per_v hC1 k]
        refine G_iast hk dX2_gather_34 (by decide) rfl (by decide) (by omega) (by omega) ?_
        refine G_rload_n hk dX2_gather_35 rfl ?_
        refine G_getR hk dX2_gather_36 flX2_18 (by decide) rfl rfl ?_
        refine G_iload_n hk dX2_gather_39 rfl ?_
        refine G_iload hk dX2_gather_40 rfl ?_
        refine G_if_eq (tgt := 53) hk dX2_gather_42 (by decide) ⟨by omega, by omega⟩ (fun h_42 => ?_) (fun h_42 => ?_)
        · exact absurd h_42 (by omega)--stop
        · refine G_rload_n hk dX2_gather_45 rfl ?_
          refine G_iload_n hk dX2_gather_46 rfl ?_
          refine G_cV1P hk dX2_gather_47 mvX5_drawerOf mlX2_33 (by decide) rfl rfl (Nat.le_of_ble_eq_true rfl) (c_X5_drawerOf _ Γ (d + 0) _ _ ⟨by omega, by omega⟩ (by rw [su_ne _ (by decide)]; omega)) ?_
          rw [su_ne _ (by decide), su_ne _ (by decide), if_pos (by omega), show ((k : Int)).toNat = k from rfl, (hC1.2.2.1.2 k kn).2.2]
          refine G_goto (tgt := 54) hk dX2_gather_50 (by decide) ?_
          refine G_iast hk dX2_gather_54 (by decide) rfl (by decide) (by omega) (by omega) ?_
          refine G_iinc hk dX2_gather_55 rfl (by decide) rfl ?_
          refine G_goto (tgt := 2) hk dX2_gather_58 (by decide) ?_
          rw [show ((k : Int)).toNat = k from rfl]
          refine ih _ _ ⟨fun c c1 c2 => by rw [su_ne _ c2, su_ne _ c1]; exact hf c c1 c2, fun i hi => ?_, fun i hi => ?_⟩
          · rw [su_ne _ (by decide), su_row]
            by_cases e : i = k
            · rw [if_pos e, e]
            · rw [if_neg e]; exact h25 i (by omega)
          · rw [su_row, su_ne _ (by decide)]
            by_cases e : i = k
            · rw [if_pos e, e, if_pos ck]; rfl
            · rw [if_neg e]; exact h26 i (by omega)
