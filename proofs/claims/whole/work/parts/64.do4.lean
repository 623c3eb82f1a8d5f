theorem CR_sh {S S2 T0 T : Sx} (hR : CR S T0) (hI : InvM T) (e : ∀ c, c ≠ 45 → c ≠ 46 → c ≠ 47 → c ≠ 48 → T c = T0 c) (f : ∀ c, (c < 36 ∨ 43 < c) → S2 c = S c) (sh : ShR S2 T) : CR S2 T := by
  obtain ⟨⟨⟨_, pe, pi, bu⟩, wi, wa, f9, lt⟩, _⟩ := hR
  have e44 : T 44 = T0 44 := e 44 (by decide) (by decide) (by decide) (by decide)
  refine CR_mk hI ?_ ?_ ?_ ?_ ?_ ?_ ?_ sh
  · rw [e44, e 49 (by decide) (by decide) (by decide) (by decide)]
    exact PeR_cong pe (f 1 (by omega)) (f 2 (by omega)) (f 3 (by omega)) (f 4 (by omega))
  · rw [e44, e 51 (by decide) (by decide) (by decide) (by decide)]
    exact PiR_cong pi (fun c a b => f c (by omega))
  · rw [e44, e 52 (by decide) (by decide) (by decide) (by decide)]
    exact BuR_cong bu (fun c a b => f c (by omega))
  · rw [e44, e 58 (by decide) (by decide) (by decide) (by decide)]
    exact WiR_cong wi (fun c a b => f c (by omega))
  · rw [e 53 (by decide) (by decide) (by decide) (by decide), f 24 (by omega)]
    exact wa
  · rw [e44, f 0 (by omega)]
    exact f9
  · rw [e44, f 0 (by omega)]
    exact lt
theorem Sh_upd {S T S2 T2 : Sx} (h : ShR S T) (s : Nat) (f : ∀ c, 36 ≤ c → c ≤ 43 → c ≠ 36 + 2 * s → c ≠ 36 + 2 * s + 1 → S2 c = S c) (e45 : ∀ k, k ≠ s → T2 45 k = T 45 k) (e46 : ∀ k, k ≠ s → T2 46 k = T 46 k) (e47 : ∀ k i, k ≠ s → k < 4 → i < 60 → T2 47 (60 * k + i) = T 47 (60 * k + i)) (hl : ∀ k, k < 4 → S (36 + 2 * k) 2 ≤ 60) (own : S2 (36 + 2 * s) 1 = T2 45 s ∧ S2 (36 + 2 * s) 2 = (if T2 45 s < 0 then 0 else T2 46 s) ∧ (∀ i : Nat, (i : Int) < S2 (36 + 2 * s) 2 → S2 (36 + 2 * s + 1) i = T2 47 (60 * s + i))) : ShR S2 T2 := by
  intro k hk
  by_cases e : k = s
  · rw [e]; exact own
  · obtain ⟨h1, h2, h3⟩ := h k hk
    have l9 := hl k hk
    rw [f (36 + 2 * k) (by omega) (by omega) (by omega) (by omega), f (36 + 2 * k + 1) (by omega) (by omega) (by omega) (by omega), e45 k e, e46 k e]
    refine ⟨h1, h2, fun i hi => ?_⟩
    rw [e47 k i e hk (by omega)]
    exact h3 i hi
theorem sh_60 {S : Sx} (hR : CR S S) (hI : InvM S) : ∀ k, k < 4 → 0 ≤ S (36 + 2 * k) 2 ∧ S (36 + 2 * k) 2 ≤ 60 := by
  intro k hk
  have h := (hR.2 k hk).2.1
  have c := hI.2.2.1.2.1 k hk
  rw [h]
  split <;> omega
theorem CR_lose {S : Sx} (hR : CR S S) (hI : InvM S) {s : Int} (hs : 0 ≤ s ∧ s ≤ 3) (hl : ¬ S 45 s.toNat < 0) : CR (su (su S (36 + 2 * s.toNat) 1 (-1)) (36 + 2 * s.toNat) 2 0) (q_lose S s).2 ∧ hiC S (su (su S (36 + 2 * s.toNat) 1 (-1)) (36 + 2 * s.toNat) 2 0) := by
  have e : q_lose S s = (S 46 s.toNat, su S 45 s.toNat (-1)) := by unfold q_lose; rw [if_neg (fun q => q hs), if_neg hl]
  have hI2 := inv_lose hI s
  have h60 := sh_60 hR hI
  rw [e] at hI2 ⊢
  dsimp only at hI2 ⊢
  have f : ∀ c, c ≠ 36 + 2 * s.toNat → su (su S (36 + 2 * s.toNat) 1 (-1)) (36 + 2 * s.toNat) 2 0 c = S c := fun c hc => by rw [su_ne _ hc, su_ne _ hc]
  refine ⟨CR_sh hR hI2 (fun c a _ _ _ => su_ne _ a) (fun c hc => f c (by omega)) (Sh_upd hR.2 s.toNat (fun c _ _ a _ => f c a) (fun k a => su_nk _ _ _ a) (fun k _ => by show su S 45 s.toNat (-1) 46 k = S 46 k; rw [su_ne _ (by decide)]) (fun k i _ _ _ => by show su S 45 s.toNat (-1) 47 (60 * k + i) = _; rw [su_ne _ (by decide)]) (fun k hk => (h60 k hk).2) ⟨?_, ?_, ?_⟩), fun c hc => f c (by omega)⟩
  · show _ = su S 45 s.toNat (-1) 45 s.toNat
    rw [su_nk _ _ _ (by decide), su_at, su_at]
  · show _ = if su S 45 s.toNat (-1) 45 s.toNat < 0 then 0 else _
    rw [su_at, su_at, if_pos (by decide)]
  · intro i hi
    rw [su_at] at hi
    omega
theorem CR_sheet {S : Sx} (hR : CR S S) (hI : InvM S) {s fo n : Int} (hs : 0 ≤ s ∧ s ≤ 3) (hf : 0 ≤ fo ∧ fo ≤ 2) (hn : 0 ≤ n ∧ n ≤ 60) : n = (q_sheet S s fo n).1 ∧ CR (su (su (fl S (36 + 2 * s.toNat + 1) 0 60) (36 + 2 * s.toNat) 1 fo) (36 + 2 * s.toNat) 2 n) (q_sheet S s fo n).2 ∧ hiC S (su (su (fl S (36 + 2 * s.toNat + 1) 0 60) (36 + 2 * s.toNat) 1 fo) (36 + 2 * s.toNat) 2 n) := by
  have e : q_sheet S s fo n = (n, sr (su (su S 45 s.toNat fo) 46 s.toNat n) 47 (fill (S 47) (fun _ => 0) (60 * s).toNat n.toNat)) := by unfold q_sheet; rw [if_neg (fun q => q hs), if_neg (fun q => q hf), if_neg (by omega), if_neg (by omega)]
  have hI2 := inv_sheet hI s fo n
  have h60 := sh_60 hR hI
  rw [e] at hI2 ⊢
  dsimp only at hI2 ⊢
  have f : ∀ c, c ≠ 36 + 2 * s.toNat → c ≠ 36 + 2 * s.toNat + 1 → su (su (fl S (36 + 2 * s.toNat + 1) 0 60) (36 + 2 * s.toNat) 1 fo) (36 + 2 * s.toNat) 2 n c = S c := fun c hc h2 => by rw [su_ne _ hc, su_ne _ hc, fl_ne h2]
  refine ⟨rfl, CR_sh hR hI2 (fun c a b g _ => by rw [sr_ne _ g, su_ne _ b, su_ne _ a]) (fun c hc => f c (by omega) (by omega)) (Sh_upd hR.2 s.toNat (fun c _ _ a b => f c a b) (fun k a => by rw [sr_ne _ (by decide), su_ne _ (by decide), su_nk _ _ _ a]) (fun k a => by rw [sr_ne _ (by decide), su_nk _ _ _ a, su_ne _ (by decide)]) (fun k i a b c => by rw [sr_at]; unfold fill; rw [if_neg (by omega)]) (fun k hk => (h60 k hk).2) ⟨?_, ?_, ?_⟩), fun c hc => f c (by omega) (by omega)⟩
  · rw [su_nk _ _ _ (by decide), su_at, sr_ne _ (by decide), su_ne _ (by decide), su_at]
  · rw [su_at, sr_ne _ (by decide), su_ne _ (by decide), su_at, if_neg (by omega), sr_ne _ (by decide), su_at]
  · intro i hi
    rw [su_at] at hi
    rw [su_ne _ (by omega), su_ne _ (by omega), fl_at (by omega), sr_at]
    unfold fill
    rw [if_pos (by omega)]
theorem CR_lay {S : Sx} (hR : CR S S) (hI : InvM S) {s fo i v : Int} (hv : R32 v) (hs : 0 ≤ s ∧ s ≤ 3) (hf : 0 ≤ fo ∧ fo ≤ 2) (h45 : S 45 s.toNat = fo) (hi : 0 ≤ i ∧ i ≤ S 46 s.toNat - 1) : 1 = (q_lay S s fo i v).1 ∧ CR (su S (36 + 2 * s.toNat + 1) i.toNat (cutf fo v)) (q_lay S s fo i v).2 ∧ hiC S (su S (36 + 2 * s.toNat + 1) i.toNat (cutf fo v)) := by
  have e : q_lay S s fo i v = (1, su S 47 (60 * s + i).toNat (cutf fo v)) := by unfold q_lay; rw [if_neg (fun q => q hs), if_neg (fun q => q hf), if_neg (by omega), if_neg (fun q => q h45), if_pos hi]
  have hI2 := inv_lay hI s fo i v hv
  have h60 := sh_60 hR hI
  have own := hR.2 s.toNat (by omega)
  have c46 := hI.2.2.1.2.1 s.toNat (by omega)
  rw [e] at hI2 ⊢
  dsimp only at hI2 ⊢
  have f : ∀ c, c ≠ 36 + 2 * s.toNat + 1 → su S (36 + 2 * s.toNat + 1) i.toNat (cutf fo v) c = S c := fun c hc => by rw [su_ne _ hc]
  refine ⟨rfl, CR_sh hR hI2 (fun c a b g _ => by rw [su_ne _ g]) (fun c hc => f c (by omega)) (Sh_upd hR.2 s.toNat (fun c _ _ a b => f c b) (fun k a => by rw [su_ne _ (by decide)]) (fun k a => by rw [su_ne _ (by decide)]) (fun k i2 a b c => by rw [su_nk _ _ _ (by omega)]) (fun k hk => (h60 k hk).2) ⟨?_, ?_, ?_⟩), fun c hc => f c (by omega)⟩
  · rw [f _ (by omega), su_ne _ (by decide)]; exact own.1
  · rw [f _ (by omega), su_ne _ (by decide), su_ne _ (by decide)]; exact own.2.1
  · intro x hx
    rw [f _ (by omega)] at hx
    rw [su_row, su_row]
    by_cases q : x = i.toNat
    · rw [if_pos q, if_pos (by omega)]
    · rw [if_neg q, if_neg (by omega)]
      exact own.2.2 x hx
theorem CR_copy {S : Sx} (hR : CR S S) (hI : InvM S) {s i t j n : Int} (hs : 0 ≤ s ∧ s ≤ 3) (ht : 0 ≤ t ∧ t ≤ 3) (h1 : ¬ S 45 s.toNat < 0) (h2 : ¬ S 45 t.toNat < 0) (h3 : S 45 s.toNat = S 45 t.toNat) (h4 : ¬ (i < 0 ∨ j < 0 ∨ n < 0 ∨ S 46 s.toNat < i + n ∨ S 46 t.toNat < j + n)) : 1 = (q_copy S s i t j n).1 ∧ CR (sr S (36 + 2 * t.toNat + 1) (fill (S (36 + 2 * t.toNat + 1)) (fun a => S (36 + 2 * s.toNat + 1) (i.toNat + a)) j.toNat n.toNat)) (q_copy S s i t j n).2 ∧ hiC S (sr S (36 + 2 * t.toNat + 1) (fill (S (36 + 2 * t.toNat + 1)) (fun a => S (36 + 2 * s.toNat + 1) (i.toNat + a)) j.toNat n.toNat)) := by
  have e : q_copy S s i t j n = (1, sr (sr S 48 (fill (S 48) (fun a => S 47 ((60 * s + i).toNat + a)) 0 n.toNat)) 47 (fill (S 47) (fun a => S 47 ((60 * s + i).toNat + a)) (60 * t + j).toNat n.toNat)) := by unfold q_copy; rw [if_neg (fun q => q hs), if_neg (fun q => q ht), if_neg h1, if_neg h2, if_neg (fun q => q h3), if_neg h4]
  have hI2 := inv_copy hI s i t j n
  have h60 := sh_60 hR hI
  have os := hR.2 s.toNat (by omega)
  have ot := hR.2 t.toNat (by omega)
  have c1 := hI.2.2.1.2.1 s.toNat (by omega)
  have c2 := hI.2.2.1.2.1 t.toNat (by omega)
  have ls := os.2.1
  have lt := ot.2.1
  rw [if_neg h1] at ls
  rw [if_neg h2] at lt
  rw [e] at hI2 ⊢
  dsimp only at hI2 ⊢
  have f : ∀ c, c ≠ 36 + 2 * t.toNat + 1 → sr S (36 + 2 * t.toNat + 1) (fill (S (36 + 2 * t.toNat + 1)) (fun a => S (36 + 2 * s.toNat + 1) (i.toNat + a)) j.toNat n.toNat) c = S c := fun c hc => by rw [sr_ne _ hc]
  refine ⟨rfl, CR_sh hR hI2 (fun c a b g k => by rw [sr_ne _ g, sr_ne _ k]) (fun c hc => f c (by omega)) (Sh_upd hR.2 t.toNat (fun c _ _ a b => f c b) (fun k a => by rw [sr_ne _ (by decide), sr_ne _ (by decide)]) (fun k a => by rw [sr_ne _ (by decide), sr_ne _ (by decide)]) (fun k i2 a b c => by rw [sr_at]; unfold fill; rw [if_neg (by omega)]) (fun k hk => (h60 k hk).2) ⟨?_, ?_, ?_⟩), fun c hc => f c (by omega)⟩
  · rw [f _ (by omega), sr_ne _ (by decide), sr_ne _ (by decide)]; exact ot.1
  · rw [f _ (by omega), sr_ne _ (by decide), sr_ne _ (by decide), sr_ne _ (by decide), sr_ne _ (by decide)]; exact ot.2.1
  · intro x hx
    rw [f _ (by omega)] at hx
    rw [sr_at, sr_at]
    unfold fill
    by_cases q : j.toNat ≤ x ∧ x < j.toNat + n.toNat
    · rw [if_pos q, if_pos (by omega)]
      simp only
      rw [os.2.2 (i.toNat + (x - j.toNat)) (by omega)]
      congr 1
      omega
    · rw [if_neg q, if_neg (by omega)]
      exact ot.2.2 x hx
theorem CR_write {S S1 : Sx} (hR : CR S S) (hI : InvM S) (fr : frC S S1) {y s : Int} (hy : 0 ≤ y ∧ y ≤ 29) (hs : 0 ≤ s ∧ s ≤ 3) (h1 : ¬ S 45 s.toNat < 0) {m : Nat} (hm : lsr (S 46 s.toNat) (aN (av S)) = (m : Int)) : (m : Int) = (q_write S y s).1 ∧ CR (sr S1 (36 + 2 * s.toNat + 1) (fill (S1 (36 + 2 * s.toNat + 1)) (fun p => cutf (S 45 s.toNat) ((lv (av S) (y.toNat + 1)).1 p)) 0 m)) (q_write S y s).2 ∧ hiC S (sr S1 (36 + 2 * s.toNat + 1) (fill (S1 (36 + 2 * s.toNat + 1)) (fun p => cutf (S 45 s.toNat) ((lv (av S) (y.toNat + 1)).1 p)) 0 m)) := by
  have e : q_write S y s = ((m : Int), sr S 47 (fill (S 47) (fun p => cutf (S 45 s.toNat) (a_solidOf (av S) y (p : Int))) (60 * s).toNat m)) := by unfold q_write; rw [if_neg (fun q => q hy), if_neg (fun q => q hs), if_neg h1, hm]; rfl
  have hI2 := inv_write hI y s
  have h60 := sh_60 hR hI
  have os := hR.2 s.toNat (by omega)
  have c1 := hI.2.2.1.2.1 s.toNat (by omega)
  have ls := os.2.1
  rw [if_neg h1] at ls
  have hm2 := (lsr_le c1.1 (show (0 : Int) ≤ (aN (av S) : Int) by omega)).2.1
  rw [hm] at hm2
  rw [e] at hI2 ⊢
  dsimp only at hI2 ⊢
  have g : ∀ c, 36 ≤ c → S1 c = S c := fun c hc => fr c (by omega) (by omega) (by omega) (by omega)
  have f : ∀ c, c ≠ 36 + 2 * s.toNat + 1 → sr S1 (36 + 2 * s.toNat + 1) (fill (S1 (36 + 2 * s.toNat + 1)) (fun p => cutf (S 45 s.toNat) ((lv (av S) (y.toNat + 1)).1 p)) 0 m) c = S1 c := fun c hc => by rw [sr_ne _ hc]
  refine ⟨rfl, CR_sh (CR_frK hR (frC_K fr)) hI2 (fun c a b q k => by rw [sr_ne _ q]) (fun c hc => f c (by omega)) (Sh_upd hR.2 s.toNat (fun c a _ _ b => by rw [f c b, g c a]) (fun k a => by rw [sr_ne _ (by decide)]) (fun k a => by rw [sr_ne _ (by decide)]) (fun k i2 a b c => by rw [sr_at]; unfold fill; rw [if_neg (by omega)]) (fun k hk => (h60 k hk).2) ⟨?_, ?_, ?_⟩), fun c hc => by rw [f c (by omega), g c (by omega)]⟩
  · rw [f _ (by omega), g _ (by omega), sr_ne _ (by decide)]; exact os.1
  · rw [f _ (by omega), g _ (by omega), sr_ne _ (by decide), sr_ne _ (by decide)]; exact os.2.1
  · intro x hx
    rw [f _ (by omega), g _ (by omega)] at hx
    rw [sr_at, sr_at, g _ (by omega)]
    unfold fill
    by_cases q : 0 ≤ x ∧ x < 0 + m
    · rw [if_pos q, if_pos (by omega)]
      simp only
      rw [show 60 * s.toNat + x - (60 * s).toNat = x - 0 by omega]
      rfl
    · rw [if_neg q, if_neg (by omega)]
      exact os.2.2 x hx
theorem trb_c (x f i m : Int) : (x = -1 ∧ (if x = -1 then 1 else if ¬ f = x then 3 else if 0 ≤ i ∧ i ≤ m - 1 then 0 else 2) = (1 : Int)) ∨ (¬ x = -1 ∧ ¬ f = x ∧ (if x = -1 then 1 else if ¬ f = x then 3 else if 0 ≤ i ∧ i ≤ m - 1 then 0 else 2) = (3 : Int)) ∨ (¬ x = -1 ∧ f = x ∧ (0 ≤ i ∧ i ≤ m - 1) ∧ (if x = -1 then 1 else if ¬ f = x then 3 else if 0 ≤ i ∧ i ≤ m - 1 then 0 else 2) = (0 : Int)) ∨ (¬ x = -1 ∧ f = x ∧ ¬ (0 ≤ i ∧ i ≤ m - 1) ∧ (if x = -1 then 1 else if ¬ f = x then 3 else if 0 ≤ i ∧ i ≤ m - 1 then 0 else 2) = (2 : Int)) := by
  by_cases h1 : x = -1
  · left; exact ⟨h1, if_pos h1⟩
  · by_cases h2 : f = x
    · by_cases h3 : 0 ≤ i ∧ i ≤ m - 1
      · right; right; left; exact ⟨h1, h2, h3, by rw [if_neg h1, if_neg (fun q => q h2), if_pos h3]⟩
      · right; right; right; exact ⟨h1, h2, h3, by rw [if_neg h1, if_neg (fun q => q h2), if_neg h3]⟩
    · right; left; exact ⟨h1, h2, by rw [if_neg h1, if_pos h2]⟩

theorem c_X10_sheet (l : Launch) (Γ : Ev) (d : Nat) (S : Sx) (hR : CR S S) (hI : InvM S) (s f n : Int) (h_s : R32 s) (h_f : R32 f) (h_n : R32 n) : Ctr l Γ (d + 2) mX10_sheet [rf Γ 0, vI s, vI f, vI n] S (pI (fun r S2 => r = (q_sheet S s f n).1 ∧ CR S2 (q_sheet S s f n).2 ∧ hiC S S2)) := by
  refine Ctr.of (by decide) rfl rfl (Nat.le_of_ble_eq_true rfl) ?_
  intro κ hl hk hr
  subst hl
  obtain ⟨⟨hC, hW, hWt, h09, h010⟩, hSh⟩ := id hR
  obtain ⟨h15, n8, h62, n12, h132, m12⟩ := cl_n hC
  have i2 := hI.2.1
  have t31 : (S 44 6).toNat ≤ 31 := hI.1.1
  have e6 : S 1 3 = S 44 6 := by
    have : S 1 3 = ((S 44 6).toNat : Int) := hC.2.1.1.1
    omega
  refine G_iload_n hk dX10_sheet_0 rfl ?_
  refine G_cS1P hk dX10_sheet_1 msX10_isSheet mlX10_221 (Nat.le_of_ble_eq_true rfl) (c_X10_isSheet _ Γ (d + 0) _ _ ⟨by omega, by omega⟩) ?_
  refine G_bif_eq (tgt := 20) hk dX10_sheet_4 (by decide) (fun h_4 => ?_) (fun h_4 => ?_)
  · refine G_bipush hk dX10_sheet_20 (by decide) ?_
    exact G_iret hk hr dX10_sheet_22 (by rw [show q_sheet S s f n = (_, S) by unfold q_sheet; (repeat' split) <;> first | rfl | (exfalso; omega)]; exact ⟨rfl, hR, hiC_0 S⟩)
  · refine G_iload_n hk dX10_sheet_7 rfl ?_
    refine G_cS1P hk dX10_sheet_8 msX10_isForm mlX10_273 (Nat.le_of_ble_eq_true rfl) (c_X10_isForm _ Γ (d + 0) _ _ ⟨by omega, by omega⟩) ?_
    refine G_bif_eq (tgt := 20) hk dX10_sheet_11 (by decide) (fun h_11 => ?_) (fun h_11 => ?_)
    · refine G_bipush hk dX10_sheet_20 (by decide) ?_
      exact G_iret hk hr dX10_sheet_22 (by rw [show q_sheet S s f n = (_, S) by unfold q_sheet; (repeat' split) <;> first | rfl | (exfalso; omega)]; exact ⟨rfl, hR, hiC_0 S⟩)
    · refine G_iload_n hk dX10_sheet_14 rfl ?_
      refine G_bipush hk dX10_sheet_15 (by decide) ?_
      refine G_icmp_le (tgt := 23) hk dX10_sheet_17 (by decide) ⟨by omega, by omega⟩ ⟨by omega, by omega⟩ (fun h_17 => ?_) (fun h_17 => ?_)
      · refine G_iload_n hk dX10_sheet_23 rfl ?_
        refine G_if_ge (tgt := 33) hk dX10_sheet_24 (by decide) ⟨by omega, by omega⟩ (fun h_24 => ?_) (fun h_24 => ?_)
        · have hS := SH_s s.toNat (by omega)
          obtain ⟨hb, hb1, hy, hy1⟩ := id hS
          have c45 := hI.2.2.1.1 s.toNat (by omega)
          have c46 := hI.2.2.1.2.1 s.toNat (by omega)
          have hs1 := hSh s.toNat (by omega)
          have l60 := sh_60 hR hI s.toNat (by omega)
          have ll : ¬ S 45 s.toNat < 0 → S (36 + 2 * s.toNat) 2 = S 46 s.toNat := fun q => by rw [hs1.2.1, if_neg q]
          refine G_rload_n hk dX10_sheet_33 rfl ?_
          refine G_getR hk dX10_sheet_34 flX10_69 (by decide) rfl rfl ?_
          refine G_iload_n hk dX10_sheet_37 rfl ?_
          refine G_aald hk dX10_sheet_38 (by decide) rfl (by decide) (by omega) (by omega) (sh_j ⟨by omega, by omega⟩) ?_
          refine G_iload_n hk dX10_sheet_39 rfl ?_
          refine G_iload_n hk dX10_sheet_40 rfl ?_
          refine G_cV2V hk dX10_sheet_41 mvX8_renew mlX10_276 hb hy rfl (Nat.le_of_ble_eq_true rfl) (c_X8_renew _ Γ (d + 0) _ _ hS _ _ ⟨by omega, by omega⟩) (fun S_41 hp_41 => ?_)
          refine G_iload_n hk dX10_sheet_44 rfl ?_
          exact G_iret hk hr dX10_sheet_45 (by rw [hp_41]; exact CR_sheet hR hI ⟨by omega, by omega⟩ ⟨by omega, by omega⟩ ⟨by omega, by omega⟩)
        · refine G_rload_n hk dX10_sheet_27 rfl ?_
          refine G_iconst hk dX10_sheet_28 ?_
          refine G_cV1I hk dX10_sheet_29 mvX10_found mlX10_227 (by decide) rfl rfl (Nat.le_of_ble_eq_true rfl) (c_X10_found _ Γ (d + 1) _ _) (fun r_29 S_29 hp_29 => ?_)
          exact G_iret hk hr dX10_sheet_32 (by
  have e : q_sheet S s f n = (-15, su S 44 4 5) := by unfold q_sheet; rw [if_neg (by omega), if_neg (by omega), if_neg (by omega), if_pos (by omega)]
  rw [e, hp_29.1, hp_29.2]
  exact ⟨rfl, CR_find hR hI (by decide)⟩)
      · refine G_bipush hk dX10_sheet_20 (by decide) ?_
        exact G_iret hk hr dX10_sheet_22 (by rw [show q_sheet S s f n = (_, S) by unfold q_sheet; (repeat' split) <;> first | rfl | (exfalso; omega)]; exact ⟨rfl, hR, hiC_0 S⟩)

theorem c_X10_lose (l : Launch) (Γ : Ev) (d : Nat) (S : Sx) (hR : CR S S) (hI : InvM S) (s : Int) (h_s : R32 s) : Ctr l Γ (d + 2) mX10_lose [rf Γ 0, vI s] S (pI (fun r S2 => r = (q_lose S s).1 ∧ CR S2 (q_lose S s).2 ∧ hiC S S2)) := by
  refine Ctr.of (by decide) rfl rfl (Nat.le_of_ble_eq_true rfl) ?_
  intro κ hl hk hr
  subst hl
  obtain ⟨⟨hC, hW, hWt, h09, h010⟩, hSh⟩ := id hR
  obtain ⟨h15, n8, h62, n12, h132, m12⟩ := cl_n hC
  have i2 := hI.2.1
  have t31 : (S 44 6).toNat ≤ 31 := hI.1.1
  have e6 : S 1 3 = S 44 6 := by
    have : S 1 3 = ((S 44 6).toNat : Int) := hC.2.1.1.1
    omega
  refine G_iload_n hk dX10_lose_0 rfl ?_
  refine G_cS1P hk dX10_lose_1 msX10_isSheet mlX10_221 (Nat.le_of_ble_eq_true rfl) (c_X10_isSheet _ Γ (d + 0) _ _ ⟨by omega, by omega⟩) ?_
  refine G_bif_ne (tgt := 10) hk dX10_lose_4 (by decide) (fun h_4 => ?_) (fun h_4 => ?_)
  · have hS := SH_s s.toNat (by omega)
    obtain ⟨hb, hb1, hy, hy1⟩ := id hS
    have c45 := hI.2.2.1.1 s.toNat (by omega)
    have c46 := hI.2.2.1.2.1 s.toNat (by omega)
    have hs1 := hSh s.toNat (by omega)
    have l60 := sh_60 hR hI s.toNat (by omega)
    have ll : ¬ S 45 s.toNat < 0 → S (36 + 2 * s.toNat) 2 = S 46 s.toNat := fun q => by rw [hs1.2.1, if_neg q]
    refine G_rload_n hk dX10_lose_10 rfl ?_
    refine G_getR hk dX10_lose_11 flX10_69 (by decide) rfl rfl ?_
    refine G_iload_n hk dX10_lose_14 rfl ?_
    refine G_aald hk dX10_lose_15 (by decide) rfl (by decide) (by omega) (by omega) (sh_j ⟨by omega, by omega⟩) ?_
    refine G_cV0P hk dX10_lose_16 mvX8_isLost mlX10_224 hb hy rfl (Nat.le_of_ble_eq_true rfl) (c_X8_isLost _ Γ (d + 1) _ _ hS ⟨by omega, by omega⟩) ?_
    refine G_bif_eq (tgt := 28) hk dX10_lose_19 (by decide) (fun h_19 => ?_) (fun h_19 => ?_)
    · refine G_rload_n hk dX10_lose_28 rfl ?_
      refine G_getR hk dX10_lose_29 flX10_69 (by decide) rfl rfl ?_
      refine G_iload_n hk dX10_lose_32 rfl ?_
      refine G_aald hk dX10_lose_33 (by decide) rfl (by decide) (by omega) (by omega) (sh_j ⟨by omega, by omega⟩) ?_
      refine G_cV0P hk dX10_lose_34 mvX8_length mlX10_230 hb hy rfl (Nat.le_of_ble_eq_true rfl) (c_X8_length _ Γ (d + 1) _ _ hS) ?_
      refine G_istore_n hk dX10_lose_37 (by decide) rfl ?_
      refine G_rload_n hk dX10_lose_38 rfl ?_
      refine G_getR hk dX10_lose_39 flX10_69 (by decide) rfl rfl ?_
      refine G_iload_n hk dX10_lose_42 rfl ?_
      refine G_aald hk dX10_lose_43 (by decide) rfl (by decide) (by omega) (by omega) (sh_j ⟨by omega, by omega⟩) ?_
      refine G_cV0V hk dX10_lose_44 mvX8_becomeLost mlX10_279 hb hy rfl (Nat.le_of_ble_eq_true rfl) (c_X8_becomeLost _ Γ (d + 1) _ _ hS) (fun S_44 hp_44 => ?_)
      refine G_iload_n hk dX10_lose_47 rfl ?_
      exact G_iret hk hr dX10_lose_48 (by
  have hl : ¬ S 45 s.toNat < 0 := by omega
  rw [hp_44, ll hl]
  exact ⟨by unfold q_lose; rw [if_neg (by omega), if_neg hl], CR_lose hR hI ⟨by omega, by omega⟩ hl⟩)
    · refine G_rload_n hk dX10_lose_22 rfl ?_
      refine G_iconst hk dX10_lose_23 ?_
      refine G_cV1I hk dX10_lose_24 mvX10_found mlX10_227 (by decide) rfl rfl (Nat.le_of_ble_eq_true rfl) (c_X10_found _ Γ (d + 1) _ _) (fun r_24 S_24 hp_24 => ?_)
      exact G_iret hk hr dX10_lose_27 (by
  have e : q_lose S s = (-11, su S 44 4 1) := by unfold q_lose; rw [if_neg (by omega), if_pos (by omega)]
  rw [e, hp_24.1, hp_24.2]
  exact ⟨rfl, CR_find hR hI (by decide)⟩)
  · refine G_bipush hk dX10_lose_7 (by decide) ?_
    exact G_iret hk hr dX10_lose_9 (by rw [show q_lose S s = (_, S) by unfold q_lose; (repeat' split) <;> first | rfl | (exfalso; omega)]; exact ⟨rfl, hR, hiC_0 S⟩)

theorem c_X10_lay (l : Launch) (Γ : Ev) (d : Nat) (S : Sx) (hR : CR S S) (hI : InvM S) (s f i v : Int) (h_s : R32 s) (h_f : R32 f) (h_i : R32 i) (h_v : R32 v) : Ctr l Γ (d + 2) mX10_lay [rf Γ 0, vI s, vI f, vI i, vI v] S (pI (fun r S2 => r = (q_lay S s f i v).1 ∧ CR S2 (q_lay S s f i v).2 ∧ hiC S S2)) := by
  refine Ctr.of (by decide) rfl rfl (Nat.le_of_ble_eq_true rfl) ?_
  intro κ hl hk hr
  subst hl
  obtain ⟨⟨hC, hW, hWt, h09, h010⟩, hSh⟩ := id hR
  obtain ⟨h15, n8, h62, n12, h132, m12⟩ := cl_n hC
  have i2 := hI.2.1
  have t31 : (S 44 6).toNat ≤ 31 := hI.1.1
  have e6 : S 1 3 = S 44 6 := by
    have : S 1 3 = ((S 44 6).toNat : Int) := hC.2.1.1.1
    omega
  refine G_iload_n hk dX10_lay_0 rfl ?_
  refine G_cS1P hk dX10_lay_1 msX10_isSheet mlX10_221 (Nat.le_of_ble_eq_true rfl) (c_X10_isSheet _ Γ (d + 0) _ _ ⟨by omega, by omega⟩) ?_
  refine G_bif_eq (tgt := 14) hk dX10_lay_4 (by decide) (fun h_4 => ?_) (fun h_4 => ?_)
  · refine G_bipush hk dX10_lay_14 (by decide) ?_
    exact G_iret hk hr dX10_lay_16 (by rw [show q_lay S s f i v = (_, S) by unfold q_lay; (repeat' split) <;> first | rfl | (exfalso; omega)]; exact ⟨rfl, hR, hiC_0 S⟩)
  · refine G_iload_n hk dX10_lay_7 rfl ?_
    refine G_cS1P hk dX10_lay_8 msX10_isForm mlX10_273 (Nat.le_of_ble_eq_true rfl) (c_X10_isForm _ Γ (d + 0) _ _ ⟨by omega, by omega⟩) ?_
    refine G_bif_ne (tgt := 17) hk dX10_lay_11 (by decide) (fun h_11 => ?_) (fun h_11 => ?_)
    · have hS := SH_s s.toNat (by omega)
      obtain ⟨hb, hb1, hy, hy1⟩ := id hS
      have c45 := hI.2.2.1.1 s.toNat (by omega)
      have c46 := hI.2.2.1.2.1 s.toNat (by omega)
      have hs1 := hSh s.toNat (by omega)
      have l60 := sh_60 hR hI s.toNat (by omega)
      have ll : ¬ S 45 s.toNat < 0 → S (36 + 2 * s.toNat) 2 = S 46 s.toNat := fun q => by rw [hs1.2.1, if_neg q]
      refine G_rload_n hk dX10_lay_17 rfl ?_
      refine G_getR hk dX10_lay_18 flX10_69 (by decide) rfl rfl ?_
      refine G_iload_n hk dX10_lay_21 rfl ?_
      refine G_aald hk dX10_lay_22 (by decide) rfl (by decide) (by omega) (by omega) (sh_j ⟨by omega, by omega⟩) ?_
      refine G_iload_n hk dX10_lay_23 rfl ?_
      refine G_iload_n hk dX10_lay_24 rfl ?_
      refine G_cV2P hk dX10_lay_25 mvX8_troubleWith mlX10_282 hb hy rfl (Nat.le_of_ble_eq_true rfl) (c_X8_troubleWith _ Γ (d + 0) _ _ hS _ _ ⟨by omega, by omega⟩ ⟨by omega, by omega⟩ ⟨by omega, by omega⟩ ⟨by omega, by omega⟩) ?_
      have trc := trb_c (S (36 + 2 * s.toNat) 1) f i (S (36 + 2 * s.toNat) 2)
      generalize (if S (36 + 2 * s.toNat) 1 = -1 then (1 : Int) else if ¬ f = S (36 + 2 * s.toNat) 1 then 3 else if 0 ≤ i ∧ i ≤ S (36 + 2 * s.toNat) 2 - 1 then 0 else 2) = tr at trc ⊢
      have tr5 : 0 ≤ tr ∧ tr ≤ 5 := by omega
      refine G_istore hk dX10_lay_28 (by decide) rfl ?_
      refine G_iload hk dX10_lay_30 rfl ?_
      refine G_if_eq (tgt := 42) hk dX10_lay_32 (by decide) ⟨by omega, by omega⟩ (fun h_32 => ?_) (fun h_32 => ?_)
      · refine G_rload_n hk dX10_lay_42 rfl ?_
        refine G_getR hk dX10_lay_43 flX10_69 (by decide) rfl rfl ?_
        refine G_iload_n hk dX10_lay_46 rfl ?_
        refine G_aald hk dX10_lay_47 (by decide) rfl (by decide) (by omega) (by omega) (sh_j ⟨by omega, by omega⟩) ?_
        refine G_iload_n hk dX10_lay_48 rfl ?_
        refine G_iload hk dX10_lay_49 rfl ?_
        refine G_cV2V hk dX10_lay_51 mvX8_putItem mlX10_285 hb hy rfl (Nat.le_of_ble_eq_true rfl) (c_X8_putItem _ Γ (d + 0) _ _ hS _ _ ⟨by omega, by omega⟩ ⟨by omega, by omega⟩ ⟨by omega, by omega⟩) (fun S_51 hp_51 => ?_)
        refine G_iconst hk dX10_lay_54 ?_
        exact G_iret hk hr dX10_lay_55 (by
  have g0 : ¬ S 45 s.toNat < 0 ∧ S 45 s.toNat = f ∧ 0 ≤ i ∧ i ≤ S 46 s.toNat - 1 := by
    rcases trc with ⟨a, b⟩ | ⟨a, b, c⟩ | ⟨a, b, c, e⟩ | ⟨a, b, c, e⟩
    · exfalso; omega
    · exfalso; omega
    · have g := ll (by omega)
      omega
    · exfalso; omega
  rw [hp_51, if_pos (by have := ll g0.1; omega), show S (36 + 2 * s.toNat) 1 = f by omega]
  exact CR_lay hR hI h_v ⟨by omega, by omega⟩ ⟨by omega, by omega⟩ g0.2.1 g0.2.2)
      · refine G_rload_n hk dX10_lay_35 rfl ?_
        refine G_iload hk dX10_lay_36 rfl ?_
        refine G_cV1I hk dX10_lay_38 mvX10_found mlX10_227 (by decide) rfl rfl (Nat.le_of_ble_eq_true rfl) (c_X10_found _ Γ (d + 1) _ _) (fun r_38 S_38 hp_38 => ?_)
        exact G_iret hk hr dX10_lay_41 (by
  have e : q_lay S s f i v = (-10 - tr, su S 44 4 tr) := by
    unfold q_lay
    rcases trc with ⟨a, b⟩ | ⟨a, b, c⟩ | ⟨a, b, c, e⟩ | ⟨a, b, c, e⟩
    · rw [if_neg (by omega), if_neg (by omega), if_pos (by omega), b]
      rfl
    · rw [if_neg (by omega), if_neg (by omega), if_neg (by omega), if_pos (by omega), c]
      rfl
    · exfalso; omega
    · have g := ll (by omega)
      rw [if_neg (by omega), if_neg (by omega), if_neg (by omega), if_neg (by omega), if_neg (by omega), e]
      rfl
  rw [e, hp_38.1, hp_38.2]
  exact ⟨rfl, CR_find hR hI tr5⟩)
    · refine G_bipush hk dX10_lay_14 (by decide) ?_
      exact G_iret hk hr dX10_lay_16 (by rw [show q_lay S s f i v = (_, S) by unfold q_lay; (repeat' split) <;> first | rfl | (exfalso; omega)]; exact ⟨rfl, hR, hiC_0 S⟩)

theorem c_X10_get (l : Launch) (Γ : Ev) (d : Nat) (S : Sx) (hR : CR S S) (hI : InvM S) (s f i : Int) (h_s : R32 s) (h_f : R32 f) (h_i : R32 i) : Ctr l Γ (d + 2) mX10_get [rf Γ 0, vI s, vI f, vI i] S (pI (fun r S2 => r = (q_get S s f i).1 ∧ CR S2 (q_get S s f i).2 ∧ hiC S S2)) := by
  refine Ctr.of (by decide) rfl rfl (Nat.le_of_ble_eq_true rfl) ?_
  intro κ hl hk hr
  subst hl
  obtain ⟨⟨hC, hW, hWt, h09, h010⟩, hSh⟩ := id hR
  obtain ⟨h15, n8, h62, n12, h132, m12⟩ := cl_n hC
  have i2 := hI.2.1
  have t31 : (S 44 6).toNat ≤ 31 := hI.1.1
  have e6 : S 1 3 = S 44 6 := by
    have : S 1 3 = ((S 44 6).toNat : Int) := hC.2.1.1.1
    omega
  refine G_iload_n hk dX10_get_0 rfl ?_
  refine G_cS1P hk dX10_get_1 msX10_isSheet mlX10_221 (Nat.le_of_ble_eq_true rfl) (c_X10_isSheet _ Γ (d + 0) _ _ ⟨by omega, by omega⟩) ?_
  refine G_bif_eq (tgt := 14) hk dX10_get_4 (by decide) (fun h_4 => ?_) (fun h_4 => ?_)
  · refine G_ldcw (z := (-2147483648)) hk dX10_get_14 kcX10_290 (by decide) ?_
    exact G_iret hk hr dX10_get_17 (by rw [show q_get S s f i = (_, S) by unfold q_get; (repeat' split) <;> first | rfl | (exfalso; omega)]; exact ⟨rfl, hR, hiC_0 S⟩)
  · refine G_iload_n hk dX10_get_7 rfl ?_
    refine G_cS1P hk dX10_get_8 msX10_isForm mlX10_273 (Nat.le_of_ble_eq_true rfl) (c_X10_isForm _ Γ (d + 0) _ _ ⟨by omega, by omega⟩) ?_
    refine G_bif_ne (tgt := 18) hk dX10_get_11 (by decide) (fun h_11 => ?_) (fun h_11 => ?_)
    · have hS := SH_s s.toNat (by omega)
      obtain ⟨hb, hb1, hy, hy1⟩ := id hS
      have c45 := hI.2.2.1.1 s.toNat (by omega)
      have c46 := hI.2.2.1.2.1 s.toNat (by omega)
      have hs1 := hSh s.toNat (by omega)
      have l60 := sh_60 hR hI s.toNat (by omega)
      have ll : ¬ S 45 s.toNat < 0 → S (36 + 2 * s.toNat) 2 = S 46 s.toNat := fun q => by rw [hs1.2.1, if_neg q]
      refine G_rload_n hk dX10_get_18 rfl ?_
      refine G_getR hk dX10_get_19 flX10_69 (by decide) rfl rfl ?_
      refine G_iload_n hk dX10_get_22 rfl ?_
      refine G_aald hk dX10_get_23 (by decide) rfl (by decide) (by omega) (by omega) (sh_j ⟨by omega, by omega⟩) ?_
      refine G_iload_n hk dX10_get_24 rfl ?_
      refine G_iload_n hk dX10_get_25 rfl ?_
      refine G_cV2P hk dX10_get_26 mvX8_troubleWith mlX10_282 hb hy rfl (Nat.le_of_ble_eq_true rfl) (c_X8_troubleWith _ Γ (d + 0) _ _ hS _ _ ⟨by omega, by omega⟩ ⟨by omega, by omega⟩ ⟨by omega, by omega⟩ ⟨by omega, by omega⟩) ?_
      have trc := trb_c (S (36 + 2 * s.toNat) 1) f i (S (36 + 2 * s.toNat) 2)
      generalize (if S (36 + 2 * s.toNat) 1 = -1 then (1 : Int) else if ¬ f = S (36 + 2 * s.toNat) 1 then 3 else if 0 ≤ i ∧ i ≤ S (36 + 2 * s.toNat) 2 - 1 then 0 else 2) = tr at trc ⊢
      have tr5 : 0 ≤ tr ∧ tr ≤ 5 := by omega
      refine G_istore hk dX10_get_29 (by decide) rfl ?_
      refine G_iload hk dX10_get_31 rfl ?_
      refine G_if_eq (tgt := 46) hk dX10_get_33 (by decide) ⟨by omega, by omega⟩ (fun h_33 => ?_) (fun h_33 => ?_)
      · refine G_rload_n hk dX10_get_46 rfl ?_
        refine G_getR hk dX10_get_47 flX10_69 (by decide) rfl rfl ?_
        refine G_iload_n hk dX10_get_50 rfl ?_
        refine G_aald hk dX10_get_51 (by decide) rfl (by decide) (by omega) (by omega) (sh_j ⟨by omega, by omega⟩) ?_
        refine G_iload_n hk dX10_get_52 rfl ?_
        refine G_cV1P hk dX10_get_53 mvX8_item mlX10_231 hb hy rfl (Nat.le_of_ble_eq_true rfl) (c_X8_item _ Γ (d + 0) _ _ hS _ ⟨by omega, by omega⟩ ⟨by omega, by omega⟩) ?_
        exact G_iret hk hr dX10_get_56 (by
  have g0 : ¬ S 45 s.toNat < 0 ∧ S 45 s.toNat = f ∧ 0 ≤ i ∧ i ≤ S 46 s.toNat - 1 := by
    rcases trc with ⟨a, b⟩ | ⟨a, b, c⟩ | ⟨a, b, c, e⟩ | ⟨a, b, c, e⟩
    · exfalso; omega
    · exfalso; omega
    · have g := ll (by omega)
      omega
    · exfalso; omega
  have g := ll g0.1
  have e : q_get S s f i = (S 47 (60 * s + i).toNat, S) := by unfold q_get; rw [if_neg (by omega), if_neg (by omega), if_neg (by omega), if_neg (by omega), if_pos (by omega)]
  rw [e, if_pos (by omega), hs1.2.2 i.toNat (by omega), show 60 * s.toNat + i.toNat = (60 * s + i).toNat by omega]
  exact ⟨rfl, hR, hiC_0 S⟩)
      · refine G_rload_n hk dX10_get_36 rfl ?_
        refine G_iload hk dX10_get_37 rfl ?_
        refine G_putI hk dX10_get_39 flX10_77 fpX10_10 (by decide) rfl rfl ?_
        refine G_ldcw (z := (-2147483648)) hk dX10_get_42 kcX10_290 (by decide) ?_
        exact G_iret hk hr dX10_get_45 (by
  have e : q_get S s f i = (-2147483648, su S 44 4 tr) := by
    unfold q_get
    rcases trc with ⟨a, b⟩ | ⟨a, b, c⟩ | ⟨a, b, c, e⟩ | ⟨a, b, c, e⟩
    · rw [if_neg (by omega), if_neg (by omega), if_pos (by omega), b]
    · rw [if_neg (by omega), if_neg (by omega), if_neg (by omega), if_pos (by omega), c]
    · exfalso; omega
    · have g := ll (by omega)
      rw [if_neg (by omega), if_neg (by omega), if_neg (by omega), if_neg (by omega), if_neg (by omega), e]
  rw [e]
  exact ⟨rfl, CR_find hR hI tr5⟩)
    · refine G_ldcw (z := (-2147483648)) hk dX10_get_14 kcX10_290 (by decide) ?_
      exact G_iret hk hr dX10_get_17 (by rw [show q_get S s f i = (_, S) by unfold q_get; (repeat' split) <;> first | rfl | (exfalso; omega)]; exact ⟨rfl, hR, hiC_0 S⟩)

theorem c_X10_copy (l : Launch) (Γ : Ev) (d : Nat) (S : Sx) (hR : CR S S) (hI : InvM S) (s i t j n : Int) (h_s : R32 s) (h_i : R32 i) (h_t : R32 t) (h_j : R32 j) (h_n : R32 n) : Ctr l Γ (d + 2) mX10_copy [rf Γ 0, vI s, vI i, vI t, vI j, vI n] S (pI (fun r S2 => r = (q_copy S s i t j n).1 ∧ CR S2 (q_copy S s i t j n).2 ∧ hiC S S2)) := by
  refine Ctr.of (by decide) rfl rfl (Nat.le_of_ble_eq_true rfl) ?_
  intro κ hl hk hr
  subst hl
  obtain ⟨⟨hC, hW, hWt, h09, h010⟩, hSh⟩ := id hR
  obtain ⟨h15, n8, h62, n12, h132, m12⟩ := cl_n hC
  have i2 := hI.2.1
  have t31 : (S 44 6).toNat ≤ 31 := hI.1.1
  have e6 : S 1 3 = S 44 6 := by
    have : S 1 3 = ((S 44 6).toNat : Int) := hC.2.1.1.1
    omega
  refine G_iload_n hk dX10_copy_0 rfl ?_
  refine G_cS1P hk dX10_copy_1 msX10_isSheet mlX10_221 (Nat.le_of_ble_eq_true rfl) (c_X10_isSheet _ Γ (d + 0) _ _ ⟨by omega, by omega⟩) ?_
  refine G_bif_eq (tgt := 14) hk dX10_copy_4 (by decide) (fun h_4 => ?_) (fun h_4 => ?_)
  · refine G_bipush hk dX10_copy_14 (by decide) ?_
    exact G_iret hk hr dX10_copy_16 (by rw [show q_copy S s i t j n = (_, S) by unfold q_copy; (repeat' split) <;> first | rfl | (exfalso; omega)]; exact ⟨rfl, hR, hiC_0 S⟩)
  · refine G_iload_n hk dX10_copy_7 rfl ?_
    refine G_cS1P hk dX10_copy_8 msX10_isSheet mlX10_221 (Nat.le_of_ble_eq_true rfl) (c_X10_isSheet _ Γ (d + 0) _ _ ⟨by omega, by omega⟩) ?_
    refine G_bif_ne (tgt := 17) hk dX10_copy_11 (by decide) (fun h_11 => ?_) (fun h_11 => ?_)
    · have hS := SH_s s.toNat (by omega)
      obtain ⟨hb, hb1, hy, hy1⟩ := id hS
      have c45 := hI.2.2.1.1 s.toNat (by omega)
      have c46 := hI.2.2.1.2.1 s.toNat (by omega)
      have hs1 := hSh s.toNat (by omega)
      have l60 := sh_60 hR hI s.toNat (by omega)
      have ll : ¬ S 45 s.toNat < 0 → S (36 + 2 * s.toNat) 2 = S 46 s.toNat := fun q => by rw [hs1.2.1, if_neg q]
      have hS2 := SH_s t.toNat (by omega)
      obtain ⟨gb, gb1, gy, gy1⟩ := id hS2
      have e45 := hI.2.2.1.1 t.toNat (by omega)
      have e46 := hI.2.2.1.2.1 t.toNat (by omega)
      have gs1 := hSh t.toNat (by omega)
      have m60 := sh_60 hR hI t.toNat (by omega)
      have l2 : ¬ S 45 t.toNat < 0 → S (36 + 2 * t.toNat) 2 = S 46 t.toNat := fun q => by rw [gs1.2.1, if_neg q]
      refine G_rload_n hk dX10_copy_17 rfl ?_
      refine G_getR hk dX10_copy_18 flX10_69 (by decide) rfl rfl ?_
      refine G_iload_n hk dX10_copy_21 rfl ?_
      refine G_aald hk dX10_copy_22 (by decide) rfl (by decide) (by omega) (by omega) (sh_j ⟨by omega, by omega⟩) ?_
      refine G_astore hk dX10_copy_23 (by decide) rfl ?_
      refine G_rload_n hk dX10_copy_25 rfl ?_
      refine G_getR hk dX10_copy_26 flX10_69 (by decide) rfl rfl ?_
      refine G_iload_n hk dX10_copy_29 rfl ?_
      refine G_aald hk dX10_copy_30 (by decide) rfl (by decide) (by omega) (by omega) (sh_j ⟨by omega, by omega⟩) ?_
      refine G_astore hk dX10_copy_31 (by decide) rfl ?_
      refine G_rload hk dX10_copy_33 rfl ?_
      refine G_cV0P hk dX10_copy_35 mvX8_isLost mlX10_224 hb hy rfl (Nat.le_of_ble_eq_true rfl) (c_X8_isLost _ Γ (d + 1) _ _ hS ⟨by omega, by omega⟩) ?_
      refine G_bif_ne (tgt := 49) hk dX10_copy_38 (by decide) (fun h_38 => ?_) (fun h_38 => ?_)
      · refine G_rload_n hk dX10_copy_49 rfl ?_
        refine G_iconst hk dX10_copy_50 ?_
        refine G_cV1I hk dX10_copy_51 mvX10_found mlX10_227 (by decide) rfl rfl (Nat.le_of_ble_eq_true rfl) (c_X10_found _ Γ (d + 1) _ _) (fun r_51 S_51 hp_51 => ?_)
        exact G_iret hk hr dX10_copy_54 (by
  have e : q_copy S s i t j n = (-11, su S 44 4 1) := by unfold q_copy; rw [if_neg (by omega), if_neg (by omega), if_pos (by omega)]
  rw [e, hp_51.1, hp_51.2]
  exact ⟨rfl, CR_find hR hI (by decide)⟩)
      · refine G_rload hk dX10_copy_41 rfl ?_
        refine G_cV0P hk dX10_copy_43 mvX8_isLost mlX10_224 gb gy rfl (Nat.le_of_ble_eq_true rfl) (c_X8_isLost _ Γ (d + 1) _ _ hS2 ⟨by omega, by omega⟩) ?_
        refine G_bif_eq (tgt := 55) hk dX10_copy_46 (by decide) (fun h_46 => ?_) (fun h_46 => ?_)
        · refine G_rload hk dX10_copy_55 rfl ?_
          refine G_rload hk dX10_copy_57 rfl ?_
          refine G_cV1P hk dX10_copy_59 mvX8_isLike mlX10_291 gb gy rfl (Nat.le_of_ble_eq_true rfl) (c_X8_isLike _ Γ (d + 1) _ _ hS2 _ hS ⟨by omega, by omega⟩ ⟨by omega, by omega⟩) ?_
          refine G_bif_ne (tgt := 71) hk dX10_copy_62 (by decide) (fun h_62 => ?_) (fun h_62 => ?_)
          · refine G_rload hk dX10_copy_71 rfl ?_
            refine G_iload_n hk dX10_copy_73 rfl ?_
            refine G_iload hk dX10_copy_74 rfl ?_
            refine G_cV2P hk dX10_copy_76 mvX8_hasRun mlX10_295 hb hy rfl (Nat.le_of_ble_eq_true rfl) (c_X8_hasRun _ Γ (d + 1) _ _ hS _ _ ⟨by omega, by omega⟩ ⟨by omega, by omega⟩ ⟨by omega, by omega⟩) ?_
            refine G_bif_eq (tgt := 94) hk dX10_copy_79 (by decide) (fun h_79 => ?_) (fun h_79 => ?_)
            · refine G_rload_n hk dX10_copy_94 rfl ?_
              refine G_iconst hk dX10_copy_95 ?_
              refine G_cV1I hk dX10_copy_96 mvX10_found mlX10_227 (by decide) rfl rfl (Nat.le_of_ble_eq_true rfl) (c_X10_found _ Γ (d + 1) _ _) (fun r_96 S_96 hp_96 => ?_)
              exact G_iret hk hr dX10_copy_99 (by
  have l9 := ll (by omega)
  have l8 := l2 (by omega)
  have e : q_copy S s i t j n = (-12, su S 44 4 2) := by unfold q_copy; rw [if_neg (by omega), if_neg (by omega), if_neg (by omega), if_neg (by omega), if_neg (by omega), if_pos (by omega)]
  rw [e, hp_96.1, hp_96.2]
  exact ⟨rfl, CR_find hR hI (by decide)⟩)
            · refine G_rload hk dX10_copy_82 rfl ?_
              refine G_iload hk dX10_copy_84 rfl ?_
              refine G_iload hk dX10_copy_86 rfl ?_
              refine G_cV2P hk dX10_copy_88 mvX8_hasRun mlX10_295 gb gy rfl (Nat.le_of_ble_eq_true rfl) (c_X8_hasRun _ Γ (d + 1) _ _ hS2 _ _ ⟨by omega, by omega⟩ ⟨by omega, by omega⟩ ⟨by omega, by omega⟩) ?_
              refine G_bif_ne (tgt := 100) hk dX10_copy_91 (by decide) (fun h_91 => ?_) (fun h_91 => ?_)
              · refine G_rload hk dX10_copy_100 rfl ?_
                refine G_iload hk dX10_copy_102 rfl ?_
                refine G_rload hk dX10_copy_104 rfl ?_
                refine G_iload_n hk dX10_copy_106 rfl ?_
                refine G_iload hk dX10_copy_107 rfl ?_
                refine G_cV4V hk dX10_copy_109 mvX8_putRun mlX10_298 gb gy rfl (Nat.le_of_ble_eq_true rfl) (c_X8_putRun _ Γ (d + 0) _ _ hS2 _ hS _ _ _ (by omega) (by omega) (by omega) (by omega) (by omega) ⟨by omega, by omega⟩ ⟨by omega, by omega⟩) (fun S_109 hp_109 => ?_)
                refine G_iconst hk dX10_copy_112 ?_
                exact G_iret hk hr dX10_copy_113 (by
  have l9 := ll (by omega)
  have l8 := l2 (by omega)
  rw [hp_109]
  exact CR_copy hR hI ⟨by omega, by omega⟩ ⟨by omega, by omega⟩ (by omega) (by omega) (by omega) (by omega))
              · refine G_rload_n hk dX10_copy_94 rfl ?_
                refine G_iconst hk dX10_copy_95 ?_
                refine G_cV1I hk dX10_copy_96 mvX10_found mlX10_227 (by decide) rfl rfl (Nat.le_of_ble_eq_true rfl) (c_X10_found _ Γ (d + 1) _ _) (fun r_96 S_96 hp_96 => ?_)
                exact G_iret hk hr dX10_copy_99 (by
  have l9 := ll (by omega)
  have l8 := l2 (by omega)
  have e : q_copy S s i t j n = (-12, su S 44 4 2) := by unfold q_copy; rw [if_neg (by omega), if_neg (by omega), if_neg (by omega), if_neg (by omega), if_neg (by omega), if_pos (by omega)]
  rw [e, hp_96.1, hp_96.2]
  exact ⟨rfl, CR_find hR hI (by decide)⟩)
          · refine G_rload_n hk dX10_copy_65 rfl ?_
            refine G_iconst hk dX10_copy_66 ?_
            refine G_cV1I hk dX10_copy_67 mvX10_found mlX10_227 (by decide) rfl rfl (Nat.le_of_ble_eq_true rfl) (c_X10_found _ Γ (d + 1) _ _) (fun r_67 S_67 hp_67 => ?_)
            exact G_iret hk hr dX10_copy_70 (by
  have e : q_copy S s i t j n = (-14, su S 44 4 4) := by unfold q_copy; rw [if_neg (by omega), if_neg (by omega), if_neg (by omega), if_neg (by omega), if_pos (by omega)]
  rw [e, hp_67.1, hp_67.2]
  exact ⟨rfl, CR_find hR hI (by decide)⟩)
        · refine G_rload_n hk dX10_copy_49 rfl ?_
          refine G_iconst hk dX10_copy_50 ?_
          refine G_cV1I hk dX10_copy_51 mvX10_found mlX10_227 (by decide) rfl rfl (Nat.le_of_ble_eq_true rfl) (c_X10_found _ Γ (d + 1) _ _) (fun r_51 S_51 hp_51 => ?_)
          exact G_iret hk hr dX10_copy_54 (by
  have e : q_copy S s i t j n = (-11, su S 44 4 1) := by unfold q_copy; rw [if_neg (by omega), if_neg (by omega), if_neg (by omega), if_pos (by omega)]
  rw [e, hp_51.1, hp_51.2]
  exact ⟨rfl, CR_find hR hI (by decide)⟩)
    · refine G_bipush hk dX10_copy_14 (by decide) ?_
      exact G_iret hk hr dX10_copy_16 (by rw [show q_copy S s i t j n = (_, S) by unfold q_copy; (repeat' split) <;> first | rfl | (exfalso; omega)]; exact ⟨rfl, hR, hiC_0 S⟩)

theorem c_X10_write (l : Launch) (Γ : Ev) (d : Nat) (S : Sx) (hR : CR S S) (hI : InvM S) (y s : Int) (h_y : R32 y) (h_s : R32 s) : Ctr l Γ (d + 5) mX10_write [rf Γ 0, vI y, vI s] S (pI (fun r S2 => r = (q_write S y s).1 ∧ CR S2 (q_write S y s).2 ∧ hiC S S2)) := by
  refine Ctr.of (by decide) rfl rfl (Nat.le_of_ble_eq_true rfl) ?_
  intro κ hl hk hr
  subst hl
  obtain ⟨⟨hC, hW, hWt, h09, h010⟩, hSh⟩ := id hR
  obtain ⟨h15, n8, h62, n12, h132, m12⟩ := cl_n hC
  have i2 := hI.2.1
  have t31 : (S 44 6).toNat ≤ 31 := hI.1.1
  have e6 : S 1 3 = S 44 6 := by
    have : S 1 3 = ((S 44 6).toNat : Int) := hC.2.1.1.1
    omega
  refine G_iload_n hk dX10_write_0 rfl ?_
  refine G_cS1P hk dX10_write_1 msX10_isYear mlX10_110 (Nat.le_of_ble_eq_true rfl) (c_X10_isYear _ Γ (d + 3) _ _ ⟨by omega, by omega⟩) ?_
  refine G_bif_eq (tgt := 14) hk dX10_write_4 (by decide) (fun h_4 => ?_) (fun h_4 => ?_)
  · refine G_bipush hk dX10_write_14 (by decide) ?_
    exact G_iret hk hr dX10_write_16 (by rw [show q_write S y s = (_, S) by unfold q_write; (repeat' split) <;> first | rfl | (exfalso; omega)]; exact ⟨rfl, hR, hiC_0 S⟩)
  · refine G_iload_n hk dX10_write_7 rfl ?_
    refine G_cS1P hk dX10_write_8 msX10_isSheet mlX10_221 (Nat.le_of_ble_eq_true rfl) (c_X10_isSheet _ Γ (d + 3) _ _ ⟨by omega, by omega⟩) ?_
    refine G_bif_ne (tgt := 17) hk dX10_write_11 (by decide) (fun h_11 => ?_) (fun h_11 => ?_)
    · have hS := SH_s s.toNat (by omega)
      obtain ⟨hb, hb1, hy, hy1⟩ := id hS
      have c45 := hI.2.2.1.1 s.toNat (by omega)
      have c46 := hI.2.2.1.2.1 s.toNat (by omega)
      have hs1 := hSh s.toNat (by omega)
      have l60 := sh_60 hR hI s.toNat (by omega)
      have ll : ¬ S 45 s.toNat < 0 → S (36 + 2 * s.toNat) 2 = S 46 s.toNat := fun q => by rw [hs1.2.1, if_neg q]
      refine G_rload_n hk dX10_write_17 rfl ?_
      refine G_getR hk dX10_write_18 flX10_69 (by decide) rfl rfl ?_
      refine G_iload_n hk dX10_write_21 rfl ?_
      refine G_aald hk dX10_write_22 (by decide) rfl (by decide) (by omega) (by omega) (sh_j ⟨by omega, by omega⟩) ?_
      refine G_astore_n hk dX10_write_23 (by decide) rfl ?_
      refine G_rload_n hk dX10_write_24 rfl ?_
      refine G_cV0P hk dX10_write_25 mvX8_isLost mlX10_224 hb hy rfl (Nat.le_of_ble_eq_true rfl) (c_X8_isLost _ Γ (d + 4) _ _ hS ⟨by omega, by omega⟩) ?_
      refine G_bif_eq (tgt := 37) hk dX10_write_28 (by decide) (fun h_28 => ?_) (fun h_28 => ?_)
      · have hl : ¬ S 45 s.toNat < 0 := by omega
        have l9 := ll hl
        refine G_rload_n hk dX10_write_37 rfl ?_
        refine G_getR hk dX10_write_38 flX10_35 (by decide) rfl rfl ?_
        refine G_iload_n hk dX10_write_41 rfl ?_
        refine G_cV1V hk dX10_write_42 mvX3_goThrough mlX10_146 (by decide) rfl rfl (Nat.le_of_ble_eq_true rfl) (c_X3_goThrough _ Γ (d + 0) _ (av S) hC _ (y.toNat + 1) (by omega) (by omega)) (fun S_42 hp_42 => ?_)
        obtain ⟨hY, hf⟩ := hp_42
        obtain ⟨q15, -, q62, -, -, -⟩ := cl_n hY.2.1
        have hX := hY.1
        refine G_rload_n hk dX10_write_45 rfl ?_
        refine G_cV0P hk dX10_write_46 mvX8_length mlX10_230 hb hy rfl (Nat.le_of_ble_eq_true rfl) (c_X8_length _ Γ (d + 4) _ _ hS) ?_
        rw [hf (36 + 2 * s.toNat) (by omega) (by omega) (by omega) (by omega), l9]
        refine G_rload_n hk dX10_write_49 rfl ?_
        refine G_getR hk dX10_write_50 flX10_10 (by decide) rfl rfl ?_
        refine G_cV0P hk dX10_write_53 mvX4_howMany mlX10_190 (by decide) rfl rfl (Nat.le_of_ble_eq_true rfl) (c_X4_howMany _ Γ (d + 4) _) ?_
        rw [q15]
        refine G_cS2P hk dX10_write_56 msJ9_min_7cf53 mlX10_302 (Nat.le_of_ble_eq_true rfl) (c_J9_min _ Γ (d + 4) _ _ _ ⟨by omega, by omega⟩ ⟨by omega, by omega⟩) ?_
        rw [min_lsr]
        have lsb := lsr_le c46.1 (show (0 : Int) ≤ (aN (av S) : Int) by omega)
        obtain ⟨m, hm⟩ : ∃ m : Nat, lsr (S 46 s.toNat) (aN (av S)) = (m : Int) := ⟨(lsr (S 46 s.toNat) (aN (av S))).toNat, by omega⟩
        rw [hm] at lsb ⊢
        refine G_istore hk dX10_write_59 (by decide) rfl ?_
        refine G_iconst hk dX10_write_61 ?_
        refine G_istore hk dX10_write_62 (by decide) rfl ?_
        have lp := loop_up (P := fun k => GW κ Γ 64 [some (rf Γ 0), some (vI y), some (vI s), some (rf Γ (36 + 2 * s.toNat)), some (vI (m : Int)), some (vI (k : Int))] [] (wl Γ (sr S_42 (36 + 2 * s.toNat + 1) (fill (S_42 (36 + 2 * s.toNat + 1)) (fun p => cutf (S 45 s.toNat) ((lv (av S) (y.toNat + 1)).1 p)) 0 k)))) m ?_ ?_ 0 (Nat.zero_le _)
        · rw [fill_0, sr_self] at lp
          exact lp
        · refine G_iload hk dX10_write_64 rfl ?_
          refine G_iload hk dX10_write_66 rfl ?_
          refine G_icmp_ge (tgt := 92) hk dX10_write_68 (by decide) ⟨by omega, by omega⟩ ⟨by omega, by omega⟩ (fun h_68 => ?_) (fun h_68 => ?_)
          · refine G_iload hk dX10_write_92 rfl ?_
            exact G_iret hk hr dX10_write_94 (CR_write hR hI hf ⟨by omega, by omega⟩ ⟨by omega, by omega⟩ hl hm)
          · exact absurd h_68 (by omega)--stop
        · intro k hk9 ih
          have r15 : (sr S_42 (36 + 2 * s.toNat + 1) (fill (S_42 (36 + 2 * s.toNat + 1)) (fun p => cutf (S 45 s.toNat) ((lv (av S) (y.toNat + 1)).1 p)) 0 k)) 1 5 = (aN (av S) : Int) := by rw [sr_ne _ (by omega)]; exact q15
          have r18 : (sr S_42 (36 + 2 * s.toNat + 1) (fill (S_42 (36 + 2 * s.toNat + 1)) (fun p => cutf (S 45 s.toNat) ((lv (av S) (y.toNat + 1)).1 p)) 0 k)) 18 k = (lv (av S) (y.toNat + 1)).1 k := by rw [sr_ne _ (by omega)]; exact hX.1 k (by omega)
          have rb : (sr S_42 (36 + 2 * s.toNat + 1) (fill (S_42 (36 + 2 * s.toNat + 1)) (fun p => cutf (S 45 s.toNat) ((lv (av S) (y.toNat + 1)).1 p)) 0 k)) (36 + 2 * s.toNat) = S (36 + 2 * s.toNat) := by rw [sr_ne _ (by omega)]; exact hf _ (by omega) (by omega) (by omega) (by omega)
          refine G_iload hk dX10_write_64 rfl ?_
          refine G_iload hk dX10_write_66 rfl ?_
          refine G_icmp_ge (tgt := 92) hk dX10_write_68 (by decide) ⟨by omega, by omega⟩ ⟨by omega, by omega⟩ (fun h_68 => ?_) (fun h_68 => ?_)
          · exact absurd h_68 (by omega)--stop
          · refine G_rload_n hk dX10_write_71 rfl ?_
            refine G_iload hk dX10_write_72 rfl ?_
            refine G_rload_n hk dX10_write_74 rfl ?_
            refine G_getR hk dX10_write_75 flX10_35 (by decide) rfl rfl ?_
            refine G_iload hk dX10_write_78 rfl ?_
            refine G_cV1P hk dX10_write_80 mvX3_solidOf mlX10_149 (by decide) rfl rfl (Nat.le_of_ble_eq_true rfl) (c_X3_solidOf _ Γ (d + 3) _ _ ⟨by omega, by omega⟩ ⟨by omega, by omega⟩) ?_
            rw [if_pos (by omega), show ((k : Int)).toNat = k from rfl, r18]
            refine G_cV2V hk dX10_write_83 mvX8_putItem mlX10_285 hb hy rfl (Nat.le_of_ble_eq_true rfl) (c_X8_putItem _ Γ (d + 3) _ _ hS _ _ ⟨by omega, by omega⟩ (by rw [rb]; omega) (by rw [rb]; omega)) (fun S_83 hp_83 => ?_)
            rw [rb, if_pos (by omega), show ((k : Int)).toNat = k from rfl, sr_su, hs1.1] at hp_83
            have fs := fill_s (S_42 (36 + 2 * s.toNat + 1)) (fun p => cutf (S 45 s.toNat) ((lv (av S) (y.toNat + 1)).1 p)) 0 k
            simp only [Nat.zero_add] at fs
            refine G_iinc hk dX10_write_86 rfl (by decide) rfl ?_
            refine G_goto (tgt := 64) hk dX10_write_89 (by decide) ?_
            rw [hp_83, fs]
            exact ih
      · refine G_rload_n hk dX10_write_31 rfl ?_
        refine G_iconst hk dX10_write_32 ?_
        refine G_cV1I hk dX10_write_33 mvX10_found mlX10_227 (by decide) rfl rfl (Nat.le_of_ble_eq_true rfl) (c_X10_found _ Γ (d + 4) _ _) (fun r_33 S_33 hp_33 => ?_)
        exact G_iret hk hr dX10_write_36 (by
  have e : q_write S y s = (-11, su S 44 4 1) := by unfold q_write; rw [if_neg (by omega), if_neg (by omega), if_pos (by omega)]
  rw [e, hp_33.1, hp_33.2]
  exact ⟨rfl, CR_find hR hI (by decide)⟩)
    · refine G_bipush hk dX10_write_14 (by decide) ?_
      exact G_iret hk hr dX10_write_16 (by rw [show q_write S y s = (_, S) by unfold q_write; (repeat' split) <;> first | rfl | (exfalso; omega)]; exact ⟨rfl, hR, hiC_0 S⟩)
