/-! a roll: years as told, and an order by year and number -/
def Ord (n : Nat) (Y q : Nat → Int) : Prop := (∀ i, i < n → 0 ≤ q i ∧ q i < (n : Int)) ∧ (∀ k, k < n → ∃ i, i < n ∧ q i = (k : Int)) ∧ (∀ i j, i < j → j < n → Y (q i).toNat < Y (q j).toNat ∨ (Y (q i).toNat = Y (q j).toNat ∧ q i < q j))
def RoR (S : Sx) (r y w cap n : Nat) (Y : Nat → Int) : Prop := S r 2 = (n : Int) ∧ n ≤ cap ∧ (∀ j, j < n → S y j = Y j) ∧ (∀ j, j < n → 0 ≤ Y j ∧ Y j ≤ 29) ∧ Ord n Y (S w)
theorem RoR_cong {S S2 : Sx} {r y w cap n : Nat} {Y : Nat → Int} (h : RoR S r y w cap n Y) (h1 : S2 r = S r) (h2 : S2 y = S y) (h3 : S2 w = S w) : RoR S2 r y w cap n Y := by
  unfold RoR at h ⊢
  rw [h1, h2, h3]
  exact h
theorem Ord_congr {n : Nat} {Y Y2 q : Nat → Int} (h : Ord n Y q) (hY : ∀ j, j < n → Y2 j = Y j) : Ord n Y2 q := by
  obtain ⟨h1, h2, h3⟩ := h
  refine ⟨h1, h2, fun i j hi hj => ?_⟩
  have a := h1 i (by omega)
  have b := h1 j hj
  rw [hY _ (by omega), hY _ (by omega)]
  exact h3 i j hi hj
theorem Ord_ins {n p : Nat} {Y Y2 q q2 : Nat → Int} (h : Ord n Y q) (hp : p ≤ n) (hY : ∀ j, j < n → Y2 j = Y j) (hlo : ∀ i, i < p → Y (q i).toNat ≤ Y2 n) (hhi : ∀ i, p ≤ i → i < n → Y2 n < Y (q i).toNat) (e1 : ∀ j, j < p → q2 j = q j) (e2 : q2 p = (n : Int)) (e3 : ∀ j, p < j → j ≤ n → q2 j = q (j - 1)) : Ord (n + 1) Y2 q2 := by
  have h' := Ord_congr h hY
  obtain ⟨h1, h2, h3⟩ := h
  obtain ⟨-, -, h3'⟩ := h'
  have yy : ∀ i, i < n → Y2 (q i).toNat = Y (q i).toNat := fun i hi => hY _ (by have := h1 i hi; omega)
  have nn : ((n : Int)).toNat = n := rfl
  refine ⟨?_, ?_, ?_⟩
  · intro i hi
    by_cases c1 : i < p
    · have := h1 i (by omega); rw [e1 i c1]; omega
    · by_cases c2 : i = p
      · rw [c2, e2]; omega
      · have := h1 (i - 1) (by omega); rw [e3 i (by omega) (by omega)]; omega
  · intro k hk
    by_cases c : k = n
    · exact ⟨p, by omega, by rw [e2, c]⟩
    · obtain ⟨i, hi, e⟩ := h2 k (by omega)
      by_cases c1 : i < p
      · exact ⟨i, by omega, by rw [e1 i c1, e]⟩
      · exact ⟨i + 1, by omega, by rw [e3 (i + 1) (by omega) (by omega), Nat.add_sub_cancel, e]⟩
  · intro i j hij hj
    by_cases c1 : j < p
    · rw [e1 i (by omega), e1 j c1]
      exact h3' i j hij (by omega)
    · by_cases c2 : j = p
      · have b := h1 i (by omega)
        have a := hlo i (by omega)
        rw [c2, e2, e1 i (by omega), nn, yy i (by omega)]
        omega
      · rw [e3 j (by omega) (by omega)]
        by_cases c3 : i < p
        · rw [e1 i c3]
          exact h3' i (j - 1) (by omega) (by omega)
        · by_cases c4 : i = p
          · have a := hhi (j - 1) (by omega) (by omega)
            rw [c4, e2, nn, yy (j - 1) (by omega)]
            exact Or.inl a
          · rw [e3 i (by omega) (by omega)]
            exact h3' (i - 1) (j - 1) (by omega) (by omega)
theorem Ord_inj {n : Nat} {Y q : Nat → Int} (h : Ord n Y q) {i j : Nat} (hi : i < n) (hj : j < n) (e : q i = q j) : i = j := by
  rcases Nat.lt_trichotomy i j with c | c | c
  · have := h.2.2 i j c hj; rw [e] at this; omega
  · exact c
  · have := h.2.2 j i c hi; rw [e] at this; omega
theorem Ord_del {n p : Nat} {Y q q2 : Nat → Int} (h : Ord (n + 1) Y q) (hp : p < n + 1) (ep : q p = (n : Int)) (e1 : ∀ j, j < p → q2 j = q j) (e3 : ∀ j, p ≤ j → j < n → q2 j = q (j + 1)) : Ord n Y q2 := by
  have hij := @Ord_inj _ _ _ h
  obtain ⟨h1, h2, h3⟩ := h
  refine ⟨?_, ?_, ?_⟩
  · intro i hi
    by_cases c1 : i < p
    · have := h1 i (by omega)
      have : q i ≠ (n : Int) := fun e => by have := hij (by omega : i < n + 1) hp (by rw [e, ep]); omega
      rw [e1 i c1]; omega
    · have := h1 (i + 1) (by omega)
      have : q (i + 1) ≠ (n : Int) := fun e => by have := hij (by omega : i + 1 < n + 1) hp (by rw [e, ep]); omega
      rw [e3 i (by omega) hi]; omega
  · intro k hk
    obtain ⟨i, hi, e⟩ := h2 k (by omega)
    have hne : i ≠ p := fun c => by rw [c, ep] at e; omega
    by_cases c1 : i < p
    · exact ⟨i, by omega, by rw [e1 i c1, e]⟩
    · exact ⟨i - 1, by omega, by rw [e3 (i - 1) (by omega) (by omega), show i - 1 + 1 = i by omega, e]⟩
  · intro i j hij2 hj
    by_cases c1 : j < p
    · rw [e1 i (by omega), e1 j c1]
      exact h3 i j hij2 (by omega)
    · rw [e3 j (by omega) hj]
      by_cases c2 : i < p
      · rw [e1 i c2]
        exact h3 i (j + 1) (by omega) (by omega)
      · rw [e3 i (by omega) (by omega)]
        exact h3 (i + 1) (j + 1) (by omega) (by omega)
/-- the row of places moved up behind p -/
def shO (S : Sx) (w p n : Nat) : Sx := sr S w (fun j => if p < j ∧ j ≤ n then S w (j - 1) else S w j)
theorem shO_0 (S : Sx) (w n : Nat) : shO S w n n = S := by
  funext c j
  by_cases h : c = w
  · simp only [shO, sr, h, ↓reduceIte]
    rw [if_neg (by omega)]
  · simp only [shO, sr, if_neg h]
theorem shO_s (S : Sx) (w p n : Nat) (hp : p + 1 ≤ n) : su (shO S w (p + 1) n) w (p + 1) (S w p) = shO S w p n := by
  funext c j
  simp only [shO, sr, su]
  by_cases h : c = w
  · simp only [h, ↓reduceIte]
    by_cases e : j = p + 1
    · rw [if_pos e, if_pos (by omega), e, Nat.add_sub_cancel]
    · rw [if_neg e]
      by_cases e2 : p + 1 < j ∧ j ≤ n
      · rw [if_pos e2, if_pos (by omega)]
      · rw [if_neg e2, if_neg (by omega)]
  · simp only [if_neg h]
theorem shO_ne {S : Sx} {w p n c : Nat} (h : c ≠ w) : shO S w p n c = S c := by simp [shO, sr, h]
theorem shO_le {S : Sx} {w p n j : Nat} (h : j ≤ p) : shO S w p n w j = S w j := by
  simp only [shO, sr, ↓reduceIte]
  rw [if_neg (by omega)]
theorem shO_gt {S : Sx} {w p n j : Nat} (h : p < j ∧ j ≤ n) : shO S w p n w j = S w (j - 1) := by
  simp only [shO, sr, ↓reduceIte]
  rw [if_pos h]
theorem Ro_add {S : Sx} {r y w cap n p : Nat} {Y Y2 : Nat → Int} {yr : Int} (hR : RoR S r y w cap n Y) (n1 : r ≠ y) (n2 : r ≠ w) (n3 : y ≠ w) (hn : n < cap) (hyr : 0 ≤ yr ∧ yr ≤ 29) (h2 : ∀ j, j < n → Y2 j = Y j) (h2n : Y2 n = yr) (hp : p ≤ n) (hlo : ∀ i, i < p → Y (S w i).toNat ≤ yr) (hhi : ∀ i, p ≤ i → i < n → yr < Y (S w i).toNat) :
    RoR (su (su (su (shO S w p n) y n yr) w p (n : Int)) r 2 ((n : Int) + 1)) r y w cap (n + 1) Y2 ∧ (∀ c, c ≠ r → c ≠ y → c ≠ w → (su (su (su (shO S w p n) y n yr) w p (n : Int)) r 2 ((n : Int) + 1)) c = S c) := by
  obtain ⟨g1, g2, g3, g4, g5⟩ := hR
  refine ⟨⟨?_, by omega, ?_, ?_, ?_⟩, ?_⟩
  · rw [su_at]; rfl
  · intro j hj
    rw [su_ne _ (Ne.symm n1), su_ne _ n3, su_row, shO_ne n3]
    by_cases e : j = n
    · rw [if_pos e, e, h2n]
    · rw [if_neg e, g3 j (by omega), h2 j (by omega)]
  · intro j hj
    by_cases e : j = n
    · rw [e, h2n]; exact hyr
    · rw [h2 j (by omega)]; exact g4 j (by omega)
  · refine Ord_ins g5 hp h2 (by rw [h2n]; exact hlo) (by rw [h2n]; exact hhi) ?_ ?_ ?_
    · intro j hj
      rw [su_ne _ (Ne.symm n2), su_nk _ _ _ (by omega), su_ne _ (Ne.symm n3), shO_le (by omega)]
    · rw [su_ne _ (Ne.symm n2), su_at]
    · intro j h5 h6
      rw [su_ne _ (Ne.symm n2), su_nk _ _ _ (by omega), su_ne _ (Ne.symm n3), shO_gt ⟨h5, h6⟩]
  · intro c c1 c2 c3
    rw [su_ne _ c1, su_ne _ c3, su_ne _ c2, shO_ne c3]
def drO (S : Sx) (w q k : Nat) : Sx := sr S w (fun j => if q ≤ j ∧ j + 1 < k then S w (j + 1) else S w j)
theorem drO_0 (S : Sx) (w q k : Nat) (h : k ≤ q + 1) : drO S w q k = S := by
  funext c j
  by_cases h2 : c = w
  · simp only [drO, sr, h2, ↓reduceIte]
    rw [if_neg (by omega)]
  · simp only [drO, sr, if_neg h2]
theorem drO_s (S : Sx) (w q k : Nat) (h : q < k) : su (drO S w q k) w (k - 1) (S w k) = drO S w q (k + 1) := by
  funext c j
  simp only [drO, sr, su]
  by_cases h2 : c = w
  · simp only [h2, ↓reduceIte]
    by_cases e : j = k - 1
    · rw [if_pos e, if_pos (by omega), e, show k - 1 + 1 = k by omega]
    · rw [if_neg e]
      by_cases e2 : q ≤ j ∧ j + 1 < k
      · rw [if_pos e2, if_pos (by omega)]
      · rw [if_neg e2, if_neg (by omega)]
  · simp only [if_neg h2]
theorem drO_ne {S : Sx} {w q k c : Nat} (h : c ≠ w) : drO S w q k c = S c := by simp [drO, sr, h]
theorem drO_ge {S : Sx} {w q k j : Nat} (h : k ≤ j + 1) : drO S w q k w j = S w j := by
  simp only [drO, sr, ↓reduceIte]
  rw [if_neg (by omega)]
theorem su_id {S : Sx} {c k : Nat} : su S c k (S c k) = S := by
  funext a b
  simp only [su]
  split
  · next h => split
              · next h2 => rw [h, h2]
              · rfl
  · rfl
theorem Ro_drop {S : Sx} {r y w cap n q : Nat} {Y : Nat → Int} (hR : RoR S r y w cap (n + 1) Y) (n1 : r ≠ y) (n2 : r ≠ w) (n3 : y ≠ w) (hq : q < n + 1) (eq : S w q = (n : Int)) :
    RoR (su (drO S w q (n + 1)) r 2 (n : Int)) r y w cap n Y ∧ (∀ c, c ≠ r → c ≠ w → (su (drO S w q (n + 1)) r 2 (n : Int)) c = S c) := by
  obtain ⟨g1, g2, g3, g4, g5⟩ := hR
  refine ⟨⟨?_, by omega, ?_, fun j hj => g4 j (by omega), ?_⟩, ?_⟩
  · rw [su_at]
  · intro j hj
    rw [su_ne _ (Ne.symm n1), drO_ne n3]; exact g3 j (by omega)
  · refine Ord_del g5 hq eq ?_ ?_
    · intro j hj
      rw [su_ne _ (Ne.symm n2)]
      simp only [drO, sr, ↓reduceIte]
      rw [if_neg (by omega)]
    · intro j h5 h6
      rw [su_ne _ (Ne.symm n2)]
      simp only [drO, sr, ↓reduceIte]
      rw [if_pos (by omega)]
  · intro c c1 c2
    rw [su_ne _ c1, drO_ne c2]

theorem c_rmP (l : Launch) (Γ : Ev) (d : Nat) (S : Sx) : Ctr l Γ d mX7_howMany [rf Γ 6] S (pP S (S 6 2)) := by
  refine Ctr.of (by decide) rfl rfl (Nat.le_of_ble_eq_true rfl) ?_
  intro κ hl hk hr
  subst hl
  refine G_rload_n hk dX7_howMany_0 rfl ?_
  refine G_getI hk dX7_howMany_1 flX7_24 (by decide) rfl rfl ?_
  exact G_iret hk hr dX7_howMany_4 ⟨rfl, rfl⟩

theorem c_rfP (l : Launch) (Γ : Ev) (d : Nat) (S : Sx) (h : 0 ≤ S 6 2 ∧ S 6 2 ≤ 12) : Ctr l Γ d mX7_isFull [rf Γ 6] S (pP S (bz (12 ≤ S 6 2))) := by
  refine Ctr.of (by decide) rfl rfl (Nat.le_of_ble_eq_true rfl) ?_
  intro κ hl hk hr
  subst hl
  refine G_rload_n hk dX7_isFull_0 rfl ?_
  refine G_getI hk dX7_isFull_1 flX7_24 (by decide) rfl rfl ?_
  refine G_rload_n hk dX7_isFull_4 rfl ?_
  refine G_getR hk dX7_isFull_5 flX7_15 (by decide) rfl rfl ?_
  refine G_alen hk dX7_isFull_8 (by decide) rfl ?_
  refine G_icmp_lt (tgt := 16) hk dX7_isFull_9 (by decide) ⟨by omega, by omega⟩ ⟨by omega, by omega⟩ (fun h_9 => ?_) (fun h_9 => ?_)
  · refine G_iconst hk dX7_isFull_16 ?_
    exact G_zret hk hr dX7_isFull_17 (by decide) ⟨by simp only [bz]; split <;> first | rfl | (exfalso; omega), rfl⟩
  · refine G_iconst hk dX7_isFull_12 ?_
    refine G_goto (tgt := 17) hk dX7_isFull_13 (by decide) ?_
    exact G_zret hk hr dX7_isFull_17 (by decide) ⟨by simp only [bz]; split <;> first | rfl | (exfalso; omega), rfl⟩

theorem c_rnP (l : Launch) (Γ : Ev) (d : Nat) (S : Sx) (v : Int) (p n : Nat) (hv : v = p) (hm : S 6 2 = (n : Int)) (hp : p < n) (hn : n ≤ 12) : Ctr l Γ d mX7_numberAt [rf Γ 6, vI v] S (pP S (S 8 p)) := by
  refine Ctr.of (by decide) rfl rfl (Nat.le_of_ble_eq_true rfl) ?_
  intro κ hl hk hr
  subst hl
  refine G_iload_n hk dX7_numberAt_0 rfl ?_
  refine G_if_lt (tgt := 21) hk dX7_numberAt_1 (by decide) ⟨by omega, by omega⟩ (fun h_1 => ?_) (fun h_1 => ?_)
  · exact absurd h_1 (by omega)--stop
  · refine G_iload_n hk dX7_numberAt_4 rfl ?_
    refine G_rload_n hk dX7_numberAt_5 rfl ?_
    refine G_getI hk dX7_numberAt_6 flX7_24 (by decide) rfl rfl ?_
    refine G_icmp_ge (tgt := 21) hk dX7_numberAt_9 (by decide) ⟨by omega, by omega⟩ ⟨by omega, by omega⟩ (fun h_9 => ?_) (fun h_9 => ?_)
    · exact absurd h_9 (by omega)--stop
    · refine G_rload_n hk dX7_numberAt_12 rfl ?_
      refine G_getR hk dX7_numberAt_13 flX7_21 (by decide) rfl rfl ?_
      refine G_iload_n hk dX7_numberAt_16 rfl ?_
      refine G_iald hk dX7_numberAt_17 (by decide) rfl (by decide) (by omega) (by omega) ?_
      rw [show v.toNat = p by omega]
      refine G_goto (tgt := 22) hk dX7_numberAt_18 (by decide) ?_
      exact G_iret hk hr dX7_numberAt_22 ⟨rfl, rfl⟩

theorem c_ryP (l : Launch) (Γ : Ev) (d : Nat) (S : Sx) (v : Int) (p n x : Nat) (E : Int) (hv : v = p) (hm : S 6 2 = (n : Int)) (hp : p < n) (hn : n ≤ 12) (hx : S 8 p = (x : Int)) (hxc : x < 12) (hE : S 7 x = E) : Ctr l Γ d mX7_yearAt [rf Γ 6, vI v] S (pP S E) := by
  refine Ctr.of (by decide) rfl rfl (Nat.le_of_ble_eq_true rfl) ?_
  intro κ hl hk hr
  subst hl
  refine G_iload_n hk dX7_yearAt_0 rfl ?_
  refine G_if_lt (tgt := 26) hk dX7_yearAt_1 (by decide) ⟨by omega, by omega⟩ (fun h_1 => ?_) (fun h_1 => ?_)
  · exact absurd h_1 (by omega)--stop
  · refine G_iload_n hk dX7_yearAt_4 rfl ?_
    refine G_rload_n hk dX7_yearAt_5 rfl ?_
    refine G_getI hk dX7_yearAt_6 flX7_24 (by decide) rfl rfl ?_
    refine G_icmp_ge (tgt := 26) hk dX7_yearAt_9 (by decide) ⟨by omega, by omega⟩ ⟨by omega, by omega⟩ (fun h_9 => ?_) (fun h_9 => ?_)
    · exact absurd h_9 (by omega)--stop
    · refine G_rload_n hk dX7_yearAt_12 rfl ?_
      refine G_getR hk dX7_yearAt_13 flX7_15 (by decide) rfl rfl ?_
      refine G_rload_n hk dX7_yearAt_16 rfl ?_
      refine G_getR hk dX7_yearAt_17 flX7_21 (by decide) rfl rfl ?_
      refine G_iload_n hk dX7_yearAt_20 rfl ?_
      refine G_iald hk dX7_yearAt_21 (by decide) rfl (by decide) (by omega) (by omega) ?_
      rw [show v.toNat = p by omega, hx]
      refine G_iald hk dX7_yearAt_22 (by decide) rfl (by decide) (by omega) (by omega) ?_
      rw [show ((x : Int)).toNat = x from rfl, hE]
      refine G_goto (tgt := 27) hk dX7_yearAt_23 (by decide) ?_
      exact G_iret hk hr dX7_yearAt_27 ⟨rfl, rfl⟩

theorem Ro_lo {n p : Nat} {Y q : Nat → Int} {yr : Int} (h : Ord n Y q) (hp : p < n) (hy : Y (q p).toNat ≤ yr) : ∀ i, i < p + 1 → Y (q i).toNat ≤ yr := by
  intro i hi
  by_cases e : i = p
  · rw [e]; exact hy
  · have := h.2.2 i p (by omega) hp
    omega

theorem c_raP (l : Launch) (Γ : Ev) (d : Nat) (S : Sx) (n : Nat) (Y Y2 : Nat → Int) (hR : RoR S 6 7 8 12 n Y) (hn : n < 12) (yr : Int) (hyr : 0 ≤ yr ∧ yr ≤ 29) (h2 : ∀ j, j < n → Y2 j = Y j) (h2n : Y2 n = yr) : Ctr l Γ (d + 1) mX7_add [rf Γ 6, vI yr] S (pV (fun S2 => RoR S2 6 7 8 12 (n + 1) Y2 ∧ (∀ c, c ≠ 6 → c ≠ 7 → c ≠ 8 → S2 c = S c))) := by
  refine Ctr.of (by decide) rfl rfl (Nat.le_of_ble_eq_true rfl) ?_
  intro κ hl hk hr
  subst hl
  obtain ⟨g1, g2, g3, g4, g5⟩ := id hR
  refine G_rload_n hk dX7_add_0 rfl ?_
  refine G_cV0P hk dX7_add_1 mvX7_isFull mlX7_28 (by decide) rfl rfl (Nat.le_of_ble_eq_true rfl) (c_rfP _ Γ (d + 0) _ ⟨by omega, by omega⟩) ?_
  refine G_bif_eq (tgt := 8) hk dX7_add_4 (by decide) (fun h_4 => ?_) (fun h_4 => ?_)
  · refine G_rload_n hk dX7_add_8 rfl ?_
    refine G_getI hk dX7_add_9 flX7_24 (by decide) rfl rfl ?_
    rw [g1]
    refine G_istore_n hk dX7_add_12 (by decide) rfl ?_
    have lp : ∀ p, p ≤ n → (∀ i, p ≤ i → i < n → yr < Y (S 8 i).toNat) → GW κ Γ 13 [some (rf Γ 6), some (vI yr), some (vI (p : Int))] [] (wl Γ (shO S 8 p n)) := by
      intro p
      induction p with
      | zero =>
        intro hp hhi
        have hm2 : shO S 8 0 n 6 2 = (n : Int) := by rw [shO_ne (by decide)]; exact g1
        refine G_iload_n hk dX7_add_13 rfl ?_
        refine G_if_le (tgt := 48) hk dX7_add_14 (by decide) ⟨by omega, by omega⟩ (fun h_14 => ?_) (fun h_14 => ?_)
        · refine G_rload_n hk dX7_add_48 rfl ?_
          refine G_getR hk dX7_add_49 flX7_15 (by decide) rfl rfl ?_
          refine G_rload_n hk dX7_add_52 rfl ?_
          refine G_getI hk dX7_add_53 flX7_24 (by decide) rfl rfl ?_
          rw [hm2]
          refine G_iload_n hk dX7_add_56 rfl ?_
          refine G_iast hk dX7_add_57 (by decide) rfl (by decide) (by omega) (by omega) ?_
          refine G_rload_n hk dX7_add_58 rfl ?_
          refine G_getR hk dX7_add_59 flX7_21 (by decide) rfl rfl ?_
          refine G_iload_n hk dX7_add_62 rfl ?_
          refine G_rload_n hk dX7_add_63 rfl ?_
          refine G_getI hk dX7_add_64 flX7_24 (by decide) rfl rfl ?_
          try simp (decide := true) only [su_app, sr_app, ↓reduceIte]
          rw [hm2]
          refine G_iast hk dX7_add_67 (by decide) rfl (by decide) (by omega) (by omega) ?_
          refine G_rload_n hk dX7_add_68 rfl ?_
          refine G_dup hk dX7_add_69 rfl ?_
          refine G_getI hk dX7_add_70 flX7_24 (by decide) rfl rfl ?_
          try simp (decide := true) only [su_app, sr_app, ↓reduceIte]
          rw [hm2]
          refine G_iconst hk dX7_add_73 ?_
          refine G_iadd hk dX7_add_74 ?_
          refine G_putI hk dX7_add_75 flX7_24 fpX7_2 (by decide) rfl rfl ?_
          exact G_vret hk hr dX7_add_78 (Ro_add hR (by decide) (by decide) (by decide) hn hyr h2 h2n hp (fun i hi => absurd hi (by omega)) hhi)
        · exact absurd h_14 (by omega)--stop
      | succ p ih =>
        intro hp hhi
        have hm2 : shO S 8 (p + 1) n 6 2 = (n : Int) := by rw [shO_ne (by decide)]; exact g1
        have q1 := g5.1 p (by omega)
        have q2 := g4 (S 8 p).toNat (by omega)
        refine G_iload_n hk dX7_add_13 rfl ?_
        refine G_if_le (tgt := 48) hk dX7_add_14 (by decide) ⟨by omega, by omega⟩ (fun h_14 => ?_) (fun h_14 => ?_)
        · exact absurd h_14 (by omega)--stop
        · refine G_rload_n hk dX7_add_17 rfl ?_
          refine G_iload_n hk dX7_add_18 rfl ?_
          refine G_iconst hk dX7_add_19 ?_
          refine G_isub hk dX7_add_20 ?_
          refine G_cV1P hk dX7_add_21 mvX7_yearAt mlX7_32 (by decide) rfl rfl (Nat.le_of_ble_eq_true rfl) (c_ryP _ Γ (d + 0) _ _ p n (S 8 p).toNat (Y (S 8 p).toNat) (by omega) hm2 (by omega) (by omega) (by rw [shO_le (by omega)]; omega) (by omega) (by rw [shO_ne (by decide)]; exact g3 _ (by omega))) ?_
          refine G_iload_n hk dX7_add_24 rfl ?_
          refine G_icmp_le (tgt := 48) hk dX7_add_25 (by decide) ⟨by omega, by omega⟩ ⟨by omega, by omega⟩ (fun h_25 => ?_) (fun h_25 => ?_)
          · refine G_rload_n hk dX7_add_48 rfl ?_
            refine G_getR hk dX7_add_49 flX7_15 (by decide) rfl rfl ?_
            refine G_rload_n hk dX7_add_52 rfl ?_
            refine G_getI hk dX7_add_53 flX7_24 (by decide) rfl rfl ?_
            rw [hm2]
            refine G_iload_n hk dX7_add_56 rfl ?_
            refine G_iast hk dX7_add_57 (by decide) rfl (by decide) (by omega) (by omega) ?_
            refine G_rload_n hk dX7_add_58 rfl ?_
            refine G_getR hk dX7_add_59 flX7_21 (by decide) rfl rfl ?_
            refine G_iload_n hk dX7_add_62 rfl ?_
            refine G_rload_n hk dX7_add_63 rfl ?_
            refine G_getI hk dX7_add_64 flX7_24 (by decide) rfl rfl ?_
            try simp (decide := true) only [su_app, sr_app, ↓reduceIte]
            rw [hm2]
            refine G_iast hk dX7_add_67 (by decide) rfl (by decide) (by omega) (by omega) ?_
            refine G_rload_n hk dX7_add_68 rfl ?_
            refine G_dup hk dX7_add_69 rfl ?_
            refine G_getI hk dX7_add_70 flX7_24 (by decide) rfl rfl ?_
            try simp (decide := true) only [su_app, sr_app, ↓reduceIte]
            rw [hm2]
            refine G_iconst hk dX7_add_73 ?_
            refine G_iadd hk dX7_add_74 ?_
            refine G_putI hk dX7_add_75 flX7_24 fpX7_2 (by decide) rfl rfl ?_
            exact G_vret hk hr dX7_add_78 (Ro_add hR (by decide) (by decide) (by decide) hn hyr h2 h2n hp (Ro_lo g5 (by omega) h_25) hhi)
          · refine G_rload_n hk dX7_add_28 rfl ?_
            refine G_getR hk dX7_add_29 flX7_21 (by decide) rfl rfl ?_
            refine G_iload_n hk dX7_add_32 rfl ?_
            refine G_rload_n hk dX7_add_33 rfl ?_
            refine G_getR hk dX7_add_34 flX7_21 (by decide) rfl rfl ?_
            refine G_iload_n hk dX7_add_37 rfl ?_
            refine G_iconst hk dX7_add_38 ?_
            refine G_isub hk dX7_add_39 ?_
            refine G_iald hk dX7_add_40 (by decide) rfl (by decide) (by omega) (by omega) ?_
            rw [show (((p + 1 : Nat) : Int) - 1).toNat = p by omega, shO_le (by omega)]
            refine G_iast hk dX7_add_41 (by decide) rfl (by decide) (by omega) (by omega) ?_
            rw [show (((p + 1 : Nat) : Int)).toNat = p + 1 from rfl, shO_s _ _ _ _ hp]
            refine G_iinc hk dX7_add_42 rfl (by decide) rfl ?_
            rw [show ((p + 1 : Nat) : Int) + -1 = (p : Int) by omega]
            refine G_goto (tgt := 13) hk dX7_add_45 (by decide) ?_
            exact ih (by omega) (fun i h5 h6 => by
              by_cases e : i = p
              · rw [e]; omega
              · exact hhi i (by omega) h6)
    have l0 := lp n (Nat.le_refl n) (fun i h5 h6 => absurd h6 (by omega))
    rw [shO_0] at l0
    exact l0
  · exact absurd h_4 (by omega)--stop

theorem c_rcP (l : Launch) (Γ : Ev) (d : Nat) (S : Sx) : Ctr l Γ d mX7_clear [rf Γ 6] S (pV (fun S2 => S2 = su S 6 2 0)) := by
  refine Ctr.of (by decide) rfl rfl (Nat.le_of_ble_eq_true rfl) ?_
  intro κ hl hk hr
  subst hl
  refine G_rload_n hk dX7_clear_0 rfl ?_
  refine G_iconst hk dX7_clear_1 ?_
  refine G_putI hk dX7_clear_2 flX7_24 fpX7_2 (by decide) rfl rfl ?_
  exact G_vret hk hr dX7_clear_5 rfl

theorem c_rd0P (l : Launch) (Γ : Ev) (d : Nat) (S : Sx) (h : S 6 2 = 0) : Ctr l Γ d mX7_dropLast [rf Γ 6] S (pI (fun r S2 => r = 0 ∧ S2 = S)) := by
  refine Ctr.of (by decide) rfl rfl (Nat.le_of_ble_eq_true rfl) ?_
  intro κ hl hk hr
  subst hl
  refine G_rload_n hk dX7_dropLast_0 rfl ?_
  refine G_getI hk dX7_dropLast_1 flX7_24 (by decide) rfl rfl ?_
  refine G_if_ne (tgt := 9) hk dX7_dropLast_4 (by decide) ⟨by omega, by omega⟩ (fun h_4 => ?_) (fun h_4 => ?_)
  · exact absurd h_4 (by omega)--stop
  · refine G_iconst hk dX7_dropLast_7 ?_
    exact G_zret hk hr dX7_dropLast_8 (by decide) ⟨rfl, rfl⟩

theorem c_rd1P (l : Launch) (Γ : Ev) (d : Nat) (S : Sx) (n : Nat) (Y : Nat → Int) (hR : RoR S 6 7 8 12 (n + 1) Y) : Ctr l Γ d mX7_dropLast [rf Γ 6] S (pI (fun r S2 => r = 1 ∧ RoR S2 6 7 8 12 n Y ∧ (∀ c, c ≠ 6 → c ≠ 8 → S2 c = S c))) := by
  refine Ctr.of (by decide) rfl rfl (Nat.le_of_ble_eq_true rfl) ?_
  intro κ hl hk hr
  subst hl
  obtain ⟨g1, g2, g3, g4, g5⟩ := id hR
  obtain ⟨q, hq, eq⟩ := g5.2.1 n (by omega)
  refine G_rload_n hk dX7_dropLast_0 rfl ?_
  refine G_getI hk dX7_dropLast_1 flX7_24 (by decide) rfl rfl ?_
  refine G_if_ne (tgt := 9) hk dX7_dropLast_4 (by decide) ⟨by omega, by omega⟩ (fun h_4 => ?_) (fun h_4 => ?_)
  · refine G_rload_n hk dX7_dropLast_9 rfl ?_
    refine G_getI hk dX7_dropLast_10 flX7_24 (by decide) rfl rfl ?_
    rw [g1]
    refine G_iconst hk dX7_dropLast_13 ?_
    refine G_isub hk dX7_dropLast_14 ?_
    rw [show ((n + 1 : Nat) : Int) - 1 = (n : Int) by omega]
    refine G_istore_n hk dX7_dropLast_15 (by decide) rfl ?_
    refine G_iconst hk dX7_dropLast_16 ?_
    refine G_istore_n hk dX7_dropLast_17 (by decide) rfl ?_
    refine G_iconst hk dX7_dropLast_18 ?_
    refine G_istore_n hk dX7_dropLast_19 (by decide) rfl ?_
    have lp := loop_up (P := fun k => GW κ Γ 20 [some (rf Γ 6), some (vI (n : Int)), some (vI (if k ≤ q then (k : Int) else (k : Int) - 1)), some (vI (k : Int))] [] (wl Γ (drO S 8 q k))) (n + 1) ?_ ?_ 0 (Nat.zero_le _)
    · rw [drO_0 _ _ _ _ (by omega), if_pos (by omega)] at lp
      exact lp
    · have hm2 : drO S 8 q (n + 1) 6 2 = ((n + 1 : Nat) : Int) := by rw [drO_ne (by decide)]; exact g1
      refine G_iload_n hk dX7_dropLast_20 rfl ?_
      refine G_rload_n hk dX7_dropLast_21 rfl ?_
      refine G_getI hk dX7_dropLast_22 flX7_24 (by decide) rfl rfl ?_
      rw [hm2]
      refine G_icmp_ge (tgt := 59) hk dX7_dropLast_25 (by decide) ⟨by omega, by omega⟩ ⟨by omega, by omega⟩ (fun h_25 => ?_) (fun h_25 => ?_)
      · refine G_rload_n hk dX7_dropLast_59 rfl ?_
        refine G_iload_n hk dX7_dropLast_60 rfl ?_
        refine G_putI hk dX7_dropLast_61 flX7_24 fpX7_2 (by decide) rfl rfl ?_
        refine G_iconst hk dX7_dropLast_64 ?_
        exact G_zret hk hr dX7_dropLast_65 (by decide) ⟨rfl, Ro_drop hR (by decide) (by decide) (by decide) hq eq⟩
      · exact absurd h_25 (by omega)--stop
    · intro k hk9 ih
      have hm2 : drO S 8 q k 6 2 = ((n + 1 : Nat) : Int) := by rw [drO_ne (by decide)]; exact g1
      have q1 := g5.1 k (by omega)
      refine G_iload_n hk dX7_dropLast_20 rfl ?_
      refine G_rload_n hk dX7_dropLast_21 rfl ?_
      refine G_getI hk dX7_dropLast_22 flX7_24 (by decide) rfl rfl ?_
      rw [hm2]
      refine G_icmp_ge (tgt := 59) hk dX7_dropLast_25 (by decide) ⟨by omega, by omega⟩ ⟨by omega, by omega⟩ (fun h_25 => ?_) (fun h_25 => ?_)
      · exact absurd h_25 (by omega)--stop
      · refine G_rload_n hk dX7_dropLast_28 rfl ?_
        refine G_getR hk dX7_dropLast_29 flX7_21 (by decide) rfl rfl ?_
        refine G_iload_n hk dX7_dropLast_32 rfl ?_
        refine G_iald hk dX7_dropLast_33 (by decide) rfl (by decide) (by omega) (by omega) ?_
        rw [show ((k : Int)).toNat = k from rfl, drO_ge (by omega)]
        refine G_iload_n hk dX7_dropLast_34 rfl ?_
        refine G_icmp_eq (tgt := 53) hk dX7_dropLast_35 (by decide) ⟨by omega, by omega⟩ ⟨by omega, by omega⟩ (fun h_35 => ?_) (fun h_35 => ?_)
        · have e : k = q := Ord_inj g5 (by omega) hq (by omega)
          rw [if_neg (by omega), drO_0 _ _ _ _ (by omega)] at ih
          rw [if_pos (by omega), drO_0 _ _ _ _ (by omega)]
          refine G_iinc hk dX7_dropLast_53 rfl (by decide) rfl ?_
          refine G_goto (tgt := 20) hk dX7_dropLast_56 (by decide) ?_
          refine GW_L ?_ ih
          rw [show ((k + 1 : Nat) : Int) - 1 = (k : Int) by omega, show ((k + 1 : Nat) : Int) = (k : Int) + 1 by omega]
          rfl
        · have e : k ≠ q := fun e => h_35 (by rw [e]; exact eq)
          refine G_rload_n hk dX7_dropLast_38 rfl ?_
          refine G_getR hk dX7_dropLast_39 flX7_21 (by decide) rfl rfl ?_
          refine G_iload_n hk dX7_dropLast_42 rfl ?_
          refine G_rload_n hk dX7_dropLast_43 rfl ?_
          refine G_getR hk dX7_dropLast_44 flX7_21 (by decide) rfl rfl ?_
          refine G_iload_n hk dX7_dropLast_47 rfl ?_
          refine G_iald hk dX7_dropLast_48 (by decide) rfl (by decide) (by omega) (by omega) ?_
          rw [show ((k : Int)).toNat = k from rfl, drO_ge (by omega)]
          refine G_iast hk dX7_dropLast_49 (by decide) rfl (by decide) (by split <;> omega) (by split <;> omega) ?_
          refine G_iinc hk dX7_dropLast_50 rfl (by decide) rfl ?_
          refine G_iinc hk dX7_dropLast_53 rfl (by decide) rfl ?_
          refine G_goto (tgt := 20) hk dX7_dropLast_56 (by decide) ?_
          by_cases c : k ≤ q
          · rw [if_pos (by omega)] at ih
            simp only [if_pos c]
            rw [show ((k : Int)).toNat = k from rfl, drO_0 _ _ _ _ (by omega), su_id]
            rw [drO_0 _ _ _ _ (by omega)] at ih
            exact ih
          · rw [if_neg (by omega), show ((k + 1 : Nat) : Int) - 1 = (k : Int) by omega] at ih
            simp only [if_neg c]
            rw [show ((k : Int) - 1).toNat = k - 1 by omega, drO_s _ _ _ _ (by omega), show (k : Int) - 1 + 1 = (k : Int) by omega]
            exact ih
  · exact absurd h_4 (by omega)--stop

theorem c_rmB (l : Launch) (Γ : Ev) (d : Nat) (S : Sx) : Ctr l Γ d mX7_howMany [rf Γ 13] S (pP S (S 13 2)) := by
  refine Ctr.of (by decide) rfl rfl (Nat.le_of_ble_eq_true rfl) ?_
  intro κ hl hk hr
  subst hl
  refine G_rload_n hk dX7_howMany_0 rfl ?_
  refine G_getI hk dX7_howMany_1 flX7_24 (by decide) rfl rfl ?_
  exact G_iret hk hr dX7_howMany_4 ⟨rfl, rfl⟩

theorem c_rfB (l : Launch) (Γ : Ev) (d : Nat) (S : Sx) (h : 0 ≤ S 13 2 ∧ S 13 2 ≤ 12) : Ctr l Γ d mX7_isFull [rf Γ 13] S (pP S (bz (12 ≤ S 13 2))) := by
  refine Ctr.of (by decide) rfl rfl (Nat.le_of_ble_eq_true rfl) ?_
  intro κ hl hk hr
  subst hl
  refine G_rload_n hk dX7_isFull_0 rfl ?_
  refine G_getI hk dX7_isFull_1 flX7_24 (by decide) rfl rfl ?_
  refine G_rload_n hk dX7_isFull_4 rfl ?_
  refine G_getR hk dX7_isFull_5 flX7_15 (by decide) rfl rfl ?_
  refine G_alen hk dX7_isFull_8 (by decide) rfl ?_
  refine G_icmp_lt (tgt := 16) hk dX7_isFull_9 (by decide) ⟨by omega, by omega⟩ ⟨by omega, by omega⟩ (fun h_9 => ?_) (fun h_9 => ?_)
  · refine G_iconst hk dX7_isFull_16 ?_
    exact G_zret hk hr dX7_isFull_17 (by decide) ⟨by simp only [bz]; split <;> first | rfl | (exfalso; omega), rfl⟩
  · refine G_iconst hk dX7_isFull_12 ?_
    refine G_goto (tgt := 17) hk dX7_isFull_13 (by decide) ?_
    exact G_zret hk hr dX7_isFull_17 (by decide) ⟨by simp only [bz]; split <;> first | rfl | (exfalso; omega), rfl⟩

theorem c_rnB (l : Launch) (Γ : Ev) (d : Nat) (S : Sx) (v : Int) (p n : Nat) (hv : v = p) (hm : S 13 2 = (n : Int)) (hp : p < n) (hn : n ≤ 12) : Ctr l Γ d mX7_numberAt [rf Γ 13, vI v] S (pP S (S 15 p)) := by
  refine Ctr.of (by decide) rfl rfl (Nat.le_of_ble_eq_true rfl) ?_
  intro κ hl hk hr
  subst hl
  refine G_iload_n hk dX7_numberAt_0 rfl ?_
  refine G_if_lt (tgt := 21) hk dX7_numberAt_1 (by decide) ⟨by omega, by omega⟩ (fun h_1 => ?_) (fun h_1 => ?_)
  · exact absurd h_1 (by omega)--stop
  · refine G_iload_n hk dX7_numberAt_4 rfl ?_
    refine G_rload_n hk dX7_numberAt_5 rfl ?_
    refine G_getI hk dX7_numberAt_6 flX7_24 (by decide) rfl rfl ?_
    refine G_icmp_ge (tgt := 21) hk dX7_numberAt_9 (by decide) ⟨by omega, by omega⟩ ⟨by omega, by omega⟩ (fun h_9 => ?_) (fun h_9 => ?_)
    · exact absurd h_9 (by omega)--stop
    · refine G_rload_n hk dX7_numberAt_12 rfl ?_
      refine G_getR hk dX7_numberAt_13 flX7_21 (by decide) rfl rfl ?_
      refine G_iload_n hk dX7_numberAt_16 rfl ?_
      refine G_iald hk dX7_numberAt_17 (by decide) rfl (by decide) (by omega) (by omega) ?_
      rw [show v.toNat = p by omega]
      refine G_goto (tgt := 22) hk dX7_numberAt_18 (by decide) ?_
      exact G_iret hk hr dX7_numberAt_22 ⟨rfl, rfl⟩

theorem c_ryB (l : Launch) (Γ : Ev) (d : Nat) (S : Sx) (v : Int) (p n x : Nat) (E : Int) (hv : v = p) (hm : S 13 2 = (n : Int)) (hp : p < n) (hn : n ≤ 12) (hx : S 15 p = (x : Int)) (hxc : x < 12) (hE : S 14 x = E) : Ctr l Γ d mX7_yearAt [rf Γ 13, vI v] S (pP S E) := by
  refine Ctr.of (by decide) rfl rfl (Nat.le_of_ble_eq_true rfl) ?_
  intro κ hl hk hr
  subst hl
  refine G_iload_n hk dX7_yearAt_0 rfl ?_
  refine G_if_lt (tgt := 26) hk dX7_yearAt_1 (by decide) ⟨by omega, by omega⟩ (fun h_1 => ?_) (fun h_1 => ?_)
  · exact absurd h_1 (by omega)--stop
  · refine G_iload_n hk dX7_yearAt_4 rfl ?_
    refine G_rload_n hk dX7_yearAt_5 rfl ?_
    refine G_getI hk dX7_yearAt_6 flX7_24 (by decide) rfl rfl ?_
    refine G_icmp_ge (tgt := 26) hk dX7_yearAt_9 (by decide) ⟨by omega, by omega⟩ ⟨by omega, by omega⟩ (fun h_9 => ?_) (fun h_9 => ?_)
    · exact absurd h_9 (by omega)--stop
    · refine G_rload_n hk dX7_yearAt_12 rfl ?_
      refine G_getR hk dX7_yearAt_13 flX7_15 (by decide) rfl rfl ?_
      refine G_rload_n hk dX7_yearAt_16 rfl ?_
      refine G_getR hk dX7_yearAt_17 flX7_21 (by decide) rfl rfl ?_
      refine G_iload_n hk dX7_yearAt_20 rfl ?_
      refine G_iald hk dX7_yearAt_21 (by decide) rfl (by decide) (by omega) (by omega) ?_
      rw [show v.toNat = p by omega, hx]
      refine G_iald hk dX7_yearAt_22 (by decide) rfl (by decide) (by omega) (by omega) ?_
      rw [show ((x : Int)).toNat = x from rfl, hE]
      refine G_goto (tgt := 27) hk dX7_yearAt_23 (by decide) ?_
      exact G_iret hk hr dX7_yearAt_27 ⟨rfl, rfl⟩

theorem c_raB (l : Launch) (Γ : Ev) (d : Nat) (S : Sx) (n : Nat) (Y Y2 : Nat → Int) (hR : RoR S 13 14 15 12 n Y) (hn : n < 12) (yr : Int) (hyr : 0 ≤ yr ∧ yr ≤ 29) (h2 : ∀ j, j < n → Y2 j = Y j) (h2n : Y2 n = yr) : Ctr l Γ (d + 1) mX7_add [rf Γ 13, vI yr] S (pV (fun S2 => RoR S2 13 14 15 12 (n + 1) Y2 ∧ (∀ c, c ≠ 13 → c ≠ 14 → c ≠ 15 → S2 c = S c))) := by
  refine Ctr.of (by decide) rfl rfl (Nat.le_of_ble_eq_true rfl) ?_
  intro κ hl hk hr
  subst hl
  obtain ⟨g1, g2, g3, g4, g5⟩ := id hR
  refine G_rload_n hk dX7_add_0 rfl ?_
  refine G_cV0P hk dX7_add_1 mvX7_isFull mlX7_28 (by decide) rfl rfl (Nat.le_of_ble_eq_true rfl) (c_rfB _ Γ (d + 0) _ ⟨by omega, by omega⟩) ?_
  refine G_bif_eq (tgt := 8) hk dX7_add_4 (by decide) (fun h_4 => ?_) (fun h_4 => ?_)
  · refine G_rload_n hk dX7_add_8 rfl ?_
    refine G_getI hk dX7_add_9 flX7_24 (by decide) rfl rfl ?_
    rw [g1]
    refine G_istore_n hk dX7_add_12 (by decide) rfl ?_
    have lp : ∀ p, p ≤ n → (∀ i, p ≤ i → i < n → yr < Y (S 15 i).toNat) → GW κ Γ 13 [some (rf Γ 13), some (vI yr), some (vI (p : Int))] [] (wl Γ (shO S 15 p n)) := by
      intro p
      induction p with
      | zero =>
        intro hp hhi
        have hm2 : shO S 15 0 n 13 2 = (n : Int) := by rw [shO_ne (by decide)]; exact g1
        refine G_iload_n hk dX7_add_13 rfl ?_
        refine G_if_le (tgt := 48) hk dX7_add_14 (by decide) ⟨by omega, by omega⟩ (fun h_14 => ?_) (fun h_14 => ?_)
        · refine G_rload_n hk dX7_add_48 rfl ?_
          refine G_getR hk dX7_add_49 flX7_15 (by decide) rfl rfl ?_
          refine G_rload_n hk dX7_add_52 rfl ?_
          refine G_getI hk dX7_add_53 flX7_24 (by decide) rfl rfl ?_
          rw [hm2]
          refine G_iload_n hk dX7_add_56 rfl ?_
          refine G_iast hk dX7_add_57 (by decide) rfl (by decide) (by omega) (by omega) ?_
          refine G_rload_n hk dX7_add_58 rfl ?_
          refine G_getR hk dX7_add_59 flX7_21 (by decide) rfl rfl ?_
          refine G_iload_n hk dX7_add_62 rfl ?_
          refine G_rload_n hk dX7_add_63 rfl ?_
          refine G_getI hk dX7_add_64 flX7_24 (by decide) rfl rfl ?_
          try simp (decide := true) only [su_app, sr_app, ↓reduceIte]
          rw [hm2]
          refine G_iast hk dX7_add_67 (by decide) rfl (by decide) (by omega) (by omega) ?_
          refine G_rload_n hk dX7_add_68 rfl ?_
          refine G_dup hk dX7_add_69 rfl ?_
          refine G_getI hk dX7_add_70 flX7_24 (by decide) rfl rfl ?_
          try simp (decide := true) only [su_app, sr_app, ↓reduceIte]
          rw [hm2]
          refine G_iconst hk dX7_add_73 ?_
          refine G_iadd hk dX7_add_74 ?_
          refine G_putI hk dX7_add_75 flX7_24 fpX7_2 (by decide) rfl rfl ?_
          exact G_vret hk hr dX7_add_78 (Ro_add hR (by decide) (by decide) (by decide) hn hyr h2 h2n hp (fun i hi => absurd hi (by omega)) hhi)
        · exact absurd h_14 (by omega)--stop
      | succ p ih =>
        intro hp hhi
        have hm2 : shO S 15 (p + 1) n 13 2 = (n : Int) := by rw [shO_ne (by decide)]; exact g1
        have q1 := g5.1 p (by omega)
        have q2 := g4 (S 15 p).toNat (by omega)
        refine G_iload_n hk dX7_add_13 rfl ?_
        refine G_if_le (tgt := 48) hk dX7_add_14 (by decide) ⟨by omega, by omega⟩ (fun h_14 => ?_) (fun h_14 => ?_)
        · exact absurd h_14 (by omega)--stop
        · refine G_rload_n hk dX7_add_17 rfl ?_
          refine G_iload_n hk dX7_add_18 rfl ?_
          refine G_iconst hk dX7_add_19 ?_
          refine G_isub hk dX7_add_20 ?_
          refine G_cV1P hk dX7_add_21 mvX7_yearAt mlX7_32 (by decide) rfl rfl (Nat.le_of_ble_eq_true rfl) (c_ryB _ Γ (d + 0) _ _ p n (S 15 p).toNat (Y (S 15 p).toNat) (by omega) hm2 (by omega) (by omega) (by rw [shO_le (by omega)]; omega) (by omega) (by rw [shO_ne (by decide)]; exact g3 _ (by omega))) ?_
          refine G_iload_n hk dX7_add_24 rfl ?_
          refine G_icmp_le (tgt := 48) hk dX7_add_25 (by decide) ⟨by omega, by omega⟩ ⟨by omega, by omega⟩ (fun h_25 => ?_) (fun h_25 => ?_)
          · refine G_rload_n hk dX7_add_48 rfl ?_
            refine G_getR hk dX7_add_49 flX7_15 (by decide) rfl rfl ?_
            refine G_rload_n hk dX7_add_52 rfl ?_
            refine G_getI hk dX7_add_53 flX7_24 (by decide) rfl rfl ?_
            rw [hm2]
            refine G_iload_n hk dX7_add_56 rfl ?_
            refine G_iast hk dX7_add_57 (by decide) rfl (by decide) (by omega) (by omega) ?_
            refine G_rload_n hk dX7_add_58 rfl ?_
            refine G_getR hk dX7_add_59 flX7_21 (by decide) rfl rfl ?_
            refine G_iload_n hk dX7_add_62 rfl ?_
            refine G_rload_n hk dX7_add_63 rfl ?_
            refine G_getI hk dX7_add_64 flX7_24 (by decide) rfl rfl ?_
            try simp (decide := true) only [su_app, sr_app, ↓reduceIte]
            rw [hm2]
            refine G_iast hk dX7_add_67 (by decide) rfl (by decide) (by omega) (by omega) ?_
            refine G_rload_n hk dX7_add_68 rfl ?_
            refine G_dup hk dX7_add_69 rfl ?_
            refine G_getI hk dX7_add_70 flX7_24 (by decide) rfl rfl ?_
            try simp (decide := true) only [su_app, sr_app, ↓reduceIte]
            rw [hm2]
            refine G_iconst hk dX7_add_73 ?_
            refine G_iadd hk dX7_add_74 ?_
            refine G_putI hk dX7_add_75 flX7_24 fpX7_2 (by decide) rfl rfl ?_
            exact G_vret hk hr dX7_add_78 (Ro_add hR (by decide) (by decide) (by decide) hn hyr h2 h2n hp (Ro_lo g5 (by omega) h_25) hhi)
          · refine G_rload_n hk dX7_add_28 rfl ?_
            refine G_getR hk dX7_add_29 flX7_21 (by decide) rfl rfl ?_
            refine G_iload_n hk dX7_add_32 rfl ?_
            refine G_rload_n hk dX7_add_33 rfl ?_
            refine G_getR hk dX7_add_34 flX7_21 (by decide) rfl rfl ?_
            refine G_iload_n hk dX7_add_37 rfl ?_
            refine G_iconst hk dX7_add_38 ?_
            refine G_isub hk dX7_add_39 ?_
            refine G_iald hk dX7_add_40 (by decide) rfl (by decide) (by omega) (by omega) ?_
            rw [show (((p + 1 : Nat) : Int) - 1).toNat = p by omega, shO_le (by omega)]
            refine G_iast hk dX7_add_41 (by decide) rfl (by decide) (by omega) (by omega) ?_
            rw [show (((p + 1 : Nat) : Int)).toNat = p + 1 from rfl, shO_s _ _ _ _ hp]
            refine G_iinc hk dX7_add_42 rfl (by decide) rfl ?_
            rw [show ((p + 1 : Nat) : Int) + -1 = (p : Int) by omega]
            refine G_goto (tgt := 13) hk dX7_add_45 (by decide) ?_
            exact ih (by omega) (fun i h5 h6 => by
              by_cases e : i = p
              · rw [e]; omega
              · exact hhi i (by omega) h6)
    have l0 := lp n (Nat.le_refl n) (fun i h5 h6 => absurd h6 (by omega))
    rw [shO_0] at l0
    exact l0
  · exact absurd h_4 (by omega)--stop

theorem c_rcB (l : Launch) (Γ : Ev) (d : Nat) (S : Sx) : Ctr l Γ d mX7_clear [rf Γ 13] S (pV (fun S2 => S2 = su S 13 2 0)) := by
  refine Ctr.of (by decide) rfl rfl (Nat.le_of_ble_eq_true rfl) ?_
  intro κ hl hk hr
  subst hl
  refine G_rload_n hk dX7_clear_0 rfl ?_
  refine G_iconst hk dX7_clear_1 ?_
  refine G_putI hk dX7_clear_2 flX7_24 fpX7_2 (by decide) rfl rfl ?_
  exact G_vret hk hr dX7_clear_5 rfl

theorem c_rd0B (l : Launch) (Γ : Ev) (d : Nat) (S : Sx) (h : S 13 2 = 0) : Ctr l Γ d mX7_dropLast [rf Γ 13] S (pI (fun r S2 => r = 0 ∧ S2 = S)) := by
  refine Ctr.of (by decide) rfl rfl (Nat.le_of_ble_eq_true rfl) ?_
  intro κ hl hk hr
  subst hl
  refine G_rload_n hk dX7_dropLast_0 rfl ?_
  refine G_getI hk dX7_dropLast_1 flX7_24 (by decide) rfl rfl ?_
  refine G_if_ne (tgt := 9) hk dX7_dropLast_4 (by decide) ⟨by omega, by omega⟩ (fun h_4 => ?_) (fun h_4 => ?_)
  · exact absurd h_4 (by omega)--stop
  · refine G_iconst hk dX7_dropLast_7 ?_
    exact G_zret hk hr dX7_dropLast_8 (by decide) ⟨rfl, rfl⟩

theorem c_rd1B (l : Launch) (Γ : Ev) (d : Nat) (S : Sx) (n : Nat) (Y : Nat → Int) (hR : RoR S 13 14 15 12 (n + 1) Y) : Ctr l Γ d mX7_dropLast [rf Γ 13] S (pI (fun r S2 => r = 1 ∧ RoR S2 13 14 15 12 n Y ∧ (∀ c, c ≠ 13 → c ≠ 15 → S2 c = S c))) := by
  refine Ctr.of (by decide) rfl rfl (Nat.le_of_ble_eq_true rfl) ?_
  intro κ hl hk hr
  subst hl
  obtain ⟨g1, g2, g3, g4, g5⟩ := id hR
  obtain ⟨q, hq, eq⟩ := g5.2.1 n (by omega)
  refine G_rload_n hk dX7_dropLast_0 rfl ?_
  refine G_getI hk dX7_dropLast_1 flX7_24 (by decide) rfl rfl ?_
  refine G_if_ne (tgt := 9) hk dX7_dropLast_4 (by decide) ⟨by omega, by omega⟩ (fun h_4 => ?_) (fun h_4 => ?_)
  · refine G_rload_n hk dX7_dropLast_9 rfl ?_
    refine G_getI hk dX7_dropLast_10 flX7_24 (by decide) rfl rfl ?_
    rw [g1]
    refine G_iconst hk dX7_dropLast_13 ?_
    refine G_isub hk dX7_dropLast_14 ?_
    rw [show ((n + 1 : Nat) : Int) - 1 = (n : Int) by omega]
    refine G_istore_n hk dX7_dropLast_15 (by decide) rfl ?_
    refine G_iconst hk dX7_dropLast_16 ?_
    refine G_istore_n hk dX7_dropLast_17 (by decide) rfl ?_
    refine G_iconst hk dX7_dropLast_18 ?_
    refine G_istore_n hk dX7_dropLast_19 (by decide) rfl ?_
    have lp := loop_up (P := fun k => GW κ Γ 20 [some (rf Γ 13), some (vI (n : Int)), some (vI (if k ≤ q then (k : Int) else (k : Int) - 1)), some (vI (k : Int))] [] (wl Γ (drO S 15 q k))) (n + 1) ?_ ?_ 0 (Nat.zero_le _)
    · rw [drO_0 _ _ _ _ (by omega), if_pos (by omega)] at lp
      exact lp
    · have hm2 : drO S 15 q (n + 1) 13 2 = ((n + 1 : Nat) : Int) := by rw [drO_ne (by decide)]; exact g1
      refine G_iload_n hk dX7_dropLast_20 rfl ?_
      refine G_rload_n hk dX7_dropLast_21 rfl ?_
      refine G_getI hk dX7_dropLast_22 flX7_24 (by decide) rfl rfl ?_
      rw [hm2]
      refine G_icmp_ge (tgt := 59) hk dX7_dropLast_25 (by decide) ⟨by omega, by omega⟩ ⟨by omega, by omega⟩ (fun h_25 => ?_) (fun h_25 => ?_)
      · refine G_rload_n hk dX7_dropLast_59 rfl ?_
        refine G_iload_n hk dX7_dropLast_60 rfl ?_
        refine G_putI hk dX7_dropLast_61 flX7_24 fpX7_2 (by decide) rfl rfl ?_
        refine G_iconst hk dX7_dropLast_64 ?_
        exact G_zret hk hr dX7_dropLast_65 (by decide) ⟨rfl, Ro_drop hR (by decide) (by decide) (by decide) hq eq⟩
      · exact absurd h_25 (by omega)--stop
    · intro k hk9 ih
      have hm2 : drO S 15 q k 13 2 = ((n + 1 : Nat) : Int) := by rw [drO_ne (by decide)]; exact g1
      have q1 := g5.1 k (by omega)
      refine G_iload_n hk dX7_dropLast_20 rfl ?_
      refine G_rload_n hk dX7_dropLast_21 rfl ?_
      refine G_getI hk dX7_dropLast_22 flX7_24 (by decide) rfl rfl ?_
      rw [hm2]
      refine G_icmp_ge (tgt := 59) hk dX7_dropLast_25 (by decide) ⟨by omega, by omega⟩ ⟨by omega, by omega⟩ (fun h_25 => ?_) (fun h_25 => ?_)
      · exact absurd h_25 (by omega)--stop
      · refine G_rload_n hk dX7_dropLast_28 rfl ?_
        refine G_getR hk dX7_dropLast_29 flX7_21 (by decide) rfl rfl ?_
        refine G_iload_n hk dX7_dropLast_32 rfl ?_
        refine G_iald hk dX7_dropLast_33 (by decide) rfl (by decide) (by omega) (by omega) ?_
        rw [show ((k : Int)).toNat = k from rfl, drO_ge (by omega)]
        refine G_iload_n hk dX7_dropLast_34 rfl ?_
        refine G_icmp_eq (tgt := 53) hk dX7_dropLast_35 (by decide) ⟨by omega, by omega⟩ ⟨by omega, by omega⟩ (fun h_35 => ?_) (fun h_35 => ?_)
        · have e : k = q := Ord_inj g5 (by omega) hq (by omega)
          rw [if_neg (by omega), drO_0 _ _ _ _ (by omega)] at ih
          rw [if_pos (by omega), drO_0 _ _ _ _ (by omega)]
          refine G_iinc hk dX7_dropLast_53 rfl (by decide) rfl ?_
          refine G_goto (tgt := 20) hk dX7_dropLast_56 (by decide) ?_
          refine GW_L ?_ ih
          rw [show ((k + 1 : Nat) : Int) - 1 = (k : Int) by omega, show ((k + 1 : Nat) : Int) = (k : Int) + 1 by omega]
          rfl
        · have e : k ≠ q := fun e => h_35 (by rw [e]; exact eq)
          refine G_rload_n hk dX7_dropLast_38 rfl ?_
          refine G_getR hk dX7_dropLast_39 flX7_21 (by decide) rfl rfl ?_
          refine G_iload_n hk dX7_dropLast_42 rfl ?_
          refine G_rload_n hk dX7_dropLast_43 rfl ?_
          refine G_getR hk dX7_dropLast_44 flX7_21 (by decide) rfl rfl ?_
          refine G_iload_n hk dX7_dropLast_47 rfl ?_
          refine G_iald hk dX7_dropLast_48 (by decide) rfl (by decide) (by omega) (by omega) ?_
          rw [show ((k : Int)).toNat = k from rfl, drO_ge (by omega)]
          refine G_iast hk dX7_dropLast_49 (by decide) rfl (by decide) (by split <;> omega) (by split <;> omega) ?_
          refine G_iinc hk dX7_dropLast_50 rfl (by decide) rfl ?_
          refine G_iinc hk dX7_dropLast_53 rfl (by decide) rfl ?_
          refine G_goto (tgt := 20) hk dX7_dropLast_56 (by decide) ?_
          by_cases c : k ≤ q
          · rw [if_pos (by omega)] at ih
            simp only [if_pos c]
            rw [show ((k : Int)).toNat = k from rfl, drO_0 _ _ _ _ (by omega), su_id]
            rw [drO_0 _ _ _ _ (by omega)] at ih
            exact ih
          · rw [if_neg (by omega), show ((k + 1 : Nat) : Int) - 1 = (k : Int) by omega] at ih
            simp only [if_neg c]
            rw [show ((k : Int) - 1).toNat = k - 1 by omega, drO_s _ _ _ _ (by omega), show (k : Int) - 1 + 1 = (k : Int) by omega]
            exact ih
  · exact absurd h_4 (by omega)--stop

theorem c_rmW (l : Launch) (Γ : Ev) (d : Nat) (S : Sx) : Ctr l Γ d mX7_howMany [rf Γ 28] S (pP S (S 28 2)) := by
  refine Ctr.of (by decide) rfl rfl (Nat.le_of_ble_eq_true rfl) ?_
  intro κ hl hk hr
  subst hl
  refine G_rload_n hk dX7_howMany_0 rfl ?_
  refine G_getI hk dX7_howMany_1 flX7_24 (by decide) rfl rfl ?_
  exact G_iret hk hr dX7_howMany_4 ⟨rfl, rfl⟩

theorem c_rfW (l : Launch) (Γ : Ev) (d : Nat) (S : Sx) (h : 0 ≤ S 28 2 ∧ S 28 2 ≤ 8) : Ctr l Γ d mX7_isFull [rf Γ 28] S (pP S (bz (8 ≤ S 28 2))) := by
  refine Ctr.of (by decide) rfl rfl (Nat.le_of_ble_eq_true rfl) ?_
  intro κ hl hk hr
  subst hl
  refine G_rload_n hk dX7_isFull_0 rfl ?_
  refine G_getI hk dX7_isFull_1 flX7_24 (by decide) rfl rfl ?_
  refine G_rload_n hk dX7_isFull_4 rfl ?_
  refine G_getR hk dX7_isFull_5 flX7_15 (by decide) rfl rfl ?_
  refine G_alen hk dX7_isFull_8 (by decide) rfl ?_
  refine G_icmp_lt (tgt := 16) hk dX7_isFull_9 (by decide) ⟨by omega, by omega⟩ ⟨by omega, by omega⟩ (fun h_9 => ?_) (fun h_9 => ?_)
  · refine G_iconst hk dX7_isFull_16 ?_
    exact G_zret hk hr dX7_isFull_17 (by decide) ⟨by simp only [bz]; split <;> first | rfl | (exfalso; omega), rfl⟩
  · refine G_iconst hk dX7_isFull_12 ?_
    refine G_goto (tgt := 17) hk dX7_isFull_13 (by decide) ?_
    exact G_zret hk hr dX7_isFull_17 (by decide) ⟨by simp only [bz]; split <;> first | rfl | (exfalso; omega), rfl⟩

theorem c_rnW (l : Launch) (Γ : Ev) (d : Nat) (S : Sx) (v : Int) (p n : Nat) (hv : v = p) (hm : S 28 2 = (n : Int)) (hp : p < n) (hn : n ≤ 8) : Ctr l Γ d mX7_numberAt [rf Γ 28, vI v] S (pP S (S 30 p)) := by
  refine Ctr.of (by decide) rfl rfl (Nat.le_of_ble_eq_true rfl) ?_
  intro κ hl hk hr
  subst hl
  refine G_iload_n hk dX7_numberAt_0 rfl ?_
  refine G_if_lt (tgt := 21) hk dX7_numberAt_1 (by decide) ⟨by omega, by omega⟩ (fun h_1 => ?_) (fun h_1 => ?_)
  · exact absurd h_1 (by omega)--stop
  · refine G_iload_n hk dX7_numberAt_4 rfl ?_
    refine G_rload_n hk dX7_numberAt_5 rfl ?_
    refine G_getI hk dX7_numberAt_6 flX7_24 (by decide) rfl rfl ?_
    refine G_icmp_ge (tgt := 21) hk dX7_numberAt_9 (by decide) ⟨by omega, by omega⟩ ⟨by omega, by omega⟩ (fun h_9 => ?_) (fun h_9 => ?_)
    · exact absurd h_9 (by omega)--stop
    · refine G_rload_n hk dX7_numberAt_12 rfl ?_
      refine G_getR hk dX7_numberAt_13 flX7_21 (by decide) rfl rfl ?_
      refine G_iload_n hk dX7_numberAt_16 rfl ?_
      refine G_iald hk dX7_numberAt_17 (by decide) rfl (by decide) (by omega) (by omega) ?_
      rw [show v.toNat = p by omega]
      refine G_goto (tgt := 22) hk dX7_numberAt_18 (by decide) ?_
      exact G_iret hk hr dX7_numberAt_22 ⟨rfl, rfl⟩

theorem c_ryW (l : Launch) (Γ : Ev) (d : Nat) (S : Sx) (v : Int) (p n x : Nat) (E : Int) (hv : v = p) (hm : S 28 2 = (n : Int)) (hp : p < n) (hn : n ≤ 8) (hx : S 30 p = (x : Int)) (hxc : x < 8) (hE : S 29 x = E) : Ctr l Γ d mX7_yearAt [rf Γ 28, vI v] S (pP S E) := by
  refine Ctr.of (by decide) rfl rfl (Nat.le_of_ble_eq_true rfl) ?_
  intro κ hl hk hr
  subst hl
  refine G_iload_n hk dX7_yearAt_0 rfl ?_
  refine G_if_lt (tgt := 26) hk dX7_yearAt_1 (by decide) ⟨by omega, by omega⟩ (fun h_1 => ?_) (fun h_1 => ?_)
  · exact absurd h_1 (by omega)--stop
  · refine G_iload_n hk dX7_yearAt_4 rfl ?_
    refine G_rload_n hk dX7_yearAt_5 rfl ?_
    refine G_getI hk dX7_yearAt_6 flX7_24 (by decide) rfl rfl ?_
    refine G_icmp_ge (tgt := 26) hk dX7_yearAt_9 (by decide) ⟨by omega, by omega⟩ ⟨by omega, by omega⟩ (fun h_9 => ?_) (fun h_9 => ?_)
    · exact absurd h_9 (by omega)--stop
    · refine G_rload_n hk dX7_yearAt_12 rfl ?_
      refine G_getR hk dX7_yearAt_13 flX7_15 (by decide) rfl rfl ?_
      refine G_rload_n hk dX7_yearAt_16 rfl ?_
      refine G_getR hk dX7_yearAt_17 flX7_21 (by decide) rfl rfl ?_
      refine G_iload_n hk dX7_yearAt_20 rfl ?_
      refine G_iald hk dX7_yearAt_21 (by decide) rfl (by decide) (by omega) (by omega) ?_
      rw [show v.toNat = p by omega, hx]
      refine G_iald hk dX7_yearAt_22 (by decide) rfl (by decide) (by omega) (by omega) ?_
      rw [show ((x : Int)).toNat = x from rfl, hE]
      refine G_goto (tgt := 27) hk dX7_yearAt_23 (by decide) ?_
      exact G_iret hk hr dX7_yearAt_27 ⟨rfl, rfl⟩

theorem c_raW (l : Launch) (Γ : Ev) (d : Nat) (S : Sx) (n : Nat) (Y Y2 : Nat → Int) (hR : RoR S 28 29 30 8 n Y) (hn : n < 8) (yr : Int) (hyr : 0 ≤ yr ∧ yr ≤ 29) (h2 : ∀ j, j < n → Y2 j = Y j) (h2n : Y2 n = yr) : Ctr l Γ (d + 1) mX7_add [rf Γ 28, vI yr] S (pV (fun S2 => RoR S2 28 29 30 8 (n + 1) Y2 ∧ (∀ c, c ≠ 28 → c ≠ 29 → c ≠ 30 → S2 c = S c))) := by
  refine Ctr.of (by decide) rfl rfl (Nat.le_of_ble_eq_true rfl) ?_
  intro κ hl hk hr
  subst hl
  obtain ⟨g1, g2, g3, g4, g5⟩ := id hR
  refine G_rload_n hk dX7_add_0 rfl ?_
  refine G_cV0P hk dX7_add_1 mvX7_isFull mlX7_28 (by decide) rfl rfl (Nat.le_of_ble_eq_true rfl) (c_rfW _ Γ (d + 0) _ ⟨by omega, by omega⟩) ?_
  refine G_bif_eq (tgt := 8) hk dX7_add_4 (by decide) (fun h_4 => ?_) (fun h_4 => ?_)
  · refine G_rload_n hk dX7_add_8 rfl ?_
    refine G_getI hk dX7_add_9 flX7_24 (by decide) rfl rfl ?_
    rw [g1]
    refine G_istore_n hk dX7_add_12 (by decide) rfl ?_
    have lp : ∀ p, p ≤ n → (∀ i, p ≤ i → i < n → yr < Y (S 30 i).toNat) → GW κ Γ 13 [some (rf Γ 28), some (vI yr), some (vI (p : Int))] [] (wl Γ (shO S 30 p n)) := by
      intro p
      induction p with
      | zero =>
        intro hp hhi
        have hm2 : shO S 30 0 n 28 2 = (n : Int) := by rw [shO_ne (by decide)]; exact g1
        refine G_iload_n hk dX7_add_13 rfl ?_
        refine G_if_le (tgt := 48) hk dX7_add_14 (by decide) ⟨by omega, by omega⟩ (fun h_14 => ?_) (fun h_14 => ?_)
        · refine G_rload_n hk dX7_add_48 rfl ?_
          refine G_getR hk dX7_add_49 flX7_15 (by decide) rfl rfl ?_
          refine G_rload_n hk dX7_add_52 rfl ?_
          refine G_getI hk dX7_add_53 flX7_24 (by decide) rfl rfl ?_
          rw [hm2]
          refine G_iload_n hk dX7_add_56 rfl ?_
          refine G_iast hk dX7_add_57 (by decide) rfl (by decide) (by omega) (by omega) ?_
          refine G_rload_n hk dX7_add_58 rfl ?_
          refine G_getR hk dX7_add_59 flX7_21 (by decide) rfl rfl ?_
          refine G_iload_n hk dX7_add_62 rfl ?_
          refine G_rload_n hk dX7_add_63 rfl ?_
          refine G_getI hk dX7_add_64 flX7_24 (by decide) rfl rfl ?_
          try simp (decide := true) only [su_app, sr_app, ↓reduceIte]
          rw [hm2]
          refine G_iast hk dX7_add_67 (by decide) rfl (by decide) (by omega) (by omega) ?_
          refine G_rload_n hk dX7_add_68 rfl ?_
          refine G_dup hk dX7_add_69 rfl ?_
          refine G_getI hk dX7_add_70 flX7_24 (by decide) rfl rfl ?_
          try simp (decide := true) only [su_app, sr_app, ↓reduceIte]
          rw [hm2]
          refine G_iconst hk dX7_add_73 ?_
          refine G_iadd hk dX7_add_74 ?_
          refine G_putI hk dX7_add_75 flX7_24 fpX7_2 (by decide) rfl rfl ?_
          exact G_vret hk hr dX7_add_78 (Ro_add hR (by decide) (by decide) (by decide) hn hyr h2 h2n hp (fun i hi => absurd hi (by omega)) hhi)
        · exact absurd h_14 (by omega)--stop
      | succ p ih =>
        intro hp hhi
        have hm2 : shO S 30 (p + 1) n 28 2 = (n : Int) := by rw [shO_ne (by decide)]; exact g1
        have q1 := g5.1 p (by omega)
        have q2 := g4 (S 30 p).toNat (by omega)
        refine G_iload_n hk dX7_add_13 rfl ?_
        refine G_if_le (tgt := 48) hk dX7_add_14 (by decide) ⟨by omega, by omega⟩ (fun h_14 => ?_) (fun h_14 => ?_)
        · exact absurd h_14 (by omega)--stop
        · refine G_rload_n hk dX7_add_17 rfl ?_
          refine G_iload_n hk dX7_add_18 rfl ?_
          refine G_iconst hk dX7_add_19 ?_
          refine G_isub hk dX7_add_20 ?_
          refine G_cV1P hk dX7_add_21 mvX7_yearAt mlX7_32 (by decide) rfl rfl (Nat.le_of_ble_eq_true rfl) (c_ryW _ Γ (d + 0) _ _ p n (S 30 p).toNat (Y (S 30 p).toNat) (by omega) hm2 (by omega) (by omega) (by rw [shO_le (by omega)]; omega) (by omega) (by rw [shO_ne (by decide)]; exact g3 _ (by omega))) ?_
          refine G_iload_n hk dX7_add_24 rfl ?_
          refine G_icmp_le (tgt := 48) hk dX7_add_25 (by decide) ⟨by omega, by omega⟩ ⟨by omega, by omega⟩ (fun h_25 => ?_) (fun h_25 => ?_)
          · refine G_rload_n hk dX7_add_48 rfl ?_
            refine G_getR hk dX7_add_49 flX7_15 (by decide) rfl rfl ?_
            refine G_rload_n hk dX7_add_52 rfl ?_
            refine G_getI hk dX7_add_53 flX7_24 (by decide) rfl rfl ?_
            rw [hm2]
            refine G_iload_n hk dX7_add_56 rfl ?_
            refine G_iast hk dX7_add_57 (by decide) rfl (by decide) (by omega) (by omega) ?_
            refine G_rload_n hk dX7_add_58 rfl ?_
            refine G_getR hk dX7_add_59 flX7_21 (by decide) rfl rfl ?_
            refine G_iload_n hk dX7_add_62 rfl ?_
            refine G_rload_n hk dX7_add_63 rfl ?_
            refine G_getI hk dX7_add_64 flX7_24 (by decide) rfl rfl ?_
            try simp (decide := true) only [su_app, sr_app, ↓reduceIte]
            rw [hm2]
            refine G_iast hk dX7_add_67 (by decide) rfl (by decide) (by omega) (by omega) ?_
            refine G_rload_n hk dX7_add_68 rfl ?_
            refine G_dup hk dX7_add_69 rfl ?_
            refine G_getI hk dX7_add_70 flX7_24 (by decide) rfl rfl ?_
            try simp (decide := true) only [su_app, sr_app, ↓reduceIte]
            rw [hm2]
            refine G_iconst hk dX7_add_73 ?_
            refine G_iadd hk dX7_add_74 ?_
            refine G_putI hk dX7_add_75 flX7_24 fpX7_2 (by decide) rfl rfl ?_
            exact G_vret hk hr dX7_add_78 (Ro_add hR (by decide) (by decide) (by decide) hn hyr h2 h2n hp (Ro_lo g5 (by omega) h_25) hhi)
          · refine G_rload_n hk dX7_add_28 rfl ?_
            refine G_getR hk dX7_add_29 flX7_21 (by decide) rfl rfl ?_
            refine G_iload_n hk dX7_add_32 rfl ?_
            refine G_rload_n hk dX7_add_33 rfl ?_
            refine G_getR hk dX7_add_34 flX7_21 (by decide) rfl rfl ?_
            refine G_iload_n hk dX7_add_37 rfl ?_
            refine G_iconst hk dX7_add_38 ?_
            refine G_isub hk dX7_add_39 ?_
            refine G_iald hk dX7_add_40 (by decide) rfl (by decide) (by omega) (by omega) ?_
            rw [show (((p + 1 : Nat) : Int) - 1).toNat = p by omega, shO_le (by omega)]
            refine G_iast hk dX7_add_41 (by decide) rfl (by decide) (by omega) (by omega) ?_
            rw [show (((p + 1 : Nat) : Int)).toNat = p + 1 from rfl, shO_s _ _ _ _ hp]
            refine G_iinc hk dX7_add_42 rfl (by decide) rfl ?_
            rw [show ((p + 1 : Nat) : Int) + -1 = (p : Int) by omega]
            refine G_goto (tgt := 13) hk dX7_add_45 (by decide) ?_
            exact ih (by omega) (fun i h5 h6 => by
              by_cases e : i = p
              · rw [e]; omega
              · exact hhi i (by omega) h6)
    have l0 := lp n (Nat.le_refl n) (fun i h5 h6 => absurd h6 (by omega))
    rw [shO_0] at l0
    exact l0
  · exact absurd h_4 (by omega)--stop

theorem c_rcW (l : Launch) (Γ : Ev) (d : Nat) (S : Sx) : Ctr l Γ d mX7_clear [rf Γ 28] S (pV (fun S2 => S2 = su S 28 2 0)) := by
  refine Ctr.of (by decide) rfl rfl (Nat.le_of_ble_eq_true rfl) ?_
  intro κ hl hk hr
  subst hl
  refine G_rload_n hk dX7_clear_0 rfl ?_
  refine G_iconst hk dX7_clear_1 ?_
  refine G_putI hk dX7_clear_2 flX7_24 fpX7_2 (by decide) rfl rfl ?_
  exact G_vret hk hr dX7_clear_5 rfl

theorem c_rd0W (l : Launch) (Γ : Ev) (d : Nat) (S : Sx) (h : S 28 2 = 0) : Ctr l Γ d mX7_dropLast [rf Γ 28] S (pI (fun r S2 => r = 0 ∧ S2 = S)) := by
  refine Ctr.of (by decide) rfl rfl (Nat.le_of_ble_eq_true rfl) ?_
  intro κ hl hk hr
  subst hl
  refine G_rload_n hk dX7_dropLast_0 rfl ?_
  refine G_getI hk dX7_dropLast_1 flX7_24 (by decide) rfl rfl ?_
  refine G_if_ne (tgt := 9) hk dX7_dropLast_4 (by decide) ⟨by omega, by omega⟩ (fun h_4 => ?_) (fun h_4 => ?_)
  · exact absurd h_4 (by omega)--stop
  · refine G_iconst hk dX7_dropLast_7 ?_
    exact G_zret hk hr dX7_dropLast_8 (by decide) ⟨rfl, rfl⟩

theorem c_rd1W (l : Launch) (Γ : Ev) (d : Nat) (S : Sx) (n : Nat) (Y : Nat → Int) (hR : RoR S 28 29 30 8 (n + 1) Y) : Ctr l Γ d mX7_dropLast [rf Γ 28] S (pI (fun r S2 => r = 1 ∧ RoR S2 28 29 30 8 n Y ∧ (∀ c, c ≠ 28 → c ≠ 30 → S2 c = S c))) := by
  refine Ctr.of (by decide) rfl rfl (Nat.le_of_ble_eq_true rfl) ?_
  intro κ hl hk hr
  subst hl
  obtain ⟨g1, g2, g3, g4, g5⟩ := id hR
  obtain ⟨q, hq, eq⟩ := g5.2.1 n (by omega)
  refine G_rload_n hk dX7_dropLast_0 rfl ?_
  refine G_getI hk dX7_dropLast_1 flX7_24 (by decide) rfl rfl ?_
  refine G_if_ne (tgt := 9) hk dX7_dropLast_4 (by decide) ⟨by omega, by omega⟩ (fun h_4 => ?_) (fun h_4 => ?_)
  · refine G_rload_n hk dX7_dropLast_9 rfl ?_
    refine G_getI hk dX7_dropLast_10 flX7_24 (by decide) rfl rfl ?_
    rw [g1]
    refine G_iconst hk dX7_dropLast_13 ?_
    refine G_isub hk dX7_dropLast_14 ?_
    rw [show ((n + 1 : Nat) : Int) - 1 = (n : Int) by omega]
    refine G_istore_n hk dX7_dropLast_15 (by decide) rfl ?_
    refine G_iconst hk dX7_dropLast_16 ?_
    refine G_istore_n hk dX7_dropLast_17 (by decide) rfl ?_
    refine G_iconst hk dX7_dropLast_18 ?_
    refine G_istore_n hk dX7_dropLast_19 (by decide) rfl ?_
    have lp := loop_up (P := fun k => GW κ Γ 20 [some (rf Γ 28), some (vI (n : Int)), some (vI (if k ≤ q then (k : Int) else (k : Int) - 1)), some (vI (k : Int))] [] (wl Γ (drO S 30 q k))) (n + 1) ?_ ?_ 0 (Nat.zero_le _)
    · rw [drO_0 _ _ _ _ (by omega), if_pos (by omega)] at lp
      exact lp
    · have hm2 : drO S 30 q (n + 1) 28 2 = ((n + 1 : Nat) : Int) := by rw [drO_ne (by decide)]; exact g1
      refine G_iload_n hk dX7_dropLast_20 rfl ?_
      refine G_rload_n hk dX7_dropLast_21 rfl ?_
      refine G_getI hk dX7_dropLast_22 flX7_24 (by decide) rfl rfl ?_
      rw [hm2]
      refine G_icmp_ge (tgt := 59) hk dX7_dropLast_25 (by decide) ⟨by omega, by omega⟩ ⟨by omega, by omega⟩ (fun h_25 => ?_) (fun h_25 => ?_)
      · refine G_rload_n hk dX7_dropLast_59 rfl ?_
        refine G_iload_n hk dX7_dropLast_60 rfl ?_
        refine G_putI hk dX7_dropLast_61 flX7_24 fpX7_2 (by decide) rfl rfl ?_
        refine G_iconst hk dX7_dropLast_64 ?_
        exact G_zret hk hr dX7_dropLast_65 (by decide) ⟨rfl, Ro_drop hR (by decide) (by decide) (by decide) hq eq⟩
      · exact absurd h_25 (by omega)--stop
    · intro k hk9 ih
      have hm2 : drO S 30 q k 28 2 = ((n + 1 : Nat) : Int) := by rw [drO_ne (by decide)]; exact g1
      have q1 := g5.1 k (by omega)
      refine G_iload_n hk dX7_dropLast_20 rfl ?_
      refine G_rload_n hk dX7_dropLast_21 rfl ?_
      refine G_getI hk dX7_dropLast_22 flX7_24 (by decide) rfl rfl ?_
      rw [hm2]
      refine G_icmp_ge (tgt := 59) hk dX7_dropLast_25 (by decide) ⟨by omega, by omega⟩ ⟨by omega, by omega⟩ (fun h_25 => ?_) (fun h_25 => ?_)
      · exact absurd h_25 (by omega)--stop
      · refine G_rload_n hk dX7_dropLast_28 rfl ?_
        refine G_getR hk dX7_dropLast_29 flX7_21 (by decide) rfl rfl ?_
        refine G_iload_n hk dX7_dropLast_32 rfl ?_
        refine G_iald hk dX7_dropLast_33 (by decide) rfl (by decide) (by omega) (by omega) ?_
        rw [show ((k : Int)).toNat = k from rfl, drO_ge (by omega)]
        refine G_iload_n hk dX7_dropLast_34 rfl ?_
        refine G_icmp_eq (tgt := 53) hk dX7_dropLast_35 (by decide) ⟨by omega, by omega⟩ ⟨by omega, by omega⟩ (fun h_35 => ?_) (fun h_35 => ?_)
        · have e : k = q := Ord_inj g5 (by omega) hq (by omega)
          rw [if_neg (by omega), drO_0 _ _ _ _ (by omega)] at ih
          rw [if_pos (by omega), drO_0 _ _ _ _ (by omega)]
          refine G_iinc hk dX7_dropLast_53 rfl (by decide) rfl ?_
          refine G_goto (tgt := 20) hk dX7_dropLast_56 (by decide) ?_
          refine GW_L ?_ ih
          rw [show ((k + 1 : Nat) : Int) - 1 = (k : Int) by omega, show ((k + 1 : Nat) : Int) = (k : Int) + 1 by omega]
          rfl
        · have e : k ≠ q := fun e => h_35 (by rw [e]; exact eq)
          refine G_rload_n hk dX7_dropLast_38 rfl ?_
          refine G_getR hk dX7_dropLast_39 flX7_21 (by decide) rfl rfl ?_
          refine G_iload_n hk dX7_dropLast_42 rfl ?_
          refine G_rload_n hk dX7_dropLast_43 rfl ?_
          refine G_getR hk dX7_dropLast_44 flX7_21 (by decide) rfl rfl ?_
          refine G_iload_n hk dX7_dropLast_47 rfl ?_
          refine G_iald hk dX7_dropLast_48 (by decide) rfl (by decide) (by omega) (by omega) ?_
          rw [show ((k : Int)).toNat = k from rfl, drO_ge (by omega)]
          refine G_iast hk dX7_dropLast_49 (by decide) rfl (by decide) (by split <;> omega) (by split <;> omega) ?_
          refine G_iinc hk dX7_dropLast_50 rfl (by decide) rfl ?_
          refine G_iinc hk dX7_dropLast_53 rfl (by decide) rfl ?_
          refine G_goto (tgt := 20) hk dX7_dropLast_56 (by decide) ?_
          by_cases c : k ≤ q
          · rw [if_pos (by omega)] at ih
            simp only [if_pos c]
            rw [show ((k : Int)).toNat = k from rfl, drO_0 _ _ _ _ (by omega), su_id]
            rw [drO_0 _ _ _ _ (by omega)] at ih
            exact ih
          · rw [if_neg (by omega), show ((k + 1 : Nat) : Int) - 1 = (k : Int) by omega] at ih
            simp only [if_neg c]
            rw [show ((k : Int) - 1).toNat = k - 1 by omega, drO_s _ _ _ _ (by omega), show (k : Int) - 1 + 1 = (k : Int) by omega]
            exact ih
  · exact absurd h_4 (by omega)--stop
