def tl (w l g : Int) : Nat → Int
  | 0 => w
  | k + 1 => lsr (tl w l g k - l + g) w
def tlc (w l g : Int) (k : Nat) : Bool := decide (tl w l g k - l ≤ 0)
def a_townOf (w l g : Int) : Int := if srch (tlc w l g) 100 < 100 then (srch (tlc w l g) 100 : Int) else -1
def a_town (w t g : Int) : Int := if ¬ (1 ≤ w ∧ w ≤ 999) then -2 else if ¬ (0 ≤ t ∧ t ≤ 999) then -2 else if ¬ (0 ≤ g ∧ g ≤ 99) then -2 else a_townOf w (t / 10) g
def lstF (c : Nat → Bool) : Nat → Nat
  | 0 => 0
  | n + 1 => if c n = true then n else lstF c n
def tlt (w g : Int) (t : Nat) : Bool := decide (a_townOf w ((t : Int) / 10) g = -1)
def a_tollOf (w g : Int) : Int := (lstF (tlt w g) 1000 : Int)
def a_toll (w g : Int) : Int := if ¬ (1 ≤ w ∧ w ≤ 999) then -2 else if ¬ (0 ≤ g ∧ g ≤ 99) then -2 else a_tollOf w g
theorem tl_bd {w l g : Int} (hw : 1 ≤ w) (hg : 0 ≤ g) : ∀ k, (∀ j, j < k → tlc w l g j = false) → 1 ≤ tl w l g k ∧ tl w l g k ≤ w
  | 0, _ => ⟨hw, Int.le_refl w⟩
  | k + 1, h => by
    have ih := tl_bd (l := l) hw hg k (fun j hj => h j (by omega))
    have h1 := h k (by omega)
    unfold tlc at h1
    simp only [decide_eq_false_iff_not] at h1
    simp only [tl, lsr]
    split <;> omega
theorem a_townOf_r (w l g : Int) : -1 ≤ a_townOf w l g ∧ a_townOf w l g ≤ 100 := by
  unfold a_townOf
  split <;> omega

theorem c_X11_townOf (l : Launch) (Γ : Ev) (d : Nat) (S : Sx) (w t g : Int) (hw : 1 ≤ w ∧ w ≤ 999) (ht : 0 ≤ t ∧ t ≤ 999) (hg : 0 ≤ g ∧ g ≤ 99) : Ctr l Γ (d + 1) mX11_townOf [vI w, vI t, vI g] S (pP S (a_townOf w (t / 10) g)) := by
  refine Ctr.of (by decide) rfl rfl (Nat.le_of_ble_eq_true rfl) ?_
  intro κ hl hk hr
  subst hl
  refine G_iload_n hk dX11_townOf_0 rfl ?_
  refine G_istore_n hk dX11_townOf_1 (by decide) rfl ?_
  refine G_iconst hk dX11_townOf_2 ?_
  refine G_istore hk dX11_townOf_3 (by decide) rfl ?_
  have lp := loop_up (P := fun k => (∀ j, j < k → tlc w (t / 10) g j = false) → GW κ Γ 5 [some (vI w), some (vI t), some (vI g), some (vI (tl w (t / 10) g k)), some (vI (k : Int))] [] (wl Γ S)) 100 ?_ ?_ 0 (Nat.zero_le _) (fun j hj => absurd hj (by omega))
  · exact lp
  · intro hn
    refine G_iload hk dX11_townOf_5 rfl ?_
    refine G_bipush hk dX11_townOf_7 (by decide) ?_
    refine G_icmp_ge (tgt := 40) hk dX11_townOf_9 (by decide) ⟨by omega, by omega⟩ ⟨by omega, by omega⟩ (fun h_9 => ?_) (fun h_9 => ?_)
    · refine G_iconst hk dX11_townOf_40 ?_
      exact G_iret hk hr dX11_townOf_41 ⟨by unfold a_townOf; rw [srch_none _ 100 hn]; rfl, rfl⟩
    · exact absurd h_9 (by omega)--stop
  · intro k hk9 ih hn
    have tb := tl_bd (l := t / 10) hw.1 hg.1 k hn
    refine G_iload hk dX11_townOf_5 rfl ?_
    refine G_bipush hk dX11_townOf_7 (by decide) ?_
    refine G_icmp_ge (tgt := 40) hk dX11_townOf_9 (by decide) ⟨by omega, by omega⟩ ⟨by omega, by omega⟩ (fun h_9 => ?_) (fun h_9 => ?_)
    · exact absurd h_9 (by omega)--stop
    · refine G_iload_n hk dX11_townOf_12 rfl ?_
      refine G_iload_n hk dX11_townOf_13 rfl ?_
      refine G_bipush hk dX11_townOf_14 (by decide) ?_
      refine G_idiv hk dX11_townOf_16 (by omega) (by omega) (by omega) (by omega) ?_
      refine G_isub hk dX11_townOf_17 ?_
      refine G_istore_n hk dX11_townOf_18 (by decide) rfl ?_
      refine G_iload_n hk dX11_townOf_19 rfl ?_
      refine G_if_gt (tgt := 26) hk dX11_townOf_20 (by decide) ⟨by omega, by omega⟩ (fun h_20 => ?_) (fun h_20 => ?_)
      · refine G_iload_n hk dX11_townOf_26 rfl ?_
        refine G_iload_n hk dX11_townOf_27 rfl ?_
        refine G_iadd hk dX11_townOf_28 ?_
        refine G_iload_n hk dX11_townOf_29 rfl ?_
        refine G_cS2P hk dX11_townOf_30 msX11_lesser mlX11_151 (Nat.le_of_ble_eq_true rfl) (c_X11_lesser _ Γ (d + 0) _ _ _ ⟨by omega, by omega⟩ ⟨by omega, by omega⟩) ?_
        refine G_istore_n hk dX11_townOf_33 (by decide) rfl ?_
        refine G_iinc hk dX11_townOf_34 rfl (by decide) rfl ?_
        refine G_goto (tgt := 5) hk dX11_townOf_37 (by decide) ?_
        refine ih (fun j hj => ?_)
        by_cases e : j = k
        · rw [e]; unfold tlc; simp only [decide_eq_false_iff_not]; omega
        · exact hn j (by omega)
      · refine G_iload hk dX11_townOf_23 rfl ?_
        exact G_iret hk hr dX11_townOf_25 ⟨by unfold a_townOf; rw [srch_at _ k hn (by unfold tlc; simp only [decide_eq_true_eq]; omega) 100 (by omega), if_pos (by omega)], rfl⟩

theorem c_X11_town (l : Launch) (Γ : Ev) (d : Nat) (S : Sx) (w t g : Int) (h_w : R32 w) (h_t : R32 t) (h_g : R32 g) : Ctr l Γ (d + 2) mX11_town [rf Γ 44, vI w, vI t, vI g] S (pP S (a_town w t g)) := by
  refine Ctr.of (by decide) rfl rfl (Nat.le_of_ble_eq_true rfl) ?_
  intro κ hl hk hr
  subst hl
  refine G_iload_n hk dX11_town_0 rfl ?_
  refine G_i2l hk dX11_town_1 ⟨by omega, by omega⟩ ?_
  refine G_lconst (z := 1) hk dX11_town_2 (by decide) ?_
  refine G_ldc2 (z := (999)) hk dX11_town_3 kcX11_282 (by decide) ?_
  refine G_cS3P hk dX11_town_6 msX11_in mlX11_64 (Nat.le_of_ble_eq_true rfl) (c_X11_in _ Γ (d + 1) _ _ _ _ ⟨by omega, by omega⟩ ⟨by omega, by omega⟩ ⟨by omega, by omega⟩) ?_
  refine G_bif_eq (tgt := 45) hk dX11_town_9 (by decide) (fun h_9 => ?_) (fun h_9 => ?_)
  · refine G_bipush hk dX11_town_45 (by decide) ?_
    exact G_iret hk hr dX11_town_47 ⟨by unfold a_town; (repeat' split) <;> first | (exfalso; omega) | rfl, rfl⟩
  · refine G_iload_n hk dX11_town_12 rfl ?_
    refine G_i2l hk dX11_town_13 ⟨by omega, by omega⟩ ?_
    refine G_lconst (z := 0) hk dX11_town_14 (by decide) ?_
    refine G_ldc2 (z := (999)) hk dX11_town_15 kcX11_282 (by decide) ?_
    refine G_cS3P hk dX11_town_18 msX11_in mlX11_64 (Nat.le_of_ble_eq_true rfl) (c_X11_in _ Γ (d + 1) _ _ _ _ ⟨by omega, by omega⟩ ⟨by omega, by omega⟩ ⟨by omega, by omega⟩) ?_
    refine G_bif_eq (tgt := 45) hk dX11_town_21 (by decide) (fun h_21 => ?_) (fun h_21 => ?_)
    · refine G_bipush hk dX11_town_45 (by decide) ?_
      exact G_iret hk hr dX11_town_47 ⟨by unfold a_town; (repeat' split) <;> first | (exfalso; omega) | rfl, rfl⟩
    · refine G_iload_n hk dX11_town_24 rfl ?_
      refine G_i2l hk dX11_town_25 ⟨by omega, by omega⟩ ?_
      refine G_lconst (z := 0) hk dX11_town_26 (by decide) ?_
      refine G_ldc2 (z := (99)) hk dX11_town_27 kcX11_147 (by decide) ?_
      refine G_cS3P hk dX11_town_30 msX11_in mlX11_64 (Nat.le_of_ble_eq_true rfl) (c_X11_in _ Γ (d + 1) _ _ _ _ ⟨by omega, by omega⟩ ⟨by omega, by omega⟩ ⟨by omega, by omega⟩) ?_
      refine G_bif_eq (tgt := 45) hk dX11_town_33 (by decide) (fun h_33 => ?_) (fun h_33 => ?_)
      · refine G_bipush hk dX11_town_45 (by decide) ?_
        exact G_iret hk hr dX11_town_47 ⟨by unfold a_town; (repeat' split) <;> first | (exfalso; omega) | rfl, rfl⟩
      · refine G_iload_n hk dX11_town_36 rfl ?_
        refine G_iload_n hk dX11_town_37 rfl ?_
        refine G_iload_n hk dX11_town_38 rfl ?_
        refine G_cS3P hk dX11_town_39 msX11_townOf mlX11_284 (Nat.le_of_ble_eq_true rfl) (c_X11_townOf _ Γ (d + 0) _ _ _ _ ⟨by omega, by omega⟩ ⟨by omega, by omega⟩ ⟨by omega, by omega⟩) ?_
        refine G_goto (tgt := 47) hk dX11_town_42 (by decide) ?_
        exact G_iret hk hr dX11_town_47 ⟨by unfold a_town; (repeat' split) <;> first | (exfalso; omega) | rfl, rfl⟩

theorem c_X11_tollOf (l : Launch) (Γ : Ev) (d : Nat) (S : Sx) (w g : Int) (hw : 1 ≤ w ∧ w ≤ 999) (hg : 0 ≤ g ∧ g ≤ 99) : Ctr l Γ (d + 2) mX11_tollOf [vI w, vI g] S (pP S (a_tollOf w g)) := by
  refine Ctr.of (by decide) rfl rfl (Nat.le_of_ble_eq_true rfl) ?_
  intro κ hl hk hr
  subst hl
  refine G_iconst hk dX11_tollOf_0 ?_
  refine G_istore_n hk dX11_tollOf_1 (by decide) rfl ?_
  refine G_iconst hk dX11_tollOf_2 ?_
  refine G_istore_n hk dX11_tollOf_3 (by decide) rfl ?_
  have lp := loop_up (P := fun k => 1 ≤ k → GW κ Γ 4 [some (vI w), some (vI g), some (vI (lstF (tlt w g) k)), some (vI (k : Int))] [] (wl Γ S)) 1000 ?_ ?_ 1 (by omega) (by omega)
  · have e0 : lstF (tlt w g) 1 = 0 := by
      show (if tlt w g 0 = true then 0 else lstF (tlt w g) 0) = 0
      split <;> rfl
    rw [e0] at lp
    exact lp
  · intro h1
    refine G_iload_n hk dX11_tollOf_4 rfl ?_
    refine G_sipush hk dX11_tollOf_5 (by decide) ?_
    refine G_icmp_ge (tgt := 33) hk dX11_tollOf_8 (by decide) ⟨by omega, by omega⟩ ⟨by omega, by omega⟩ (fun h_8 => ?_) (fun h_8 => ?_)
    · refine G_iload_n hk dX11_tollOf_33 rfl ?_
      exact G_iret hk hr dX11_tollOf_34 ⟨rfl, rfl⟩
    · exact absurd h_8 (by omega)--stop
  · intro k hk9 ih h1
    have tb := a_townOf_r w ((k : Int) / 10) g
    refine G_iload_n hk dX11_tollOf_4 rfl ?_
    refine G_sipush hk dX11_tollOf_5 (by decide) ?_
    refine G_icmp_ge (tgt := 33) hk dX11_tollOf_8 (by decide) ⟨by omega, by omega⟩ ⟨by omega, by omega⟩ (fun h_8 => ?_) (fun h_8 => ?_)
    · exact absurd h_8 (by omega)--stop
    · refine G_iload_n hk dX11_tollOf_11 rfl ?_
      refine G_iload_n hk dX11_tollOf_12 rfl ?_
      refine G_iload_n hk dX11_tollOf_13 rfl ?_
      refine G_cS3P hk dX11_tollOf_14 msX11_townOf mlX11_284 (Nat.le_of_ble_eq_true rfl) (c_X11_townOf _ Γ (d + 0) _ _ _ _ ⟨by omega, by omega⟩ ⟨by omega, by omega⟩ ⟨by omega, by omega⟩) ?_
      refine G_iconst hk dX11_tollOf_17 ?_
      refine G_icmp_ne (tgt := 25) hk dX11_tollOf_18 (by decide) ⟨by omega, by omega⟩ ⟨by omega, by omega⟩ (fun h_18 => ?_) (fun h_18 => ?_)
      · refine G_iload_n hk dX11_tollOf_25 rfl ?_
        refine G_istore_n hk dX11_tollOf_26 (by decide) rfl ?_
        refine G_iinc hk dX11_tollOf_27 rfl (by decide) rfl ?_
        refine G_goto (tgt := 4) hk dX11_tollOf_30 (by decide) ?_
        have h9 := ih (by omega)
        have e9 : lstF (tlt w g) (k + 1) = lstF (tlt w g) k := by
          simp only [lstF]
          rw [if_neg (by unfold tlt; simp only [decide_eq_true_eq]; exact h_18)]
        rw [e9] at h9
        exact h9
      · refine G_iload_n hk dX11_tollOf_21 rfl ?_
        refine G_goto (tgt := 26) hk dX11_tollOf_22 (by decide) ?_
        refine G_istore_n hk dX11_tollOf_26 (by decide) rfl ?_
        refine G_iinc hk dX11_tollOf_27 rfl (by decide) rfl ?_
        refine G_goto (tgt := 4) hk dX11_tollOf_30 (by decide) ?_
        have h9 := ih (by omega)
        have e9 : lstF (tlt w g) (k + 1) = k := by
          simp only [lstF]
          rw [if_pos (by unfold tlt; simp only [decide_eq_true_eq]; exact h_18)]
        rw [e9] at h9
        exact h9

theorem c_X11_toll (l : Launch) (Γ : Ev) (d : Nat) (S : Sx) (w g : Int) (h_w : R32 w) (h_g : R32 g) : Ctr l Γ (d + 3) mX11_toll [rf Γ 44, vI w, vI g] S (pP S (a_toll w g)) := by
  refine Ctr.of (by decide) rfl rfl (Nat.le_of_ble_eq_true rfl) ?_
  intro κ hl hk hr
  subst hl
  refine G_iload_n hk dX11_toll_0 rfl ?_
  refine G_i2l hk dX11_toll_1 ⟨by omega, by omega⟩ ?_
  refine G_lconst (z := 1) hk dX11_toll_2 (by decide) ?_
  refine G_ldc2 (z := (999)) hk dX11_toll_3 kcX11_282 (by decide) ?_
  refine G_cS3P hk dX11_toll_6 msX11_in mlX11_64 (Nat.le_of_ble_eq_true rfl) (c_X11_in _ Γ (d + 2) _ _ _ _ ⟨by omega, by omega⟩ ⟨by omega, by omega⟩ ⟨by omega, by omega⟩) ?_
  refine G_bif_eq (tgt := 32) hk dX11_toll_9 (by decide) (fun h_9 => ?_) (fun h_9 => ?_)
  · refine G_bipush hk dX11_toll_32 (by decide) ?_
    exact G_iret hk hr dX11_toll_34 ⟨by unfold a_toll; (repeat' split) <;> first | (exfalso; omega) | rfl, rfl⟩
  · refine G_iload_n hk dX11_toll_12 rfl ?_
    refine G_i2l hk dX11_toll_13 ⟨by omega, by omega⟩ ?_
    refine G_lconst (z := 0) hk dX11_toll_14 (by decide) ?_
    refine G_ldc2 (z := (99)) hk dX11_toll_15 kcX11_147 (by decide) ?_
    refine G_cS3P hk dX11_toll_18 msX11_in mlX11_64 (Nat.le_of_ble_eq_true rfl) (c_X11_in _ Γ (d + 2) _ _ _ _ ⟨by omega, by omega⟩ ⟨by omega, by omega⟩ ⟨by omega, by omega⟩) ?_
    refine G_bif_eq (tgt := 32) hk dX11_toll_21 (by decide) (fun h_21 => ?_) (fun h_21 => ?_)
    · refine G_bipush hk dX11_toll_32 (by decide) ?_
      exact G_iret hk hr dX11_toll_34 ⟨by unfold a_toll; (repeat' split) <;> first | (exfalso; omega) | rfl, rfl⟩
    · refine G_iload_n hk dX11_toll_24 rfl ?_
      refine G_iload_n hk dX11_toll_25 rfl ?_
      refine G_cS2P hk dX11_toll_26 msX11_tollOf mlX11_287 (Nat.le_of_ble_eq_true rfl) (c_X11_tollOf _ Γ (d + 0) _ _ _ ⟨by omega, by omega⟩ ⟨by omega, by omega⟩) ?_
      refine G_goto (tgt := 34) hk dX11_toll_29 (by decide) ?_
      exact G_iret hk hr dX11_toll_34 ⟨by unfold a_toll; (repeat' split) <;> first | (exfalso; omega) | rfl, rfl⟩

def allB (c : Nat → Bool) : Nat → Bool
  | 0 => true
  | n + 1 => allB c n && c n
theorem allB_iff (c : Nat → Bool) : ∀ n, allB c n = true ↔ ∀ j, j < n → c j = true
  | 0 => by simp [allB]
  | n + 1 => by
    simp only [allB, Bool.and_eq_true, allB_iff c n]
    constructor
    · rintro ⟨h1, h2⟩ j hj
      by_cases e : j = n
      · rw [e]; exact h2
      · exact h1 j (by omega)
    · intro h
      exact ⟨fun j hj => h j (by omega), h n (by omega)⟩
def okB (A : Av) (k z : Int) (y j : Nat) : Bool := decide (aV A (3 * j) = (y : Int) → (aV A (3 * j + 1) ≤ (aN A : Int) - 1 ∧ (lvs A k z (y + 1)).1 (aV A (3 * j + 1)).toNat = aV A (3 * j + 2)))
def a_isSeen (A : Av) (k z : Int) : Bool := allB (fun y => allB (okB A k z y) (ans A)) 30
def a_neverNow (A : Av) : Int := (bsm (fun k => a_isSeen A (k : Int) 0) (anp A) : Int)
def a_sizesOf (A : Av) (k : Int) : Int := (bsm (fun i => a_isSeen A k ((i : Int) + 1)) 9 : Int)
def a_sizes (A : Av) (k : Int) : Int := if ¬ (0 ≤ k ∧ k ≤ (anp A : Int) - 1) then -2 else a_sizesOf A k
theorem szf_os {A : Av} (hA : AvOk A) {ot os : Int} (ho : 0 ≤ os ∧ os ≤ 9) : ∀ k, k < anp A → 0 ≤ szf (aP A) ot os k ∧ szf (aP A) ot os k ≤ 9 := by
  intro k hk
  have h := (hA.2.2.2.1 k hk).2.2.1
  unfold szf
  split <;> omega
/-- the rows while a picture has another size -/
def frO (S S1 : Sx) (k z : Int) : Prop := (∀ c, c ≠ 44 → c ≠ 54 → c ≠ 55 → c ≠ 56 → S1 c = S c) ∧ (∀ i, i ≠ 22 → i ≠ 19 → i ≠ 20 → S1 44 i = S 44 i) ∧ S1 44 19 = k ∧ S1 44 20 = z
theorem frO_4 {S S1 S2 : Sx} {k z : Int} (h : frO S S1 k z) (f : fr4 S1 S2) : frO S S2 k z := ⟨fun c a b e g => by rw [f.1 c a b e g]; exact h.1 c a b e g, fun i a b e => by rw [f.2 i a]; exact h.2.1 i a b e, by rw [f.2 19 (by decide)]; exact h.2.2.1, by rw [f.2 20 (by decide)]; exact h.2.2.2⟩
theorem frO_sim {S S1 : Sx} {k z : Int} (hR : RdM S) (h : frO S S1 k z) (hk : R32 k) (hz : 0 ≤ z ∧ z ≤ 9) : SimC (aN (av S)) (anp (av S)) (anb (av S)) (aTw (av S)) S1 := by
  have h0 := rdm_sim hR
  have e : ∀ p : Int, tw11 S1 p = tw11 S p := fun p => by unfold tw11; rw [h.1 50 (by decide) (by decide) (by decide) (by decide), h.2.1 8 (by decide) (by decide) (by decide)]
  unfold SimC at h0 ⊢
  rw [h.2.1 8 (by decide) (by decide) (by decide), h.2.1 10 (by decide) (by decide) (by decide), h.2.1 12 (by decide) (by decide) (by decide), h.2.2.1, h.2.2.2, h.1 50 (by decide) (by decide) (by decide) (by decide), h.1 51 (by decide) (by decide) (by decide) (by decide), h.1 52 (by decide) (by decide) (by decide) (by decide)]
  simp only [e]
  exact ⟨h0.1, h0.2.1, h0.2.2.1, h0.2.2.2.1, h0.2.2.2.2.1, hk, hz⟩
theorem frO_mo {S S1 : Sx} {k z : Int} (hR : RdM S) (h : frO S S1 k z) : moS S1 = (k, z, -1, S 44 23, S 44 24, 0) := by
  have i4 := hR.1.2.2.2
  unfold moS
  rw [h.2.2.1, h.2.2.2, h.2.1 21 (by decide) (by decide) (by decide), h.2.1 23 (by decide) (by decide) (by decide), h.2.1 24 (by decide) (by decide) (by decide), h.2.1 25 (by decide) (by decide) (by decide), i4.2.2.1, i4.2.2.2.2]
theorem frO_en {S S1 : Sx} {k z : Int} (h : frO S S1 k z) : enS (aN (av S)) (anp (av S)) (anb (av S)) (aTw (av S)) S1 = aE (av S) := by
  unfold enS
  rw [h.1 51 (by decide) (by decide) (by decide) (by decide), h.1 52 (by decide) (by decide) (by decide) (by decide)]
  rfl
theorem c_goO {l : Launch} {Γ : Ev} {d : Nat} {S S1 : Sx} {k z : Int} {y : Nat} (hR : RdM S) (h : frO S S1 k z) (hk : R32 k) (hz : 0 ≤ z ∧ z ≤ 9) (hX : MSim (aN (av S)) (lvs (av S) k z y) S1) (hy : y ≤ 100) : Ctr l Γ (d + 5) mX11_goesOn [rf Γ 44, vI (y : Int)] S1 (pV (fun S2 => MSim (aN (av S)) (lvs (av S) k z (y + 1)) S2 ∧ frO S S2 k z)) := by
  have hB : SB (aN (av S)) (S1 51) (99 + 108 * (y : Int)) (lvs (av S) k z y) := by
    rw [h.1 51 (by decide) (by decide) (by decide) (by decide)]
    exact lv_bd hR.1.1 k z (szf_os hR.1.1 hz) y
  have i4 := hR.1.2.2.2
  have hM : MoOk (aN (av S)) (moS S1) := by
    rw [frO_mo hR h]
    exact ⟨by show R32 (-1); decide, i4.2.2.2.1, by show (0 : Int) ≤ 0 ∧ (0 : Int) ≤ 1000; decide, fun h => absurd h (by show ¬ (0 : Int) < 0; decide)⟩
  have h1 := c_X11_goesOn l Γ d S1 (y : Int) ⟨by omega, by omega⟩ (99 + 108 * (y : Int)) (frO_sim hR h hk hz) (lvs (av S) k z y, S1 44 22) hX rfl hB (by omega) hM
  refine Ctr_mono h1 ?_
  rintro v S2 ⟨rfl, g1, g2, g3⟩
  refine ⟨rfl, ?_, frO_4 h g3⟩
  rw [frO_en h, frO_mo hR h, goes_plain rfl rfl] at g1
  exact g1
theorem c_bgO {l : Launch} {Γ : Ev} {d : Nat} {S S1 : Sx} {k z : Int} (hR : RdM S) (h : frO S S1 k z) : Ctr l Γ d mX11_begins [rf Γ 44] S1 (pV (fun S2 => MSim (aN (av S)) (lvs (av S) k z 0) S2 ∧ frO S S2 k z)) := by
  have h1 := c_X11_begins l Γ d S1 (aN (av S)) (by rw [h.2.1 8 (by decide) (by decide) (by decide)]; exact hR.2.1) (aN_8 hR.1.1) (a0 (av S)) (fun p hp => by rw [h.1 50 (by decide) (by decide) (by decide) (by decide)]; exact (hR.2.2 p hp).1)
  refine Ctr_mono h1 ?_
  rintro v S2 ⟨rfl, g1, g2⟩
  exact ⟨rfl, g1, frO_4 h (fr4_3 g2)⟩

theorem c_X11_isSeen (l : Launch) (Γ : Ev) (d : Nat) (S : Sx) (hR : RdM S) (k z : Int) (h_k : R32 k) (hz : 0 ≤ z ∧ z ≤ 9) : Ctr l Γ (d + 6) mX11_isSeen [rf Γ 44, vI k, vI z] S (pI (fun r S2 => r = bz (a_isSeen (av S) k z = true) ∧ RdM S2 ∧ frP S S2)) := by
  refine Ctr.of (by decide) rfl rfl (Nat.le_of_ble_eq_true rfl) ?_
  intro κ hl hk hr
  subst hl
  have n8 := aN_8 hR.1.1
  have i2 := hR.1.2.1
  have i4 := hR.1.2.2.2
  have ns8 := hR.1.1.2.2.2.2.2.2.2.2.1
  refine G_rload_n hk dX11_isSeen_0 rfl ?_
  refine G_iload_n hk dX11_isSeen_1 rfl ?_
  refine G_putI hk dX11_isSeen_2 flX11_56 fpX11_19 (by decide) rfl rfl ?_
  refine G_rload_n hk dX11_isSeen_5 rfl ?_
  refine G_iload_n hk dX11_isSeen_6 rfl ?_
  refine G_putI hk dX11_isSeen_7 flX11_158 fpX11_20 (by decide) rfl rfl ?_
  refine G_rload_n hk dX11_isSeen_10 rfl ?_
  refine G_cV0V hk dX11_isSeen_11 mvX11_begins mlX11_186 (by decide) rfl rfl (Nat.le_of_ble_eq_true rfl) (c_bgO (k := k) (z := z) hR ⟨fun c a _ _ _ => by simp only [su_ne _ a], fun i a b e => by simp [su_app, b, e], by simp [su_app], by simp [su_app]⟩) (fun S_11 hp_11 => ?_)
  obtain ⟨hX1, hf1⟩ := hp_11
  refine G_iconst hk dX11_isSeen_14 ?_
  refine G_istore_n hk dX11_isSeen_15 (by decide) rfl ?_
  refine G_iconst hk dX11_isSeen_16 ?_
  refine G_istore hk dX11_isSeen_17 (by decide) rfl ?_
  have lp := loop_up (P := fun y => ∀ (S1 : Sx) (w5 w6 : Option Value), (MSim (aN (av S)) (lvs (av S) k z y) S1 ∧ frO S S1 k z) → GW κ Γ 19 [some (rf Γ 44), some (vI k), some (vI z), some (vI (bz (allB (fun i => allB (okB (av S) k z i) (ans (av S))) y = true))), some (vI (y : Int)), w5, w6] [] (wl Γ S1)) 30 ?_ ?_ 0 (Nat.zero_le _)
  · exact GW_L (L' := [some (rf Γ 44), some (vI k), some (vI z), some (vI (bz (allB (fun i => allB (okB (av S) k z i) (ans (av S))) 0 = true))), some (vI ((0 : Nat) : Int)), none, none]) rfl (lp _ none none ⟨hX1, hf1⟩)
  · intro S1 w5 w6 ⟨hX0, hf⟩
    refine G_iload hk dX11_isSeen_19 rfl ?_
    refine G_bipush hk dX11_isSeen_21 (by decide) ?_
    refine G_icmp_ge (tgt := 123) hk dX11_isSeen_23 (by decide) ⟨by omega, by omega⟩ ⟨by omega, by omega⟩ (fun h_23 => ?_) (fun h_23 => ?_)
    · refine G_rload_n hk dX11_isSeen_123 rfl ?_
      refine G_iconst hk dX11_isSeen_124 ?_
      refine G_putI hk dX11_isSeen_125 flX11_56 fpX11_19 (by decide) rfl rfl ?_
      refine G_iload_n hk dX11_isSeen_128 rfl ?_
      have hfp : frP S (su S1 44 19 (-1)) := by
        refine ⟨fun c a b e f _ => by rw [su_ne _ a]; exact hf.1 c a b e f, fun i hi => ?_, ?_, ?_⟩
        · by_cases q : i = 19
          · rw [q, su_at]; exact i4.1.symm
          · rw [su_nk _ _ _ q]; exact hf.2.1 i (by omega) q (by omega)
        · rw [su_nk _ _ _ (by decide), hf.2.2.2]; exact hz
        · rw [su_nk _ _ _ (by decide), hf.2.1 23 (by decide) (by decide) (by decide)]; exact i4.2.2.2.1
      exact G_zret hk hr dX11_isSeen_129 (bz_01 _) ⟨rfl, RdM_frP hR hfp, hfp⟩
    · exact absurd h_23 (by omega)--stop
  · intro y hy9 ih S1 w5 w6 ⟨hX0, hf⟩
    refine G_iload hk dX11_isSeen_19 rfl ?_
    refine G_bipush hk dX11_isSeen_21 (by decide) ?_
    refine G_icmp_ge (tgt := 123) hk dX11_isSeen_23 (by decide) ⟨by omega, by omega⟩ ⟨by omega, by omega⟩ (fun h_23 => ?_) (fun h_23 => ?_)
    · exact absurd h_23 (by omega)--stop
    · refine G_rload_n hk dX11_isSeen_26 rfl ?_
      refine G_iload hk dX11_isSeen_27 rfl ?_
      refine G_cV1V hk dX11_isSeen_29 mvX11_goesOn mlX11_189 (by decide) rfl rfl (Nat.le_of_ble_eq_true rfl) (c_goO hR hf h_k hz hX0 (by omega)) (fun S_29 hp_29 => ?_)
      obtain ⟨hX2, hf2⟩ := hp_29
      have e31 : S_29 44 31 = (ans (av S) : Int) := by
        rw [hf2.2.1 31 (by decide) (by decide) (by decide)]
        show S 44 31 = ((S 44 31).toNat : Int)
        omega
      have e8 : S_29 44 8 = (aN (av S) : Int) := by rw [hf2.2.1 8 (by decide) (by decide) (by decide)]; exact hR.2.1
      have hB2 := lv_bd hR.1.1 k z (szf_os hR.1.1 hz) (y + 1)
      refine G_iconst hk dX11_isSeen_32 ?_
      refine G_istore hk dX11_isSeen_33 (by decide) rfl ?_
      have lp2 := loop_up (P := fun j => ∀ w6 : Option Value, GW κ Γ 35 [some (rf Γ 44), some (vI k), some (vI z), some (vI (bz ((allB (fun i => allB (okB (av S) k z i) (ans (av S))) y && allB (okB (av S) k z y) j) = true))), some (vI (y : Int)), some (vI (j : Int)), w6] [] (wl Γ S_29)) (ans (av S)) ?_ ?_ 0 (Nat.zero_le _)
      · have e9 : (allB (fun i => allB (okB (av S) k z i) (ans (av S))) y && allB (okB (av S) k z y) 0) = allB (fun i => allB (okB (av S) k z i) (ans (av S))) y := by simp [allB]
        rw [e9] at lp2
        exact lp2 w6
      · intro w6
        refine G_iload hk dX11_isSeen_35 rfl ?_
        refine G_rload_n hk dX11_isSeen_37 rfl ?_
        refine G_getI hk dX11_isSeen_38 flX11_267 (by decide) rfl rfl ?_
        rw [e31]
        refine G_icmp_ge (tgt := 117) hk dX11_isSeen_41 (by decide) ⟨by omega, by omega⟩ ⟨by omega, by omega⟩ (fun h_41 => ?_) (fun h_41 => ?_)
        · refine G_iinc hk dX11_isSeen_117 rfl (by decide) rfl ?_
          refine G_goto (tgt := 19) hk dX11_isSeen_120 (by decide) ?_
          exact ih _ _ _ ⟨hX2, hf2⟩
        · exact absurd h_41 (by omega)--stop
      · intro j hj9 ih2 w6
        have hv := hR.1.1.2.2.2.2.2.2.2.2.2 j hj9
        have eV : ∀ i, S_29 58 i = aV (av S) i := fun i => by rw [hf2.1 58 (by decide) (by decide) (by decide) (by decide)]; rfl
        refine G_iload hk dX11_isSeen_35 rfl ?_
        refine G_rload_n hk dX11_isSeen_37 rfl ?_
        refine G_getI hk dX11_isSeen_38 flX11_267 (by decide) rfl rfl ?_
        rw [e31]
        refine G_icmp_ge (tgt := 117) hk dX11_isSeen_41 (by decide) ⟨by omega, by omega⟩ ⟨by omega, by omega⟩ (fun h_41 => ?_) (fun h_41 => ?_)
        · exact absurd h_41 (by omega)--stop
        · refine G_rload_n hk dX11_isSeen_44 rfl ?_
          refine G_getR hk dX11_isSeen_45 flX11_49 (by decide) rfl rfl ?_
          refine G_iconst hk dX11_isSeen_48 ?_
          refine G_iload hk dX11_isSeen_49 rfl ?_
          refine G_imul hk dX11_isSeen_51 ?_
          refine G_iconst hk dX11_isSeen_52 ?_
          refine G_iadd hk dX11_isSeen_53 ?_
          refine G_iald hk dX11_isSeen_54 (by decide) rfl (by decide) (by omega) (by omega) ?_
          rw [show (3 * (j : Int) + 1).toNat = 3 * j + 1 by omega, eV]
          refine G_istore hk dX11_isSeen_55 (by decide) rfl ?_
          refine G_iload_n hk dX11_isSeen_57 rfl ?_
          refine G_bif_eq (tgt := 109) hk dX11_isSeen_58 (by decide) (fun h_58 => ?_) (fun h_58 => ?_)
          · refine G_iconst hk dX11_isSeen_109 ?_
            refine G_istore_n hk dX11_isSeen_110 (by decide) rfl ?_
            refine G_iinc hk dX11_isSeen_111 rfl (by decide) rfl ?_
            refine G_goto (tgt := 35) hk dX11_isSeen_114 (by decide) ?_
            have e9 : (0 : Int) = bz ((allB (fun i => allB (okB (av S) k z i) (ans (av S))) y && allB (okB (av S) k z y) (j + 1)) = true) := by
              refine bz_f ?_
              intro h7
              simp only [allB, Bool.and_eq_true] at h7
              exact h_58 (by simp only [Bool.and_eq_true]; exact ⟨h7.1, h7.2.1⟩)
            have h9 := ih2 (some (vI (aV (av S) (3 * j + 1))))
            rw [← e9] at h9
            exact h9
          · refine G_rload_n hk dX11_isSeen_61 rfl ?_
            refine G_getR hk dX11_isSeen_62 flX11_49 (by decide) rfl rfl ?_
            refine G_iconst hk dX11_isSeen_65 ?_
            refine G_iload hk dX11_isSeen_66 rfl ?_
            refine G_imul hk dX11_isSeen_68 ?_
            refine G_iald hk dX11_isSeen_69 (by decide) rfl (by decide) (by omega) (by omega) ?_
            rw [show (3 * (j : Int)).toNat = 3 * j by omega, eV]
            refine G_iload hk dX11_isSeen_70 rfl ?_
            refine G_icmp_ne (tgt := 105) hk dX11_isSeen_72 (by decide) ⟨by omega, by omega⟩ ⟨by omega, by omega⟩ (fun h_72 => ?_) (fun h_72 => ?_)
            · refine G_iconst hk dX11_isSeen_105 ?_
              refine G_goto (tgt := 110) hk dX11_isSeen_106 (by decide) ?_
              refine G_istore_n hk dX11_isSeen_110 (by decide) rfl ?_
              refine G_iinc hk dX11_isSeen_111 rfl (by decide) rfl ?_
              refine G_goto (tgt := 35) hk dX11_isSeen_114 (by decide) ?_
              have e9 : (1 : Int) = bz ((allB (fun i => allB (okB (av S) k z i) (ans (av S))) y && allB (okB (av S) k z y) (j + 1)) = true) := by
                refine bz_t ?_
                have h7 := h_58
                simp only [allB, Bool.and_eq_true] at h7 ⊢
                refine ⟨h7.1, h7.2, ?_⟩
                unfold okB
                simp only [decide_eq_true_eq]
                intro q; exact absurd q h_72
              have h9 := ih2 (some (vI (aV (av S) (3 * j + 1))))
              rw [← e9] at h9
              exact h9
            · refine G_rload_n hk dX11_isSeen_75 rfl ?_
              refine G_iload hk dX11_isSeen_76 rfl ?_
              refine G_cV1P hk dX11_isSeen_78 mvX11_isPerson mlX11_121 (by decide) rfl rfl (Nat.le_of_ble_eq_true rfl) (c_X11_isPerson _ Γ (d + 4) _ _ ⟨by omega, by omega⟩ ⟨by omega, by omega⟩) ?_
              refine G_bif_eq (tgt := 109) hk dX11_isSeen_81 (by decide) (fun h_81 => ?_) (fun h_81 => ?_)
              · refine G_iconst hk dX11_isSeen_109 ?_
                refine G_istore_n hk dX11_isSeen_110 (by decide) rfl ?_
                refine G_iinc hk dX11_isSeen_111 rfl (by decide) rfl ?_
                refine G_goto (tgt := 35) hk dX11_isSeen_114 (by decide) ?_
                have e9 : (0 : Int) = bz ((allB (fun i => allB (okB (av S) k z i) (ans (av S))) y && allB (okB (av S) k z y) (j + 1)) = true) := by
                  refine bz_f ?_
                  intro h7
                  simp only [allB, Bool.and_eq_true] at h7
                  have h6 := h7.2.2
                  unfold okB at h6
                  simp only [decide_eq_true_eq] at h6
                  have h5 := h6 (by omega)
                  omega
                have h9 := ih2 (some (vI (aV (av S) (3 * j + 1))))
                rw [← e9] at h9
                exact h9
              · refine G_rload_n hk dX11_isSeen_84 rfl ?_
                refine G_getR hk dX11_isSeen_85 flX11_37 (by decide) rfl rfl ?_
                refine G_iload hk dX11_isSeen_88 rfl ?_
                have s54 := hB2.1 (aV (av S) (3 * j + 1)).toNat (by omega)
                refine G_iald hk dX11_isSeen_90 (by decide) rfl (by decide) (by omega) (by omega) ?_
                rw [hX2.1 (aV (av S) (3 * j + 1)).toNat (by omega)]
                refine G_rload_n hk dX11_isSeen_91 rfl ?_
                refine G_getR hk dX11_isSeen_92 flX11_49 (by decide) rfl rfl ?_
                refine G_iconst hk dX11_isSeen_95 ?_
                refine G_iload hk dX11_isSeen_96 rfl ?_
                refine G_imul hk dX11_isSeen_98 ?_
                refine G_iconst hk dX11_isSeen_99 ?_
                refine G_iadd hk dX11_isSeen_100 ?_
                refine G_iald hk dX11_isSeen_101 (by decide) rfl (by decide) (by omega) (by omega) ?_
                rw [show (3 * (j : Int) + 2).toNat = 3 * j + 2 by omega, eV]
                refine G_icmp_ne (tgt := 109) hk dX11_isSeen_102 (by decide) ⟨by omega, by omega⟩ ⟨by omega, by omega⟩ (fun h_102 => ?_) (fun h_102 => ?_)
                · refine G_iconst hk dX11_isSeen_109 ?_
                  refine G_istore_n hk dX11_isSeen_110 (by decide) rfl ?_
                  refine G_iinc hk dX11_isSeen_111 rfl (by decide) rfl ?_
                  refine G_goto (tgt := 35) hk dX11_isSeen_114 (by decide) ?_
                  have e9 : (0 : Int) = bz ((allB (fun i => allB (okB (av S) k z i) (ans (av S))) y && allB (okB (av S) k z y) (j + 1)) = true) := by
                    refine bz_f ?_
                    intro h7
                    simp only [allB, Bool.and_eq_true] at h7
                    have h6 := h7.2.2
                    unfold okB at h6
                    simp only [decide_eq_true_eq] at h6
                    have h5 := h6 (by omega)
                    exact h_102 h5.2
                  have h9 := ih2 (some (vI (aV (av S) (3 * j + 1))))
                  rw [← e9] at h9
                  exact h9
                · refine G_iconst hk dX11_isSeen_105 ?_
                  refine G_goto (tgt := 110) hk dX11_isSeen_106 (by decide) ?_
                  refine G_istore_n hk dX11_isSeen_110 (by decide) rfl ?_
                  refine G_iinc hk dX11_isSeen_111 rfl (by decide) rfl ?_
                  refine G_goto (tgt := 35) hk dX11_isSeen_114 (by decide) ?_
                  have e9 : (1 : Int) = bz ((allB (fun i => allB (okB (av S) k z i) (ans (av S))) y && allB (okB (av S) k z y) (j + 1)) = true) := by
                    refine bz_t ?_
                    have h7 := h_58
                    simp only [allB, Bool.and_eq_true] at h7 ⊢
                    refine ⟨h7.1, h7.2, ?_⟩
                    unfold okB
                    simp only [decide_eq_true_eq]
                    intro q; exact ⟨by omega, by omega⟩
                  have h9 := ih2 (some (vI (aV (av S) (3 * j + 1))))
                  rw [← e9] at h9
                  exact h9

theorem c_X11_neverNow (l : Launch) (Γ : Ev) (d : Nat) (S : Sx) (hR : RdM S) : Ctr l Γ (d + 7) mX11_neverNow [rf Γ 44] S (pI (fun r S2 => r = a_neverNow (av S) ∧ RdM S2 ∧ frP S S2)) := by
  refine Ctr.of (by decide) rfl rfl (Nat.le_of_ble_eq_true rfl) ?_
  intro κ hl hk hr
  subst hl
  have n12 := hR.1.1.2.2.1
  have i2 := hR.1.2.1
  have hf0 : frP S S := ⟨fun _ _ _ _ _ _ => rfl, fun _ _ => rfl, hR.1.2.2.2.2.1, hR.1.2.2.2.2.2.2.1⟩
  refine G_iconst hk dX11_neverNow_0 ?_
  refine G_istore_n hk dX11_neverNow_1 (by decide) rfl ?_
  refine G_iconst hk dX11_neverNow_2 ?_
  refine G_istore_n hk dX11_neverNow_3 (by decide) rfl ?_
  have lp := loop_up (P := fun k => ∀ S1 : Sx, (RdM S1 ∧ frP S S1) → GW κ Γ 4 [some (rf Γ 44), some (vI (bsm (fun k => a_isSeen (av S) (k : Int) 0) k)), some (vI (k : Int))] [] (wl Γ S1)) (anp (av S)) ?_ ?_ 0 (Nat.zero_le _)
  · exact lp S ⟨hR, hf0⟩
  · intro S1 ⟨hR1, hf1⟩
    have e10 : S1 44 10 = (anp (av S) : Int) := by
      rw [hf1.2.1 10 (by omega)]
      show S 44 10 = ((S 44 10).toNat : Int)
      omega
    refine G_iload_n hk dX11_neverNow_4 rfl ?_
    refine G_rload_n hk dX11_neverNow_5 rfl ?_
    refine G_getI hk dX11_neverNow_6 flX11_139 (by decide) rfl rfl ?_
    refine G_icmp_ge (tgt := 37) hk dX11_neverNow_9 (by decide) ⟨by omega, by omega⟩ ⟨by omega, by omega⟩ (fun h_9 => ?_) (fun h_9 => ?_)
    · refine G_iload_n hk dX11_neverNow_37 rfl ?_
      exact G_iret hk hr dX11_neverNow_38 ⟨rfl, hR1, hf1⟩
    · exact absurd h_9 (by omega)--stop
  · intro k hk9 ih S1 ⟨hR1, hf1⟩
    have eA1 := av_frP hf1
    have e10 : S1 44 10 = (anp (av S) : Int) := by
      rw [hf1.2.1 10 (by omega)]
      show S 44 10 = ((S 44 10).toNat : Int)
      omega
    refine G_iload_n hk dX11_neverNow_4 rfl ?_
    refine G_rload_n hk dX11_neverNow_5 rfl ?_
    refine G_getI hk dX11_neverNow_6 flX11_139 (by decide) rfl rfl ?_
    refine G_icmp_ge (tgt := 37) hk dX11_neverNow_9 (by decide) ⟨by omega, by omega⟩ ⟨by omega, by omega⟩ (fun h_9 => ?_) (fun h_9 => ?_)
    · exact absurd h_9 (by omega)--stop
    · refine G_iload_n hk dX11_neverNow_12 rfl ?_
      refine G_rload_n hk dX11_neverNow_13 rfl ?_
      refine G_iload_n hk dX11_neverNow_14 rfl ?_
      refine G_iconst hk dX11_neverNow_15 ?_
      refine G_cV2I hk dX11_neverNow_16 mvX11_isSeen mlX11_273 (by decide) rfl rfl (Nat.le_of_ble_eq_true rfl) (c_X11_isSeen _ Γ (d + 0) _ hR1 _ _ ⟨by omega, by omega⟩ ⟨by omega, by omega⟩) (fun r_16 S_16 hp_16 => ?_)
      obtain ⟨rfl, hR2, hf2⟩ := hp_16
      rw [eA1]
      refine G_bif_eq (tgt := 28) hk dX11_neverNow_19 (by decide) (fun h_19 => ?_) (fun h_19 => ?_)
      · refine G_iconst hk dX11_neverNow_28 ?_
        refine G_ior hk dX11_neverNow_29 ?_
        rw [bsm_or0 (fun k => a_isSeen (av S) (k : Int) 0) (by omega) (by simpa using h_19)]
        refine G_istore_n hk dX11_neverNow_30 (by decide) rfl ?_
        refine G_iinc hk dX11_neverNow_31 rfl (by decide) rfl ?_
        refine G_goto (tgt := 4) hk dX11_neverNow_34 (by decide) ?_
        exact ih _ ⟨hR2, frP_t hf1 hf2⟩
      · refine G_iconst hk dX11_neverNow_22 ?_
        refine G_iload_n hk dX11_neverNow_23 rfl ?_
        refine G_ishl hk dX11_neverNow_24 (by omega) (shl_ok (by omega)) (by omega) (by omega) ?_
        refine G_goto (tgt := 29) hk dX11_neverNow_25 (by decide) ?_
        refine G_ior hk dX11_neverNow_29 ?_
        rw [bsm_or1 (fun k => a_isSeen (av S) (k : Int) 0) (by omega) h_19]
        refine G_istore_n hk dX11_neverNow_30 (by decide) rfl ?_
        refine G_iinc hk dX11_neverNow_31 rfl (by decide) rfl ?_
        refine G_goto (tgt := 4) hk dX11_neverNow_34 (by decide) ?_
        exact ih _ ⟨hR2, frP_t hf1 hf2⟩

theorem c_X11_never (l : Launch) (Γ : Ev) (d : Nat) (S : Sx) (hI : InvM S) : Ctr l Γ (d + 8) mX11_never [rf Γ 44] S (pI (fun r S2 => r = a_neverNow (av S) ∧ frQ S S2)) := by
  refine Ctr.of (by decide) rfl rfl (Nat.le_of_ble_eq_true rfl) ?_
  intro κ hl hk hr
  subst hl
  refine G_rload_n hk dX11_never_0 rfl ?_
  refine G_cV0I hk dX11_never_1 mvX11_reads mlX11_113 (by decide) rfl rfl (Nat.le_of_ble_eq_true rfl) (c_rd hI) (fun r_1 S_1 hp_1 => ?_)
  obtain ⟨hr0, hR, hq⟩ := hp_1
  have eQ := av_frQ hq
  refine G_pop hk dX11_never_4 rfl ?_
  refine G_rload_n hk dX11_never_5 rfl ?_
  refine G_cV0I hk dX11_never_6 mvX11_neverNow mlX11_276 (by decide) rfl rfl (Nat.le_of_ble_eq_true rfl) (c_X11_neverNow _ Γ (d + 0) _ hR ) (fun r_6 S_6 hp_6 => ?_)
  exact G_iret hk hr dX11_never_9 ⟨by rw [hp_6.1, eQ], frQ_t hq (frQ_P hp_6.2.2)⟩

theorem c_X11_sizesOf (l : Launch) (Γ : Ev) (d : Nat) (S : Sx) (hR : RdM S) (k : Int) (h_k : R32 k) : Ctr l Γ (d + 7) mX11_sizesOf [rf Γ 44, vI k] S (pI (fun r S2 => r = a_sizesOf (av S) k ∧ RdM S2 ∧ frP S S2)) := by
  refine Ctr.of (by decide) rfl rfl (Nat.le_of_ble_eq_true rfl) ?_
  intro κ hl hk hr
  subst hl
  have n12 := hR.1.1.2.2.1
  have i2 := hR.1.2.1
  have hf0 : frP S S := ⟨fun _ _ _ _ _ _ => rfl, fun _ _ => rfl, hR.1.2.2.2.2.1, hR.1.2.2.2.2.2.2.1⟩
  refine G_iconst hk dX11_sizesOf_0 ?_
  refine G_istore_n hk dX11_sizesOf_1 (by decide) rfl ?_
  refine G_iconst hk dX11_sizesOf_2 ?_
  refine G_istore_n hk dX11_sizesOf_3 (by decide) rfl ?_
  have lp := loop_up (P := fun i => ∀ S1 : Sx, (RdM S1 ∧ frP S S1) → GW κ Γ 4 [some (rf Γ 44), some (vI k), some (vI (bsm (fun i => a_isSeen (av S) k ((i : Int) + 1)) i)), some (vI ((i : Int) + 1))] [] (wl Γ S1)) 9 ?_ ?_ 0 (Nat.zero_le _)
  · exact lp S ⟨hR, hf0⟩
  · intro S1 ⟨hR1, hf1⟩
    refine G_iload_n hk dX11_sizesOf_4 rfl ?_
    refine G_bipush hk dX11_sizesOf_5 (by decide) ?_
    refine G_icmp_ge (tgt := 37) hk dX11_sizesOf_7 (by decide) ⟨by omega, by omega⟩ ⟨by omega, by omega⟩ (fun h_7 => ?_) (fun h_7 => ?_)
    · refine G_iload_n hk dX11_sizesOf_37 rfl ?_
      exact G_iret hk hr dX11_sizesOf_38 ⟨rfl, hR1, hf1⟩
    · exact absurd h_7 (by omega)--stop
  · intro i hk9 ih S1 ⟨hR1, hf1⟩
    have eA1 := av_frP hf1
    have ei : (i : Int) + 1 - 1 = (i : Int) := by omega
    refine G_iload_n hk dX11_sizesOf_4 rfl ?_
    refine G_bipush hk dX11_sizesOf_5 (by decide) ?_
    refine G_icmp_ge (tgt := 37) hk dX11_sizesOf_7 (by decide) ⟨by omega, by omega⟩ ⟨by omega, by omega⟩ (fun h_7 => ?_) (fun h_7 => ?_)
    · exact absurd h_7 (by omega)--stop
    · refine G_iload_n hk dX11_sizesOf_10 rfl ?_
      refine G_rload_n hk dX11_sizesOf_11 rfl ?_
      refine G_iload_n hk dX11_sizesOf_12 rfl ?_
      refine G_iload_n hk dX11_sizesOf_13 rfl ?_
      refine G_cV2I hk dX11_sizesOf_14 mvX11_isSeen mlX11_273 (by decide) rfl rfl (Nat.le_of_ble_eq_true rfl) (c_X11_isSeen _ Γ (d + 0) _ hR1 _ _ ⟨by omega, by omega⟩ ⟨by omega, by omega⟩) (fun r_14 S_14 hp_14 => ?_)
      obtain ⟨rfl, hR2, hf2⟩ := hp_14
      rw [eA1]
      refine G_bif_eq (tgt := 28) hk dX11_sizesOf_17 (by decide) (fun h_17 => ?_) (fun h_17 => ?_)
      · refine G_iconst hk dX11_sizesOf_28 ?_
        refine G_ior hk dX11_sizesOf_29 ?_
        rw [bsm_or0 (fun i => a_isSeen (av S) k ((i : Int) + 1)) (by omega) (by simpa using h_17)]
        refine G_istore_n hk dX11_sizesOf_30 (by decide) rfl ?_
        refine G_iinc hk dX11_sizesOf_31 rfl (by decide) rfl ?_
        refine G_goto (tgt := 4) hk dX11_sizesOf_34 (by decide) ?_
        exact ih _ ⟨hR2, frP_t hf1 hf2⟩
      · refine G_iconst hk dX11_sizesOf_20 ?_
        refine G_iload_n hk dX11_sizesOf_21 rfl ?_
        refine G_iconst hk dX11_sizesOf_22 ?_
        refine G_isub hk dX11_sizesOf_23 ?_
        rw [ei]
        refine G_ishl hk dX11_sizesOf_24 (by omega) (shl_ok (by omega)) (by omega) (by omega) ?_
        refine G_goto (tgt := 29) hk dX11_sizesOf_25 (by decide) ?_
        refine G_ior hk dX11_sizesOf_29 ?_
        rw [bsm_or1 (fun i => a_isSeen (av S) k ((i : Int) + 1)) (by omega) h_17]
        refine G_istore_n hk dX11_sizesOf_30 (by decide) rfl ?_
        refine G_iinc hk dX11_sizesOf_31 rfl (by decide) rfl ?_
        refine G_goto (tgt := 4) hk dX11_sizesOf_34 (by decide) ?_
        exact ih _ ⟨hR2, frP_t hf1 hf2⟩

theorem c_X11_sizes (l : Launch) (Γ : Ev) (d : Nat) (S : Sx) (hI : InvM S) (k : Int) (h_k : R32 k) : Ctr l Γ (d + 8) mX11_sizes [rf Γ 44, vI k] S (pI (fun r S2 => r = a_sizes (av S) k ∧ frQ S S2)) := by
  refine Ctr.of (by decide) rfl rfl (Nat.le_of_ble_eq_true rfl) ?_
  intro κ hl hk hr
  subst hl
  have n12 := hI.1.2.2.1
  have i2 := hI.2.1
  refine G_rload_n hk dX11_sizes_0 rfl ?_
  refine G_cV0I hk dX11_sizes_1 mvX11_reads mlX11_113 (by decide) rfl rfl (Nat.le_of_ble_eq_true rfl) (c_rd hI) (fun r_1 S_1 hp_1 => ?_)
  obtain ⟨hr0, hR, hq⟩ := hp_1
  have eQ := av_frQ hq
  have e10 : S_1 44 10 = (anp (av S) : Int) := by
    rw [hq.2.1 10 (by omega)]
    show S 44 10 = ((S 44 10).toNat : Int)
    omega
  refine G_pop hk dX11_sizes_4 rfl ?_
  refine G_iload_n hk dX11_sizes_5 rfl ?_
  refine G_i2l hk dX11_sizes_6 ⟨by omega, by omega⟩ ?_
  refine G_lconst (z := 0) hk dX11_sizes_7 (by decide) ?_
  refine G_rload_n hk dX11_sizes_8 rfl ?_
  refine G_getI hk dX11_sizes_9 flX11_139 (by decide) rfl rfl ?_
  refine G_iconst hk dX11_sizes_12 ?_
  refine G_isub hk dX11_sizes_13 ?_
  refine G_i2l hk dX11_sizes_14 ⟨by omega, by omega⟩ ?_
  refine G_cS3P hk dX11_sizes_15 msX11_in mlX11_64 (Nat.le_of_ble_eq_true rfl) (c_X11_in _ Γ (d + 7) _ _ _ _ ⟨by omega, by omega⟩ ⟨by omega, by omega⟩ ⟨by omega, by omega⟩) ?_
  refine G_bif_eq (tgt := 29) hk dX11_sizes_18 (by decide) (fun h_18 => ?_) (fun h_18 => ?_)
  · refine G_bipush hk dX11_sizes_29 (by decide) ?_
    exact G_iret hk hr dX11_sizes_31 ⟨by unfold a_sizes; (repeat' split) <;> first | (exfalso; omega) | rfl, hq⟩
  · refine G_rload_n hk dX11_sizes_21 rfl ?_
    refine G_iload_n hk dX11_sizes_22 rfl ?_
    refine G_cV1I hk dX11_sizes_23 mvX11_sizesOf mlX11_279 (by decide) rfl rfl (Nat.le_of_ble_eq_true rfl) (c_X11_sizesOf _ Γ (d + 0) _ hR _ ⟨by omega, by omega⟩) (fun r_23 S_23 hp_23 => ?_)
    refine G_goto (tgt := 31) hk dX11_sizes_26 (by decide) ?_
    exact G_iret hk hr dX11_sizes_31 ⟨by unfold a_sizes; rw [hp_23.1, eQ]; (repeat' split) <;> first | (exfalso; omega) | rfl, frQ_t hq (frQ_P hp_23.2.2)⟩
