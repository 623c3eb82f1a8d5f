/-! the digest, and how large its parts are -/
def mz (h v : Int) : Int := 31 * h + v
def dgP (A : Av) (h p : Int) : Int := mz (mz (mz (mz (mz (mz (mz (mz (mz (mz h (a0 A p.toNat)) (aTw A p.toNat)) (a_solid A 5 p)) (a_solid A 29 p)) (a_wholeOf A 9 p 50 (-1) 0)) (a_wholeOf A 9 p 50 (-1) 1)) (a_spyOf A 9 p 3)) (a_shotsOf A 5 9 4 p 4 0)) (a_shotsOf A 5 9 4 p 4 1)) (a_platesOf A 7 20 p)
def dg0 (A : Av) (lt : Int) (n : Nat) : Int := itN (fun k h => mz h (a_count A lt (k : Int))) n 17
def dg1 (A : Av) (h : Int) (n : Nat) : Int := itN (fun p x => dgP A x (p : Int)) n h
def dg2 (A : Av) (h : Int) (n : Nat) : Int := itN (fun k x => mz (mz (mz x (a_tookOf A (k : Int) 0)) (a_tookOf A (k : Int) 1)) (a_sizesOf A (k : Int))) n h
def dgB (A : Av) (y h : Int) (n : Nat) : Int := itN (fun j x => mz x (a_behindOf A y (j : Int))) n h
def dgD (A : Av) (y h : Int) (n : Nat) : Int := itN (fun j x => mz x (a_drawerOf A y (j : Int))) n h
def dgS (A : Av) (y h : Int) (n : Nat) : Int := itN (fun j x => mz x (a_swapOf A y (j : Int))) n h
def dgY (A : Av) (y h : Int) : Int := dgS A y (mz (dgD A y (dgB A y h 3) 4) (a_feastOf A y 2)) 3
def yf (k : Nat) : Int := if k = 0 then 0 else if k = 1 then 5 else 29
def dg3 (A : Av) (h : Int) (n : Nat) : Int := itN (fun k x => dgY A (yf k) x) n h
def dg4 (A : Av) (h : Int) : Int := mz (mz (mz (mz (mz h (a_unseenOf A 0)) (a_unseenOf A 1)) (a_neverNow A)) (a_townOf 99 (55 / 10) 2)) (a_tollOf 99 2)
def a_digest (A : Av) (lt : Int) : Int := dg4 A (dg3 A (dg2 A (dg1 A (mz (dg0 A lt 8) (a_fault A)) (aN A)) (anp A)) 3)
theorem hol_bd {A : Av} {X : Sim} {b : Int} (hA : AvOk A) (hB : SB (aN A) (aP A) b X) (w : Int) : 0 ≤ hol A X w ∧ hol A X w ≤ 216 := by
  have n12 := hA.2.2.1
  have h2 := ssm_bd (f := fun k => if X.2.2 k = 1 ∧ aP A (4 * k + 3) = w then X.2.1 (2 * k) + X.2.1 (2 * k + 1) else 0) (b := 18) (n := anp A) (fun i hi => by
    have h3 := hB.2.1 (2 * i) (by omega)
    have h4 := hB.2.1 (2 * i + 1) (by omega)
    split <;> omega)
  unfold hol
  omega
theorem allf_bd {A : Av} {X : Sim} {b : Int} (hA : AvOk A) (hB : SB (aN A) (aP A) b X) (hb : 0 ≤ b) : 0 ≤ allf A X ∧ allf A X ≤ 8 * b + 864 := by
  have n8 := aN_8 hA
  have h1 := ssm_bd (f := X.1) (b := b) (n := aN A) hB.1
  have h2 := ssm_bd (f := fun w => hol A X (w : Int)) (b := 216) (n := 4) (fun i _ => hol_bd hA hB _)
  have h3 : b * (aN A : Int) ≤ b * 8 := Int.mul_le_mul_of_nonneg_left (by omega) hb
  unfold allf
  omega
theorem bsm_bd (c : Nat → Bool) {n : Nat} (hn : n ≤ 12) : (0 : Int) ≤ (bsm c n : Int) ∧ (bsm c n : Int) ≤ 4096 := by
  have h := bsm_lt c n
  have h2 := pow_12 hn
  omega
theorem behindOf_bd {A : Av} (hA : AvOk A) {y : Int} (hy : 0 ≤ y ∧ y ≤ 29) (w : Int) : R32 (a_behindOf A y w) := by
  have n8 := aN_8 hA
  have n12 := hA.2.2.1
  unfold a_behindOf
  split
  · have h := bsm_bd (fun p => decide ((lv A (y.toNat + 1)).1 p < aF A)) (n := aN A) (by omega)
    exact ⟨by omega, by omega⟩
  · split
    · have h := bsm_bd (fun k => decide ((lv A (y.toNat + 1)).2.2 k = 1)) (n := anp A) n12
      exact ⟨by omega, by omega⟩
    · have h := allf_bd hA (lv_bd0 hA (y.toNat + 1)) (by omega)
      exact ⟨by omega, by omega⟩
theorem drawerOf_bd {A : Av} (hA : AvOk A) (y w : Int) : R32 (a_drawerOf A y w) := by
  have h := hol_bd hA (lv_bd0 hA (y.toNat + 1)) w
  unfold a_drawerOf
  exact ⟨by omega, by omega⟩
theorem feastOf_bd {A : Av} (hA : AvOk A) {y z : Int} (hy : 0 ≤ y ∧ y ≤ 29) (hz : 1 ≤ z) : R32 (a_feastOf A y z) := by
  have n8 := aN_8 hA
  have f9 := hA.2.2.2.2.2.2.1
  have hB := lv_bd0 hA (y.toNat + 1)
  have h2 := ssm_bd (f := fun p => if (lv A (y.toNat + 1)).1 p < aF A then 0 else ((lv A (y.toNat + 1)).1 p - aF A) / z) (b := 4000) (n := aN A) (fun i hi => by
    have h3 := hB.1 i hi
    split
    · omega
    · next g =>
      have h4 : 0 ≤ ((lv A (y.toNat + 1)).1 i - aF A) / z := Int.ediv_nonneg (by omega) (by omega)
      have h5 : ((lv A (y.toNat + 1)).1 i - aF A) / z ≤ (lv A (y.toNat + 1)).1 i - aF A := Int.ediv_le_self _ (by omega)
      omega)
  unfold a_feastOf
  exact ⟨by omega, by omega⟩
theorem swc_le (c : Nat → Bool) (W P : Nat → Int) (n : Nat) : ∀ (f : Nat) (li : Nat → Int), swc c W P n f li ≤ f
  | 0, _ => Nat.le_refl 0
  | f + 1, li => by
    simp only [swc]
    split
    · have h := swc_le c W P n f (swp li (pJ c W P n li) (pK c W P n li (pJ c W P n li)))
      omega
    · omega
theorem swapOf_bd {A : Av} (hA : AvOk A) (y w : Int) : R32 (a_swapOf A y w) := by
  have n12 := hA.2.2.1
  unfold a_swapOf
  split
  · have h := swc_le (a_swc A y) (aW A) (aP A) (anp A) 12 (a_li A)
    exact ⟨by omega, by omega⟩
  · split
    · unfold sw1
      have h := srch_le (fun j => decide (pK (a_swc A y) (aW A) (aP A) (anp A) (a_li A) j < anp A)) (anp A)
      have h2 : pJ (a_swc A y) (aW A) (aP A) (anp A) (a_li A) ≤ anp A := h
      split
      · exact ⟨by omega, by omega⟩
      · decide
    · unfold sw2
      have h2 : pK (a_swc A y) (aW A) (aP A) (anp A) (a_li A) (pJ (a_swc A y) (aW A) (aP A) (anp A) (a_li A)) ≤ anp A := srch_le _ _
      split
      · exact ⟨by omega, by omega⟩
      · decide
theorem unseenOf_bd {A : Av} (hA : AvOk A) (w : Int) : R32 (a_unseenOf A w) := by
  have n8 := aN_8 hA
  unfold a_unseenOf
  have h := srch_le (frsh A (a_unseenY A)) (aN A)
  split
  · split
    · exact ⟨by omega, by omega⟩
    · exact ⟨by omega, by omega⟩
  · decide
theorem never_bd {A : Av} (hA : AvOk A) : R32 (a_neverNow A) := by
  have h := bsm_bd (fun k => a_isSeen A (k : Int) 0) (n := anp A) hA.2.2.1
  unfold a_neverNow
  exact ⟨by omega, by omega⟩
theorem sizesOf_bd (A : Av) (k : Int) : R32 (a_sizesOf A k) := by
  have h := bsm_bd (fun i => a_isSeen A k ((i : Int) + 1)) (n := 9) (by decide)
  unfold a_sizesOf
  exact ⟨by omega, by omega⟩
theorem tookOf_bd {A : Av} (hA : AvOk A) {k w : Int} (hk : 0 ≤ k ∧ k ≤ (anp A : Int) - 1) (hw : 0 ≤ w ∧ w ≤ 1) : R32 (a_tookOf A k w) := by
  have n12 := hA.2.2.1
  have h := (lv_bd0 hA 30).2.1 (2 * k + w).toNat (by omega)
  unfold a_tookOf
  exact ⟨by omega, by omega⟩
theorem solidOf_bd {A : Av} (hA : AvOk A) {y p : Int} (hy : 0 ≤ y ∧ y ≤ 29) (hp : 0 ≤ p ∧ p ≤ (aN A : Int) - 1) : 0 ≤ a_solidOf A y p ∧ a_solidOf A y p ≤ 4000 := by
  have h := (lv_bd0 hA (y.toNat + 1)).1 p.toNat (by omega)
  unfold a_solidOf
  omega
theorem solid_bd {A : Av} (hA : AvOk A) (y p : Int) : R32 (a_solid A y p) := by
  unfold a_solid
  split
  · decide
  · split
    · decide
    · have h := solidOf_bd hA (y := y) (p := p) (by omega) (by omega)
      exact ⟨by omega, by omega⟩
theorem wholeOf_bd {A : Av} (hA : AvOk A) (y p wi sp w : Int) : R32 (a_wholeOf A y p wi sp w) := by
  have h := wh_bd (lv_bd0 hA (y.toNat + 1)) hA.2.2.1 p wi sp (2 ^ anp A)
  have h2 := pow_12 hA.2.2.1
  unfold a_wholeOf
  split
  · exact ⟨by omega, by omega⟩
  · exact ⟨by omega, by omega⟩
theorem spyOf_bd (A : Av) (y p z : Int) : R32 (a_spyOf A y p z) := by
  unfold a_spyOf
  split
  · exact ⟨by omega, by omega⟩
  · decide
theorem pls_bd {A : Av} (hA : AvOk A) (dr : Int) (n : Nat) : SB (aN A) (aP A) (99 + 108 * n) (pls A dr n).1 := SB_liv (E := aE A) (m := (-1, 0, 0, 0, 0, 0)) (t0 := a0 A) (dr := dr) ⟨aTw_ok, fun k hk => by have h := (hA.2.2.2.1 k hk).2.2.1; show 0 ≤ szf (aP A) (-1) 0 k ∧ szf (aP A) (-1) 0 k ≤ 9; unfold szf; rw [if_neg (by omega)]; omega, fun j hj => (hA.2.2.2.2.2.1 j hj).2, hA.2.2.2.2.1⟩ ⟨by show R32 0; decide, by show R32 0; decide, by show (0 : Int) ≤ 0 ∧ (0 : Int) ≤ 1000; decide, fun h => absurd h (by show ¬ (0 : Int) < 0; decide)⟩ (a0_99 (A := A)) n
theorem platesOf_bd {A : Av} (hA : AvOk A) (s : Int) {y p : Int} (hy : 0 ≤ y ∧ y ≤ 29) (hp : 0 ≤ p ∧ p ≤ (aN A : Int) - 1) : R32 (a_platesOf A s y p) := by
  have h := (pls_bd hA s (y.toNat + 1)).1 p.toNat (by omega)
  unfold a_platesOf
  exact ⟨by omega, by omega⟩
theorem lstF_le (c : Nat → Bool) : ∀ n, lstF c n ≤ n
  | 0 => Nat.le_refl 0
  | n + 1 => by
    have h := lstF_le c n
    simp only [lstF]
    split <;> omega
theorem tollOf_bd (w g : Int) : R32 (a_tollOf w g) := by
  have h := lstF_le (tlt w g) 1000
  unfold a_tollOf
  exact ⟨by omega, by omega⟩
theorem flt_bd {A : Av} (hA : AvOk A) : R32 (a_fault A) := by
  have h1 := hA.1
  have h2 := fbad_le A.2.1 A.1
  unfold a_fault flt
  split
  · exact ⟨by omega, by omega⟩
  · split
    · decide
    · exact ⟨by omega, by omega⟩
theorem count_bd {A : Av} (hA : AvOk A) {lt : Int} (hl : R32 lt) (w : Int) : R32 (a_count A lt w) := by
  have n8 := aN_8 hA
  have n12 := hA.2.2.1
  have b12 := hA.2.2.2.2.1
  have s8 := hA.2.2.2.2.2.2.2.2.1
  have f9 := hA.2.2.2.2.2.2.1
  have t31 := hA.1
  have h1 := ssm_bd (f := a0 A) (b := 99) (n := aN A) (a0_99 (A := A))
  have h2 := ssm_bd (f := fun p => if aTw A p = -1 then 0 else 1) (b := 1) (n := aN A) (fun i _ => by split <;> omega)
  unfold a_count
  (repeat' split) <;> first | exact hl | exact ⟨by omega, by omega⟩ | decide
