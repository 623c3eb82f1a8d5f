/-! a sweep over the sorted places of one year is a sweep over all numbers -/
theorem itN_skip {α : Type} {f : Nat → α → α} {m : Nat} {X : α} : ∀ n, m ≤ n → (∀ k, m ≤ k → k < n → ∀ Z, f k Z = Z) → itN f n X = itN f m X := by
  intro n
  induction n with
  | zero =>
    intro h _
    have e : m = 0 := by omega
    rw [e]
  | succ n ih =>
    intro h hs
    by_cases e : m = n + 1
    · rw [e]
    · have e1 : itN f (n + 1) X = f n (itN f n X) := rfl
      rw [e1, hs n (by omega) (by omega)]
      exact ih (by omega) (fun k a b => hs k a (by omega))
theorem take1_no {N : Nat} {tw P : Nat → Int} {ot os y : Int} {k : Nat} (h : P (4 * k) ≠ y) (Z : Sim) : take1 N tw P ot os y k Z = Z := by
  unfold take1
  rw [if_neg (fun g => h g.1)]
theorem burn1_no {np : Nat} {tw P B : Nat → Int} {y : Int} {j : Nat} (h : B (2 * j) ≠ y) (Z : Sim) : burn1 np tw P B y j Z = Z := by
  unfold burn1
  rw [if_neg (fun g => h g.1)]
/-- who is not untaken was it before, or is of that year and below m -/
theorem takeN_st {N : Nat} {tw P : Nat → Int} {ot os y : Int} {X : Sim} {k : Nat} : ∀ m, (itN (take1 N tw P ot os y) m X).2.2 k ≠ X.2.2 k → P (4 * k) = y ∧ k < m := by
  intro m
  induction m with
  | zero => intro h; exact absurd rfl h
  | succ m ih =>
    intro h
    have e1 : itN (take1 N tw P ot os y) (m + 1) X = take1 N tw P ot os y m (itN (take1 N tw P ot os y) m X) := rfl
    rw [e1] at h
    by_cases c : (itN (take1 N tw P ot os y) m X).2.2 k = X.2.2 k
    · unfold take1 at h
      split at h
      · next g =>
        by_cases e : k = m
        · rw [e]; exact ⟨g.1, by omega⟩
        · simp only [tak, upf, if_neg e] at h
          exact absurd c h
      · exact absurd c h
    · have := ih c
      exact ⟨this.1, by omega⟩
/-- the place reached: years below y are behind it, the others before it -/
def Nx (n : Nat) (Y q : Nat → Int) (i : Nat) (y : Int) : Prop := i ≤ n ∧ (∀ j, j < i → Y (q j).toNat < y) ∧ (∀ j, i ≤ j → j < n → y ≤ Y (q j).toNat)
/-- within year y: place i, cut m -/
def Cut (n : Nat) (Y q : Nat → Int) (i m : Nat) (y : Int) : Prop := i ≤ n ∧ m ≤ n ∧ (∀ j, j < i → Y (q j).toNat ≤ y ∧ (Y (q j).toNat = y → q j < (m : Int))) ∧ (∀ j, i ≤ j → j < n → y ≤ Y (q j).toNat ∧ (Y (q j).toNat = y → (m : Int) ≤ q j))
theorem Cut_0 {n i : Nat} {Y q : Nat → Int} {y : Int} (hO : Ord n Y q) (h : Nx n Y q i y) : Cut n Y q i 0 y :=
  ⟨h.1, Nat.zero_le _, fun j hj => ⟨by have := h.2.1 j hj; omega, fun e => by have := h.2.1 j hj; omega⟩, fun j a b => ⟨h.2.2 j a b, fun _ => (hO.1 j b).1⟩⟩
theorem Cut_end {n i m : Nat} {Y q : Nat → Int} {y : Int} (hO : Ord n Y q) (h : Cut n Y q i m y) (he : i < n → Y (q i).toNat ≠ y) : Nx n Y q i (y + 1) ∧ (∀ k, m ≤ k → k < n → Y k ≠ y) := by
  obtain ⟨h1, h2, h3, h4⟩ := h
  have hi : ∀ j, i ≤ j → j < n → y + 1 ≤ Y (q j).toNat := by
    intro j a b
    have c0 := h4 i (Nat.le_refl i) (by omega)
    have c1 := he (by omega)
    by_cases e : j = i
    · rw [e]; omega
    · have := hO.2.2 i j (by omega) b
      omega
  refine ⟨⟨h1, fun j hj => by have := (h3 j hj).1; omega, hi⟩, fun k a b e => ?_⟩
  obtain ⟨j, hj, ej⟩ := hO.2.1 k b
  have et : (q j).toNat = k := by omega
  by_cases c : j < i
  · have := (h3 j c).2 (by rw [et]; exact e)
    omega
  · have := hi j (by omega) hj
    rw [et] at this
    omega
theorem Cut_step {n i m k : Nat} {Y q : Nat → Int} {y : Int} (hO : Ord n Y q) (h : Cut n Y q i m y) (hi : i < n) (hk : q i = (k : Int)) (hy : Y k = y) : Cut n Y q (i + 1) (k + 1) y ∧ m ≤ k ∧ k < n ∧ (∀ k', m ≤ k' → k' < k → Y k' ≠ y) := by
  obtain ⟨h1, h2, h3, h4⟩ := h
  have hq := hO.1 i hi
  have ek : (q i).toNat = k := by omega
  have hm := (h4 i (Nat.le_refl i) hi).2 (by rw [ek]; exact hy)
  refine ⟨⟨by omega, by omega, fun j hj => ?_, fun j a b => ?_⟩, by omega, by omega, fun k' a b e => ?_⟩
  · by_cases e : j = i
    · rw [e, ek]; exact ⟨by omega, fun _ => by omega⟩
    · have := h3 j (by omega)
      exact ⟨this.1, fun g => by have := this.2 g; omega⟩
  · have g := hO.2.2 i j (by omega) b
    rw [ek, hy] at g
    exact ⟨by omega, fun e => by omega⟩
  · obtain ⟨j, hj, ej⟩ := hO.2.1 k' (by omega)
    have et : (q j).toNat = k' := by omega
    by_cases c : j < i
    · have := (h3 j c).2 (by rw [et]; exact e)
      omega
    · by_cases c2 : j = i
      · rw [c2] at ej; omega
      · have g := hO.2.2 i j (by omega) hj
        rw [ek, et, hy, e] at g
        omega
