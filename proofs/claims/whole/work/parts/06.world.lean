/-- the cells of the world: 0 .. 43 the class, 44 .. 58 the reference -/
def lay : Nat → Ly := fun c => match c with
  | 0 => .inr (10, [.inl 1, .inl 5, .inl 12, .inl 17, .inl 21, .inl 23, .inl 27, .inl 33, .inl 35, .inr false, .inr false])
  | 1 => .inr (4, [.inl 2, .inl 3, .inl 4, .inr false, .inr false, .inr false])
  | 2 => .inl (0, 31, [])
  | 3 => .inl (0, 8, [])
  | 4 => .inl (0, 8, [])
  | 5 => .inr (5, [.inl 6, .inl 9, .inl 10, .inl 11])
  | 6 => .inr (7, [.inl 7, .inl 8, .inr false])
  | 7 => .inl (0, 12, [])
  | 8 => .inl (0, 12, [])
  | 9 => .inl (0, 12, [])
  | 10 => .inl (0, 12, [])
  | 11 => .inl (0, 12, [])
  | 12 => .inr (0, [.inl 13, .inl 16])
  | 13 => .inr (7, [.inl 14, .inl 15, .inr false])
  | 14 => .inl (0, 12, [])
  | 15 => .inl (0, 12, [])
  | 16 => .inl (0, 12, [])
  | 17 => .inr (3, [.inl 1, .inl 5, .inl 12, .inl 18, .inl 19, .inl 20, .inr false, .inr false, .inr false, .inr false, .inr false, .inr false])
  | 18 => .inl (0, 8, [])
  | 19 => .inl (0, 12, [])
  | 20 => .inl (0, 12, [])
  | 21 => .inr (6, [.inl 22, .inr false])
  | 22 => .inl (0, 100, [])
  | 23 => .inr (2, [.inl 24, .inl 25, .inl 26])
  | 24 => .inl (0, 4, [])
  | 25 => .inl (0, 12, [])
  | 26 => .inl (0, 12, [])
  | 27 => .inr (9, [.inl 28, .inl 31, .inl 32])
  | 28 => .inr (7, [.inl 29, .inl 30, .inr false])
  | 29 => .inl (0, 8, [])
  | 30 => .inl (0, 8, [])
  | 31 => .inl (0, 8, [])
  | 32 => .inl (0, 8, [])
  | 33 => .inr (1, [.inl 34, .inr true, .inr true])
  | 34 => .inl (1, 11, [])
  | 35 => .inl (2, 4, [36, 38, 40, 42])
  | 36 => .inr (8, [.inl 37, .inr false, .inr false])
  | 37 => .inl (0, 60, [])
  | 38 => .inr (8, [.inl 39, .inr false, .inr false])
  | 39 => .inl (0, 60, [])
  | 40 => .inr (8, [.inl 41, .inr false, .inr false])
  | 41 => .inl (0, 60, [])
  | 42 => .inr (8, [.inl 43, .inr false, .inr false])
  | 43 => .inl (0, 60, [])
  | 44 => .inr (11, [.inl 45, .inl 46, .inl 47, .inl 48, .inr false, .inl 49, .inr false, .inr false, .inr false, .inl 50, .inr false, .inl 51, .inr false, .inl 52, .inr false, .inl 53, .inl 54, .inl 55, .inl 56, .inr false, .inr false, .inr false, .inr false, .inr false, .inr false, .inr false, .inr false, .inr false, .inl 57, .inr false, .inr false, .inr false, .inl 58])
  | 45 => .inl (0, 4, [])
  | 46 => .inl (0, 4, [])
  | 47 => .inl (0, 240, [])
  | 48 => .inl (0, 60, [])
  | 49 => .inl (0, 31, [])
  | 50 => .inl (0, 16, [])
  | 51 => .inl (0, 48, [])
  | 52 => .inl (0, 24, [])
  | 53 => .inl (0, 4, [])
  | 54 => .inl (0, 8, [])
  | 55 => .inl (0, 24, [])
  | 56 => .inl (0, 12, [])
  | 57 => .inl (0, 12, [])
  | 58 => .inl (0, 24, [])
  | _ => .inl (0, 0, [])
abbrev Sx : Type := Nat → Nat → Int
def fv (Γ : Ev) (z : Int) : Nat ⊕ Bool → Value
  | .inl j => rf Γ j
  | .inr false => vI z
  | .inr true => vL z
def fvs (Γ : Ev) (f : Nat → Int) : Nat → List (Nat ⊕ Bool) → List Value
  | _, [] => []
  | i, k :: ks => fv Γ (f i) k :: fvs Γ f (i + 1) ks
def ce (Γ : Ev) (f : Nat → Int) : Ly → va_E
  | .inr (ci, ks) => .inr (ci, fvs Γ f 0 ks)
  | .inl (0, n, _) => .inl (Γ.2.1, n, .inl (fun j => Int32.ofInt (f j)))
  | .inl (1, n, _) => .inl (Γ.2.2.1, n, .inr (.inl (fun j => Int64.ofInt (f j))))
  | .inl (_, n, ts) => .inl (Γ.2.2.2.1, n, .inr (.inr (.inr (.inr (fun j => (ts[j]?).map Γ.2.2.2.2)))))
def wl (Γ : Ev) (S : Sx) : va_W := (List.range 59).map (fun c => (Γ.2.2.2.2 c, ce Γ (S c) (lay c)))
theorem wl_at {Γ : Ev} {S : Sx} {c : Nat} (h : c < 59) : (wl Γ S)[c]? = some (Γ.2.2.2.2 c, ce Γ (S c) (lay c)) := by
  simp [wl, h]
/-- one place is written -/
def su (S : Sx) (c k : Nat) (z : Int) : Sx := fun c' k' => if c' = c then (if k' = k then z else S c' k') else S c' k'
theorem su_ne (S : Sx) {c k : Nat} {z : Int} {c' : Nat} (h : c' ≠ c) : su S c k z c' = S c' := by
  funext k'
  simp [su, h]
theorem su_at (S : Sx) (c k : Nat) (z : Int) : su S c k z c k = z := by simp [su]
theorem su_nk (S : Sx) (c : Nat) {k k' : Nat} (z : Int) (h : k' ≠ k) : su S c k z c k' = S c k' := by simp [su, h]
theorem su_row (S : Sx) (c k : Nat) (z : Int) (k' : Nat) : su S c k z c k' = if k' = k then z else S c k' := by simp [su]
/-- a row is written -/
def sr (S : Sx) (c : Nat) (f : Nat → Int) : Sx := fun c' => if c' = c then f else S c'
theorem sr_ne (S : Sx) {c : Nat} {f : Nat → Int} {c' : Nat} (h : c' ≠ c) : sr S c f c' = S c' := by simp [sr, h]
theorem sr_at (S : Sx) (c : Nat) (f : Nat → Int) : sr S c f c = f := by simp [sr]
theorem su_sr (S : Sx) (c k : Nat) (z : Int) : su S c k z = sr S c (fun j => if j = k then z else S c j) := by
  funext c' k'
  by_cases h : c' = c
  · subst h; simp [su, sr]
  · simp [su, sr, h]
theorem wl_set {Γ : Ev} {S : Sx} {c : Nat} (h : c < 59) (f : Nat → Int) : (wl Γ S).set c (Γ.2.2.2.2 c, ce Γ f (lay c)) = wl Γ (sr S c f) := by
  apply List.ext_getElem?
  intro i
  rw [List.getElem?_set]
  have hlen : (wl Γ S).length = 59 := by simp [wl]
  by_cases hi : c = i
  · subst hi
    rw [if_pos rfl, if_pos (by rw [hlen]; exact h), wl_at h, sr_at]
  · rw [if_neg hi]
    by_cases h2 : i < 59
    · rw [wl_at h2, wl_at h2, sr_ne S (fun q => hi q.symm)]
    · rw [List.getElem?_eq_none (by rw [hlen]; omega), List.getElem?_eq_none (by simp [wl]; omega)]
theorem fvs_at (Γ : Ev) (f : Nat → Int) : ∀ (ks : List (Nat ⊕ Bool)) (i k : Nat) (q : Nat ⊕ Bool), ks[k]? = some q → (fvs Γ f i ks)[k]? = some (fv Γ (f (i + k)) q)
  | [], i, k, q, h => by simp at h
  | a :: ks, i, 0, q, h => by
    simp only [List.getElem?_cons_zero, Option.some.injEq] at h
    subst h
    simp [fvs]
  | a :: ks, i, k + 1, q, h => by
    simp only [List.getElem?_cons_succ] at h
    have h2 := fvs_at Γ f ks (i + 1) k q h
    simp only [fvs, List.getElem?_cons_succ, h2]
    rw [show i + 1 + k = i + (k + 1) by omega]
theorem fvs_len (Γ : Ev) (f : Nat → Int) : ∀ (ks : List (Nat ⊕ Bool)) (i : Nat), (fvs Γ f i ks).length = ks.length
  | [], i => rfl
  | a :: ks, i => by simp only [fvs, List.length_cons, fvs_len Γ f ks (i + 1)]
theorem fvs_same (Γ : Ev) (f g : Nat → Int) : ∀ (ks : List (Nat ⊕ Bool)) (i : Nat), (∀ j, i ≤ j → f j = g j) → fvs Γ f i ks = fvs Γ g i ks
  | [], i, h => rfl
  | a :: ks, i, h => by
    simp only [fvs, h i (Nat.le_refl i)]
    rw [fvs_same Γ f g ks (i + 1) (fun j hj => h j (by omega))]
theorem fvs_set (Γ : Ev) (f : Nat → Int) (z : Int) : ∀ (ks : List (Nat ⊕ Bool)) (i k : Nat) (b : Bool), ks[k]? = some (.inr b) → (fvs Γ f i ks).set k (fv Γ z (.inr b)) = fvs Γ (fun j => if j = i + k then z else f j) i ks
  | [], i, k, b, h => by simp at h
  | a :: ks, i, 0, b, h => by
    simp only [List.getElem?_cons_zero, Option.some.injEq] at h
    subst h
    simp only [fvs, List.set_cons_zero, Nat.add_zero, if_true]
    rw [fvs_same Γ f (fun j => if j = i then z else f j) ks (i + 1) (fun j hj => (if_neg (show ¬ j = i by omega)).symm)]
  | a :: ks, i, k + 1, b, h => by
    simp only [List.getElem?_cons_succ] at h
    have h2 := fvs_set Γ f z ks (i + 1) k b h
    simp only [fvs, List.set_cons_succ, h2]
    rw [if_neg (by omega), show i + 1 + k = i + (k + 1) by omega]
