/-! what the calls answer and do, over the reference's own rows -/
theorem su_app (S : Sx) (c k : Nat) (z : Int) (c' k' : Nat) : su S c k z c' k' = if c' = c then (if k' = k then z else S c' k') else S c' k' := rfl
theorem sr_app (S : Sx) (c : Nat) (f : Nat → Int) (c' : Nat) : sr S c f c' = if c' = c then f else S c' := rfl
theorem sr_su (S : Sx) (c : Nat) (f : Nat → Int) (k : Nat) (z : Int) : su (sr S c f) c k z = sr S c (fun j => if j = k then z else f j) := by
  funext c' k'
  by_cases h : c' = c
  · subst h; simp [su, sr]
  · simp [su, sr, h]
theorem sr_self (S : Sx) (c : Nat) : sr S c (S c) = S := by
  funext c'
  by_cases h : c' = c
  · subst h; simp [sr]
  · simp [sr, h]
theorem sr_sr (S : Sx) (c : Nat) (f g : Nat → Int) : sr (sr S c f) c g = sr S c g := by
  funext c'
  by_cases h : c' = c
  · subst h; simp [sr]
  · simp [sr, h]
/-- downwards to the head of a loop -/
theorem loop_up {P : Nat → Prop} (N : Nat) (hx : P N) (hs : ∀ k, k < N → P (k + 1) → P k) : ∀ k, k ≤ N → P k := by
  intro k hk
  have h : ∀ j k, k + j = N → P k := by
    intro j
    induction j with
    | zero => intro k hk; rw [show k = N by omega]; exact hx
    | succ j ih => intro k hk; exact hs k (by omega) (ih (k + 1) (by omega))
  exact h (N - k) k (by omega)
/-- a row's places from a on, n of them, become those of g -/
def fill (f g : Nat → Int) (a n : Nat) : Nat → Int := fun j => if a ≤ j ∧ j < a + n then g (j - a) else f j
theorem fill_0 (f g : Nat → Int) (a : Nat) : fill f g a 0 = f := by
  funext j
  simp only [fill]
  rw [if_neg (by omega)]
theorem fill_s (f g : Nat → Int) (a n : Nat) : (fun j => if j = a + n then g n else fill f g a n j) = fill f g a (n + 1) := by
  funext j
  simp only [fill]
  by_cases h : j = a + n
  · subst h
    rw [if_pos rfl, if_pos (by omega)]
    congr 1
    omega
  · rw [if_neg h]
    by_cases h2 : a ≤ j ∧ j < a + n
    · rw [if_pos h2, if_pos (by omega)]
    · rw [if_neg h2, if_neg (by omega)]
abbrev Qx : Type := Int × Sx
def q_sheet (S : Sx) (s f n : Int) : Qx := if ¬ (0 ≤ s ∧ s ≤ 3) then (-2, S) else if ¬ (0 ≤ f ∧ f ≤ 2) then (-2, S) else if 60 < n then (-2, S) else if n < 0 then (-15, su S 44 4 5) else (n, sr (su (su S 45 s.toNat f) 46 s.toNat n) 47 (fill (S 47) (fun _ => 0) (60 * s).toNat n.toNat))
def q_lose (S : Sx) (s : Int) : Qx := if ¬ (0 ≤ s ∧ s ≤ 3) then (-2, S) else if S 45 s.toNat < 0 then (-11, su S 44 4 1) else (S 46 s.toNat, su S 45 s.toNat (-1))
def q_lacks (S : Sx) (s f i : Int) : Qx := if S 45 s.toNat < 0 then (-11, su S 44 4 1) else if ¬ S 45 s.toNat = f then (-13, su S 44 4 3) else if 0 ≤ i ∧ i ≤ S 46 s.toNat - 1 then (0, S) else (-12, su S 44 4 2)
def cutf (f v : Int) : Int := if f = 0 then zb8 v else if f = 1 then zs16 v else v
def q_lay (S : Sx) (s f i v : Int) : Qx := if ¬ (0 ≤ s ∧ s ≤ 3) then (-2, S) else if ¬ (0 ≤ f ∧ f ≤ 2) then (-2, S) else if S 45 s.toNat < 0 then (-11, su S 44 4 1) else if ¬ S 45 s.toNat = f then (-13, su S 44 4 3) else if 0 ≤ i ∧ i ≤ S 46 s.toNat - 1 then (1, su S 47 (60 * s + i).toNat (cutf f v)) else (-12, su S 44 4 2)
def q_get (S : Sx) (s f i : Int) : Qx := if ¬ (0 ≤ s ∧ s ≤ 3) then (-2147483648, S) else if ¬ (0 ≤ f ∧ f ≤ 2) then (-2147483648, S) else if S 45 s.toNat < 0 then (-2147483648, su S 44 4 1) else if ¬ S 45 s.toNat = f then (-2147483648, su S 44 4 3) else if 0 ≤ i ∧ i ≤ S 46 s.toNat - 1 then (S 47 (60 * s + i).toNat, S) else (-2147483648, su S 44 4 2)
def q_copy (S : Sx) (s i t j n : Int) : Qx := if ¬ (0 ≤ s ∧ s ≤ 3) then (-2, S) else if ¬ (0 ≤ t ∧ t ≤ 3) then (-2, S) else if S 45 s.toNat < 0 then (-11, su S 44 4 1) else if S 45 t.toNat < 0 then (-11, su S 44 4 1) else if ¬ S 45 s.toNat = S 45 t.toNat then (-14, su S 44 4 4) else if i < 0 ∨ j < 0 ∨ n < 0 ∨ S 46 s.toNat < i + n ∨ S 46 t.toNat < j + n then (-12, su S 44 4 2) else (1, sr (sr S 48 (fill (S 48) (fun a => S 47 ((60 * s + i).toNat + a)) 0 n.toNat)) 47 (fill (S 47) (fun a => S 47 ((60 * s + i).toNat + a)) (60 * t + j).toNat n.toNat))
def q_type (S : Sx) (b : Int) : Qx := if ¬ (0 ≤ b ∧ b ≤ 255) then (-2, S) else if S 44 6 = 31 then (-4, S) else (S 44 6 + 1, su (su S 49 (S 44 6).toNat b) 44 6 (S 44 6 + 1))
def q_wipe (S : Sx) : Qx := (S 44 6, su S 44 6 0)
def q_undo (S : Sx) : Qx := if S 44 6 = 0 then (-3, S) else (S 44 6 - 1, su S 44 6 (S 44 6 - 1))
def q_picture (S : Sx) (y p z w : Int) : Qx := if ¬ (0 ≤ y ∧ y ≤ 29) then (-2, S) else if ¬ (0 ≤ p ∧ p ≤ 7) then (-2, S) else if ¬ (1 ≤ z ∧ z ≤ 9) then (-2, S) else if ¬ (0 ≤ w ∧ w ≤ 3) then (-2, S) else if S 44 10 = 12 then (-4, S) else (S 44 10 + 1, su (su (su (su (su S 51 (4 * S 44 10).toNat y) 51 (4 * S 44 10 + 1).toNat p) 51 (4 * S 44 10 + 2).toNat z) 51 (4 * S 44 10 + 3).toNat w) 44 10 (S 44 10 + 1))
def q_burn (S : Sx) (y k : Int) : Qx := if ¬ (0 ≤ y ∧ y ≤ 29) then (-2, S) else if ¬ (0 ≤ k ∧ k ≤ 11) then (-2, S) else if S 44 12 = 12 then (-4, S) else (S 44 12 + 1, su (su (su S 52 (2 * S 44 12).toNat y) 52 (2 * S 44 12 + 1).toNat k) 44 12 (S 44 12 + 1))
def q_back (S : Sx) (w : Int) : Qx := if ¬ (0 ≤ w ∧ w ≤ 1) then (-2, S) else if w = 0 then (if S 44 10 = 0 then (-3, S) else (S 44 10 - 1, su (su S 44 10 (S 44 10 - 1)) 44 12 (S 44 12 - w))) else (if S 44 12 = 0 then (-3, S) else (S 44 12 - 1, su (su S 44 10 (S 44 10 - 0)) 44 12 (S 44 12 - w)))
def q_faint (S : Sx) (v : Int) : Qx := if ¬ (0 ≤ v ∧ v ≤ 99) then (-2, S) else (S 44 14, su S 44 14 v)
def q_want (S : Sx) (w p : Int) : Qx := if ¬ (0 ≤ w ∧ w ≤ 3) then (-2, S) else if ¬ (-1 ≤ p ∧ p ≤ 7) then (-2, S) else (S 53 w.toNat, su S 53 w.toNat p)
def q_seen (S : Sx) (y p v : Int) : Qx := if ¬ (0 ≤ y ∧ y ≤ 29) then (-2, S) else if ¬ (0 ≤ p ∧ p ≤ 7) then (-2, S) else if ¬ (0 ≤ v ∧ v ≤ 99) then (-2, S) else if S 44 31 = 8 then (-4, S) else (S 44 31 + 1, su (su (su (su S 58 (3 * S 44 31).toNat y) 58 (3 * S 44 31 + 1).toNat p) 58 (3 * S 44 31 + 2).toNat v) 44 31 (S 44 31 + 1))
def q_forget (S : Sx) : Qx := (S 44 31, su S 44 31 0)
