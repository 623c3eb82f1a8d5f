/-! what the calls rest on: the view of the rows that stay, and the reference's own order -/
/-- bytes and their number, pictures, burnings, faint, wants, seen -/
abbrev Av : Type := Nat × (Nat → Int) × Nat × (Nat → Int) × Nat × (Nat → Int) × Int × (Nat → Int) × Nat × (Nat → Int)
def av (S : Sx) : Av := ((S 44 6).toNat, S 49, (S 44 10).toNat, S 51, (S 44 12).toNat, S 52, S 44 14, S 53, (S 44 31).toNat, S 58)
def aN (A : Av) : Nat := npl A.1 A.2.1
def aTw (A : Av) : Nat → Int := twn A.1 A.2.1
def a0 (A : Av) : Nat → Int := sol0 A.2.1
def aP (A : Av) : Nat → Int := A.2.2.2.1
def anp (A : Av) : Nat := A.2.2.1
def anb (A : Av) : Nat := A.2.2.2.2.1
def aB (A : Av) : Nat → Int := A.2.2.2.2.2.1
def aF (A : Av) : Int := A.2.2.2.2.2.2.1
def aW (A : Av) : Nat → Int := A.2.2.2.2.2.2.2.1
def ans (A : Av) : Nat := A.2.2.2.2.2.2.2.2.1
def aV (A : Av) : Nat → Int := A.2.2.2.2.2.2.2.2.2
def aE (A : Av) : En := (aN A, aTw A, anp A, aP A, anb A, aB A)
def AvOk (A : Av) : Prop := A.1 ≤ 31 ∧ (∀ j, j < 31 → 0 ≤ A.2.1 j ∧ A.2.1 j ≤ 255) ∧ anp A ≤ 12 ∧ (∀ k, k < anp A → (0 ≤ aP A (4 * k) ∧ aP A (4 * k) ≤ 29) ∧ (0 ≤ aP A (4 * k + 1) ∧ aP A (4 * k + 1) ≤ 7) ∧ (1 ≤ aP A (4 * k + 2) ∧ aP A (4 * k + 2) ≤ 9) ∧ (0 ≤ aP A (4 * k + 3) ∧ aP A (4 * k + 3) ≤ 3)) ∧ anb A ≤ 12 ∧ (∀ j, j < anb A → (0 ≤ aB A (2 * j) ∧ aB A (2 * j) ≤ 29) ∧ (0 ≤ aB A (2 * j + 1) ∧ aB A (2 * j + 1) ≤ 11)) ∧ (0 ≤ aF A ∧ aF A ≤ 99) ∧ (∀ w, w < 4 → -1 ≤ aW A w ∧ aW A w ≤ 7) ∧ ans A ≤ 8 ∧ (∀ j, j < ans A → (0 ≤ aV A (3 * j) ∧ aV A (3 * j) ≤ 29) ∧ (0 ≤ aV A (3 * j + 1) ∧ aV A (3 * j + 1) ≤ 7) ∧ (0 ≤ aV A (3 * j + 2) ∧ aV A (3 * j + 2) ≤ 99))
/-- the reference's own order, between calls -/
def InvM (S : Sx) : Prop := AvOk (av S) ∧ (0 ≤ S 44 6 ∧ 0 ≤ S 44 10 ∧ 0 ≤ S 44 12 ∧ 0 ≤ S 44 31) ∧ ((∀ k, k < 4 → -1 ≤ S 45 k ∧ S 45 k ≤ 2) ∧ (∀ k, k < 4 → 0 ≤ S 46 k ∧ S 46 k ≤ 60) ∧ (∀ k, k < 240 → R32 (S 47 k)) ∧ (0 ≤ S 44 4 ∧ S 44 4 ≤ 5)) ∧ (S 44 19 = -1 ∧ (0 ≤ S 44 20 ∧ S 44 20 ≤ 9) ∧ S 44 21 = -1 ∧ R32 (S 44 23) ∧ S 44 25 = 0)
/-- .. and who is told has been read -/
def RdM (S : Sx) : Prop := InvM S ∧ S 44 8 = (aN (av S) : Int) ∧ (∀ p, p < aN (av S) → S 50 (2 * p) = a0 (av S) p ∧ S 50 (2 * p + 1) = twl (S 49) p)
/-- what a question leaves: the view and the rest, but rows for reckoning -/
def frP (S S2 : Sx) : Prop := (∀ c, c ≠ 44 → c ≠ 54 → c ≠ 55 → c ≠ 56 → c ≠ 57 → S2 c = S c) ∧ (∀ k, (k ≤ 19 ∨ k = 21 ∨ k = 25 ∨ k = 31) → S2 44 k = S 44 k) ∧ (0 ≤ S2 44 20 ∧ S2 44 20 ≤ 9) ∧ R32 (S2 44 23)
def frQ (S S2 : Sx) : Prop := (∀ c, c ≠ 44 → c ≠ 50 → c ≠ 54 → c ≠ 55 → c ≠ 56 → c ≠ 57 → S2 c = S c) ∧ (∀ k, (k ≤ 6 ∨ (9 ≤ k ∧ k ≤ 19) ∨ k = 21 ∨ k = 25 ∨ k = 31) → S2 44 k = S 44 k) ∧ (0 ≤ S2 44 20 ∧ S2 44 20 ≤ 9) ∧ R32 (S2 44 23)
theorem av_frQ {S S2 : Sx} (h : frQ S S2) : av S2 = av S := by
  unfold av
  rw [h.2.1 6 (by omega), h.2.1 10 (by omega), h.2.1 12 (by omega), h.2.1 14 (by omega), h.2.1 31 (by omega), h.1 49 (by decide) (by decide) (by decide) (by decide) (by decide) (by decide), h.1 51 (by decide) (by decide) (by decide) (by decide) (by decide) (by decide), h.1 52 (by decide) (by decide) (by decide) (by decide) (by decide) (by decide), h.1 53 (by decide) (by decide) (by decide) (by decide) (by decide) (by decide), h.1 58 (by decide) (by decide) (by decide) (by decide) (by decide) (by decide)]
theorem frQ_P {S S2 : Sx} (h : frP S S2) : frQ S S2 := ⟨fun c a _ b e f g => h.1 c a b e f g, fun k hk => h.2.1 k (by omega), h.2.2.1, h.2.2.2⟩
theorem av_frP {S S2 : Sx} (h : frP S S2) : av S2 = av S := av_frQ (frQ_P h)
theorem frQ_t {S S1 S2 : Sx} (h1 : frQ S S1) (h2 : frQ S1 S2) : frQ S S2 := ⟨fun c a b e f g i => by rw [h2.1 c a b e f g i, h1.1 c a b e f g i], fun k hk => by rw [h2.2.1 k hk, h1.2.1 k hk], h2.2.2.1, h2.2.2.2⟩
theorem frP_t {S S1 S2 : Sx} (h1 : frP S S1) (h2 : frP S1 S2) : frP S S2 := ⟨fun c a b e f g => by rw [h2.1 c a b e f g, h1.1 c a b e f g], fun k hk => by rw [h2.2.1 k hk, h1.2.1 k hk], h2.2.2.1, h2.2.2.2⟩
theorem InvM_frQ {S S2 : Sx} (hI : InvM S) (h : frQ S S2) : InvM S2 := by
  obtain ⟨i1, i2, i3, i4⟩ := hI
  refine ⟨by rw [av_frQ h]; exact i1, ?_, ?_, ?_⟩
  · rw [h.2.1 6 (by omega), h.2.1 10 (by omega), h.2.1 12 (by omega), h.2.1 31 (by omega)]; exact i2
  · rw [h.2.1 4 (by omega), h.1 45 (by decide) (by decide) (by decide) (by decide) (by decide) (by decide), h.1 46 (by decide) (by decide) (by decide) (by decide) (by decide) (by decide), h.1 47 (by decide) (by decide) (by decide) (by decide) (by decide) (by decide)]; exact i3
  · rw [h.2.1 19 (by omega), h.2.1 21 (by omega), h.2.1 25 (by omega)]
    exact ⟨i4.1, h.2.2.1, i4.2.2.1, h.2.2.2, i4.2.2.2.2⟩
theorem RdM_frP {S S2 : Sx} (hR : RdM S) (h : frP S S2) : RdM S2 := by
  refine ⟨InvM_frQ hR.1 (frQ_P h), ?_, ?_⟩
  · rw [av_frP h, h.2.1 8 (by omega)]; exact hR.2.1
  · rw [av_frP h, h.1 50 (by decide) (by decide) (by decide) (by decide) (by decide), h.1 49 (by decide) (by decide) (by decide) (by decide) (by decide)]; exact hR.2.2
theorem aN_8 {A : Av} (h : AvOk A) : aN A ≤ 8 := npl_le h.1
theorem fbad_well {n : Nat} {t : Nat → Int} (h : npl n t ≠ 0) : (∀ j, j < n → okc j (t j) = true) ∧ npl n t = (n + 1) / 4 ∧ n % 4 = 3 := by
  unfold npl at h ⊢
  by_cases e : flt n t = -1
  · rw [if_pos e] at h ⊢
    unfold flt at e
    have hle := fbad_le t n
    by_cases e1 : fbad t n < n
    · rw [if_pos e1] at e; omega
    · rw [if_neg e1] at e
      by_cases e2 : n = 0 ∨ n % 4 = 3
      · exact ⟨fun j hj => fbad_ok t n j (by omega), rfl, by omega⟩
      · rw [if_neg e2] at e; omega
  · rw [if_neg e] at h; exact absurd rfl h
theorem a0_99 {A : Av} : ∀ p, p < aN A → 0 ≤ a0 A p ∧ a0 A p ≤ 99 := by
  intro p hp
  have hne : npl A.1 A.2.1 ≠ 0 := by unfold aN at hp; omega
  obtain ⟨h1, h2, h3⟩ := fbad_well hne
  unfold aN at hp
  rw [h2] at hp
  have g1 := (okc_0 (show (4 * p) % 4 = 0 by omega)).mp (h1 (4 * p) (by omega))
  have g2 := (okc_1 (show (4 * p + 1) % 4 = 1 by omega)).mp (h1 (4 * p + 1) (by omega))
  unfold a0 sol0
  omega
theorem aTw_ok {A : Av} : TwOk (aN A) (aTw A) := by
  intro p hp
  unfold aTw twn aN
  split
  · next h => exact Or.inr ⟨h.2.1, by omega, h.1⟩
  · exact Or.inl rfl
theorem twl_r {A : Av} (h : AvOk A) : ∀ p, p < aN A → R32 (twl A.2.1 p) := by
  intro p hp
  have h8 := aN_8 h
  have hne : npl A.1 A.2.1 ≠ 0 := by unfold aN at hp; omega
  obtain ⟨h1, h2, h3⟩ := fbad_well hne
  unfold aN at hp
  rw [h2] at hp
  have g2 := (okc_2 (show (4 * p + 2) % 4 = 2 by omega)).mp (h1 (4 * p + 2) (by omega))
  unfold twl
  split <;> omega
theorem rdm_sim {S : Sx} (h : RdM S) : SimC (aN (av S)) (anp (av S)) (anb (av S)) (aTw (av S)) S := by
  obtain ⟨⟨i1, i2, i3, i4⟩, h8, h50⟩ := h
  have e10 : S 44 10 = (anp (av S) : Int) := by show S 44 10 = ((S 44 10).toNat : Int); omega
  have e12 : S 44 12 = (anb (av S) : Int) := by show S 44 12 = ((S 44 12).toNat : Int); omega
  refine ⟨⟨h8, aN_8 i1, e10, i1.2.2.1, e12, i1.2.2.2.2.1⟩, aTw_ok, ?_, i1.2.2.2.1, i1.2.2.2.2.2.1, ?_, i4.2.1⟩
  · intro p hp
    have e : (2 * (p : Int) + 1).toNat = 2 * p + 1 := by omega
    have h5 := (h50 p hp).2
    refine ⟨?_, by rw [e, h5]; exact twl_r i1 p hp⟩
    unfold tw11
    rw [e, h5, h8]
    rfl
  · rw [i4.1]; decide
theorem rdm_mo {S : Sx} (h : RdM S) : MoOk (aN (av S)) (moS S) := by
  have i4 := h.1.2.2.2
  refine ⟨?_, ?_, ?_, ?_⟩
  · show R32 (S 44 21)
    rw [i4.2.2.1]; decide
  · exact i4.2.2.2.1
  · show 0 ≤ S 44 25 ∧ S 44 25 ≤ 1000
    omega
  · show 0 < S 44 25 → _
    intro h9; omega
/-- the years of the view; a picture may have another size (ot, os) -/
def lvs (A : Av) (ot os : Int) (n : Nat) : Sim := itN (fun y X => burnN (anp A) (anb A) (aTw A) (aP A) (aB A) (y : Int) (takeN (aN A) (anp A) (aTw A) (aP A) ot os (y : Int) X)) n (X0 (a0 A))
theorem goes_plain {E : En} {m : Mo} {y : Int} {Z : Sim × Int} (hp : m.2.2.1 = -1) (hs : m.2.2.2.2.2 = 0) : goes E m y Z = (burnN E.2.2.1 E.2.2.2.2.1 E.2.1 E.2.2.2.1 E.2.2.2.2.2 y (takeN E.1 E.2.2.1 E.2.1 E.2.2.2.1 m.1 m.2.1 y Z.1), Z.2) := by
  unfold goes
  rw [g2_n (fun h => h.1 hp), g3_n (fun h => by omega)]
  rfl
theorem liv_plain {A : Av} {m : Mo} {dr : Int} (hp : m.2.2.1 = -1) (hs : m.2.2.2.2.2 = 0) : ∀ n, liv (aE A) m (a0 A) dr n = (lvs A m.1 m.2.1 n, dr)
  | 0 => rfl
  | n + 1 => by
    have ih := liv_plain (A := A) (dr := dr) hp hs n
    show goes (aE A) m (n : Int) (liv (aE A) m (a0 A) dr n) = _
    rw [ih, goes_plain hp hs]
    rfl
theorem szf_m1 (P : Nat → Int) (os os' : Int) (k : Nat) : szf P (-1) os k = szf P (-1) os' k := by
  unfold szf
  rw [if_neg (by omega), if_neg (by omega)]
theorem take1_m1 (N : Nat) (tw P : Nat → Int) (os os' y : Int) (k : Nat) (X : Sim) : take1 N tw P (-1) os y k X = take1 N tw P (-1) os' y k X := by
  unfold take1
  rw [szf_m1 P os os' k]
theorem takeN_m1 (N : Nat) (tw P : Nat → Int) (os os' y : Int) (X : Sim) : ∀ np, takeN N np tw P (-1) os y X = takeN N np tw P (-1) os' y X
  | 0 => rfl
  | np + 1 => by
    have ih := takeN_m1 N tw P os os' y X np
    show take1 N tw P (-1) os y np (takeN N np tw P (-1) os y X) = take1 N tw P (-1) os' y np (takeN N np tw P (-1) os' y X)
    rw [ih, take1_m1 N tw P os os']
theorem lvs_m1 (A : Av) (os os' : Int) : ∀ n, lvs A (-1) os n = lvs A (-1) os' n
  | 0 => rfl
  | n + 1 => by
    have ih := lvs_m1 A os os' n
    show burnN _ _ _ _ _ _ (takeN _ _ _ _ (-1) os _ (lvs A (-1) os n)) = burnN _ _ _ _ _ _ (takeN _ _ _ _ (-1) os' _ (lvs A (-1) os' n))
    rw [ih, takeN_m1 _ _ _ os os']
/-- the years as told -/
def lv (A : Av) (n : Nat) : Sim := lvs A (-1) 0 n
theorem rdm_en {S : Sx} : enS (aN (av S)) (anp (av S)) (anb (av S)) (aTw (av S)) S = aE (av S) := rfl
theorem lv_bd {A : Av} (hA : AvOk A) (ot os : Int) (hz : ∀ k, k < anp A → 0 ≤ szf (aP A) ot os k ∧ szf (aP A) ot os k ≤ 9) (n : Nat) : SB (aN A) (aP A) (99 + 108 * n) (lvs A ot os n) := by
  have h := SB_liv (E := aE A) (m := (ot, os, -1, 0, 0, 0)) (t0 := a0 A) (dr := 0) ⟨aTw_ok, hz, fun j hj => (hA.2.2.2.2.2.1 j hj).2, hA.2.2.2.2.1⟩ ⟨by show R32 (-1); decide, by show R32 0; decide, by show (0 : Int) ≤ 0 ∧ (0 : Int) ≤ 1000; decide, fun h => absurd h (by show ¬ (0 : Int) < 0; decide)⟩ (a0_99 (A := A)) n
  rw [liv_plain rfl rfl] at h
  exact h
theorem lv_bd0 {A : Av} (hA : AvOk A) (n : Nat) : SB (aN A) (aP A) (99 + 108 * n) (lv A n) := lv_bd hA (-1) 0 (fun k hk => by have h := (hA.2.2.2.1 k hk).2.2.1; unfold szf; rw [if_neg (by omega)]; omega) n
