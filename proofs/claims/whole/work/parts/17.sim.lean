/-! the years: solids, what each picture took (2k, 2k + 1), each picture's state (0 not taken, 1 there, 2 burnt) -/
abbrev Sim : Type := (Nat → Int) × (Nat → Int) × (Nat → Int)
def upf (f : Nat → Int) (k : Nat) (v : Int) : Nat → Int := fun j => if j = k then v else f j
def lsr (a b : Int) : Int := if a < b then a else b
def itN {α : Type} (f : Nat → α → α) : Nat → α → α
  | 0, x => x
  | n + 1, x => f n (itN f n x)
def szf (P : Nat → Int) (ot os : Int) (k : Nat) : Int := if (k : Int) = ot then os else P (4 * k + 2)
def sTk (tw : Nat → Int) (p : Nat) (z : Int) (s : Nat → Int) : Nat → Int := fun j => if tw p = (j : Int) then s j - lsr (z / 2) (s j) else if j = p then s j - lsr z (s j) else s j
def bTk (tw : Nat → Int) (p : Nat) (z : Int) (s : Nat → Int) : Int := if tw p = -1 then 0 else lsr (z / 2) (s (tw p).toNat)
def tak (tw : Nat → Int) (p k : Nat) (z : Int) (X : Sim) : Sim := (sTk tw p z X.1, upf (upf X.2.1 (2 * k) (lsr z (X.1 p))) (2 * k + 1) (bTk tw p z X.1), upf X.2.2 k 1)
def sBu (tw : Nat → Int) (p : Nat) (a b : Int) (s : Nat → Int) : Nat → Int := fun j => if tw p = (j : Int) then s j + b else if j = p then s j + a else s j
def bur (tw : Nat → Int) (p k : Nat) (X : Sim) : Sim := (sBu tw p (X.2.1 (2 * k)) (X.2.1 (2 * k + 1)) X.1, X.2.1, upf X.2.2 k 2)
def take1 (N : Nat) (tw P : Nat → Int) (ot os y : Int) (k : Nat) (X : Sim) : Sim := if P (4 * k) = y ∧ (0 ≤ P (4 * k + 1) ∧ P (4 * k + 1) ≤ (N : Int) - 1) ∧ 0 < szf P ot os k then tak tw (P (4 * k + 1)).toNat k (szf P ot os k) X else X
def burn1 (np : Nat) (tw P B : Nat → Int) (y : Int) (j : Nat) (X : Sim) : Sim := if B (2 * j) = y ∧ B (2 * j + 1) < (np : Int) ∧ X.2.2 (B (2 * j + 1)).toNat = 1 then bur tw (P (4 * (B (2 * j + 1)).toNat + 1)).toNat (B (2 * j + 1)).toNat X else X
/-- one's twin is nobody, or another person -/
def TwOk (N : Nat) (tw : Nat → Int) : Prop := ∀ p, p < N → tw p = -1 ∨ (0 ≤ tw p ∧ tw p < (N : Int) ∧ tw p ≠ (p : Int))
def SB (N : Nat) (P : Nat → Int) (b : Int) (X : Sim) : Prop := (∀ p, p < N → 0 ≤ X.1 p ∧ X.1 p ≤ b) ∧ (∀ k, k < 24 → 0 ≤ X.2.1 k ∧ X.2.1 k ≤ 9) ∧ (∀ k, k < 12 → 0 ≤ X.2.2 k ∧ X.2.2 k ≤ 2 ∧ (X.2.2 k ≠ 0 → 0 ≤ P (4 * k + 1) ∧ P (4 * k + 1) ≤ (N : Int) - 1))
theorem lsr_le {a b : Int} (ha : 0 ≤ a) (hb : 0 ≤ b) : 0 ≤ lsr a b ∧ lsr a b ≤ a ∧ lsr a b ≤ b := by
  unfold lsr
  split <;> omega
theorem SB_sTk {N : Nat} {tw : Nat → Int} {b z : Int} {s : Nat → Int} (h : ∀ p, p < N → 0 ≤ s p ∧ s p ≤ b) (hz : 0 ≤ z) (p : Nat) : ∀ j, j < N → 0 ≤ sTk tw p z s j ∧ sTk tw p z s j ≤ b := by
  intro j hj
  have h1 := h j hj
  have h2 := lsr_le hz h1.1
  have h3 := lsr_le (show 0 ≤ z / 2 by omega) h1.1
  unfold sTk
  split
  · omega
  · split <;> omega
theorem SB_bTk {N : Nat} {tw : Nat → Int} {b z : Int} {s : Nat → Int} (hw : TwOk N tw) (h : ∀ p, p < N → 0 ≤ s p ∧ s p ≤ b) (hz : 0 ≤ z) {p : Nat} (hp : p < N) : 0 ≤ bTk tw p z s ∧ bTk tw p z s ≤ z := by
  unfold bTk
  split
  · omega
  · next hn =>
    rcases hw p hp with h1 | h1
    · exact absurd h1 hn
    · have h2 := h (tw p).toNat (by omega)
      have h3 := lsr_le (show 0 ≤ z / 2 by omega) h2.1
      omega
theorem SB_tak {N : Nat} {tw P : Nat → Int} {b z : Int} {X : Sim} (hw : TwOk N tw) (h : SB N P b X) (h0 : 0 ≤ z) (h9 : z ≤ 9) {k : Nat} (hP : 0 ≤ P (4 * k + 1) ∧ P (4 * k + 1) ≤ (N : Int) - 1) : SB N P b (tak tw (P (4 * k + 1)).toNat k z X) := by
  obtain ⟨h1, h2, h3⟩ := h
  have hp : (P (4 * k + 1)).toNat < N := by omega
  refine ⟨SB_sTk h1 h0 _, fun j hj => ?_, fun j hj => ?_⟩
  · have g1 := SB_bTk hw h1 h0 hp
    have g2 := lsr_le h0 (h1 _ hp).1
    have g3 := h2 j hj
    simp only [tak, upf]
    split
    · omega
    · split <;> omega
  · have g3 := h3 j hj
    simp only [tak, upf]
    split
    · next e => subst e; exact ⟨by omega, by omega, fun _ => hP⟩
    · exact g3
theorem SB_bur {N : Nat} {tw P : Nat → Int} {b : Int} {X : Sim} (h : SB N P b X) {k : Nat} (hk : k < 12) (h1 : X.2.2 k = 1) : SB N P (b + 9) (bur tw (P (4 * k + 1)).toNat k X) := by
  obtain ⟨g1, g2, g3⟩ := h
  refine ⟨fun j hj => ?_, g2, fun j hj => ?_⟩
  · have a1 := g1 j hj
    have a2 := g2 (2 * k) (by omega)
    have a3 := g2 (2 * k + 1) (by omega)
    simp only [bur, sBu]
    split
    · omega
    · split <;> omega
  · have a1 := g3 j hj
    simp only [bur, upf]
    split
    · next e => subst e; exact ⟨by omega, by omega, fun _ => a1.2.2 (by omega)⟩
    · exact a1
theorem SB_w {N : Nat} {P : Nat → Int} {b c : Int} {X : Sim} (h : SB N P b X) (hc : b ≤ c) : SB N P c X := ⟨fun p hp => ⟨(h.1 p hp).1, by have := (h.1 p hp).2; omega⟩, h.2.1, h.2.2⟩
theorem SB_take1 {N : Nat} {tw P : Nat → Int} {b ot os y : Int} {X : Sim} (hw : TwOk N tw) (h : SB N P b X) {k : Nat} (hz : 0 ≤ szf P ot os k ∧ szf P ot os k ≤ 9) : SB N P b (take1 N tw P ot os y k X) := by
  unfold take1
  split
  · next g => exact SB_tak hw h hz.1 hz.2 g.2.1
  · exact h
theorem SB_burn1 {N np : Nat} {tw P B : Nat → Int} {b y : Int} {X : Sim} (h : SB N P b X) {j : Nat} (hB : 0 ≤ B (2 * j + 1) ∧ B (2 * j + 1) ≤ 11) : SB N P (b + 9) (burn1 np tw P B y j X) := by
  unfold burn1
  split
  · next g => exact SB_bur h (by omega) g.2.2
  · exact SB_w h (by omega)
def takeN (N np : Nat) (tw P : Nat → Int) (ot os y : Int) (X : Sim) : Sim := itN (take1 N tw P ot os y) np X
def burnN (np nb : Nat) (tw P B : Nat → Int) (y : Int) (X : Sim) : Sim := itN (burn1 np tw P B y) nb X
theorem SB_takeN {N : Nat} {tw P : Nat → Int} {b ot os y : Int} {X : Sim} (hw : TwOk N tw) (h : SB N P b X) : ∀ np, (∀ k, k < np → 0 ≤ szf P ot os k ∧ szf P ot os k ≤ 9) → SB N P b (itN (take1 N tw P ot os y) np X)
  | 0, _ => h
  | np + 1, hz => SB_take1 hw (SB_takeN hw h np (fun k hk => hz k (by omega))) (hz np (by omega))
theorem SB_burnN {N np : Nat} {tw P B : Nat → Int} {b y : Int} {X : Sim} (h : SB N P b X) : ∀ nb : Nat, (∀ j, j < nb → 0 ≤ B (2 * j + 1) ∧ B (2 * j + 1) ≤ 11) → SB N P (b + 9 * nb) (itN (burn1 np tw P B y) nb X)
  | 0, _ => SB_w h (by omega)
  | nb + 1, hz => SB_w (SB_burn1 (SB_burnN h nb (fun k hk => hz k (by omega))) (hz nb (by omega))) (by omega)
/-- the reference's rows hold it -/
def MSim (N : Nat) (X : Sim) (S : Sx) : Prop := (∀ p, p < N → S 54 p = X.1 p) ∧ (∀ k, k < 24 → S 55 k = X.2.1 k) ∧ (∀ k, k < 12 → S 56 k = X.2.2 k)
/-- what the years rest on, in the reference's rows -/
def SimC (N np nb : Nat) (tw : Nat → Int) (S : Sx) : Prop := (S 44 8 = N ∧ N ≤ 8 ∧ S 44 10 = np ∧ np ≤ 12 ∧ S 44 12 = nb ∧ nb ≤ 12) ∧ TwOk N tw ∧ (∀ p, p < N → tw11 S (p : Int) = tw p ∧ R32 (S 50 (2 * (p : Int) + 1).toNat)) ∧ (∀ k, k < np → (0 ≤ S 51 (4 * k) ∧ S 51 (4 * k) ≤ 29) ∧ (0 ≤ S 51 (4 * k + 1) ∧ S 51 (4 * k + 1) ≤ 7) ∧ (1 ≤ S 51 (4 * k + 2) ∧ S 51 (4 * k + 2) ≤ 9) ∧ (0 ≤ S 51 (4 * k + 3) ∧ S 51 (4 * k + 3) ≤ 3)) ∧ (∀ j, j < nb → (0 ≤ S 52 (2 * j) ∧ S 52 (2 * j) ≤ 29) ∧ (0 ≤ S 52 (2 * j + 1) ∧ S 52 (2 * j + 1) ≤ 11)) ∧ R32 (S 44 19) ∧ (0 ≤ S 44 20 ∧ S 44 20 ≤ 9)
theorem SimC_mv {N np nb : Nat} {tw : Nat → Int} {S S' : Sx} (h44 : ∀ k, k < 22 → S' 44 k = S 44 k) (h50 : S' 50 = S 50) (h51 : S' 51 = S 51) (h52 : S' 52 = S 52) (h : SimC N np nb tw S) : SimC N np nb tw S' := by
  have e : ∀ p : Int, tw11 S' p = tw11 S p := fun p => by unfold tw11; rw [h50, h44 8 (by decide)]
  unfold SimC at h ⊢
  rw [h44 8 (by decide), h44 10 (by decide), h44 12 (by decide), h44 19 (by decide), h44 20 (by decide), h50, h51, h52]
  simp only [e]
  exact h
theorem szf_9 {N np nb : Nat} {tw : Nat → Int} {S : Sx} (h : SimC N np nb tw S) {k : Nat} (hk : k < np) : 0 ≤ szf (S 51) (S 44 19) (S 44 20) k ∧ szf (S 51) (S 44 19) (S 44 20) k ≤ 9 := by
  have h1 := (h.2.2.2.1 k hk).2.2.1
  have h2 := h.2.2.2.2.2.2
  unfold szf
  split <;> omega
