def lotf (dr : Int) : Int := 1103515245 * dr + 12345
def lotv (dr m : Int) : Int := (dr % 4294967296 / 65536) % m
def plate1 (N : Nat) (tw : Nat → Int) (Z : Sim × Int) : Sim × Int := ((sTk tw (lotv (lotf Z.2) N).toNat (lotv (lotf (lotf Z.2)) 9 + 1) Z.1.1, Z.1.2), lotf (lotf Z.2))
def spy1 (w : Nat) (z : Int) (X : Sim) : Sim := (upf X.1 w (X.1 w - lsr z (X.1 w)), X.2)
/-- the modes: other, otherSize, plates, spyYear, spyWho, spyTakes -/
abbrev Mo : Type := Int × Int × Int × Int × Int × Int
def moS (S : Sx) : Mo := (S 44 19, S 44 20, S 44 21, S 44 23, S 44 24, S 44 25)
/-- persons, twins, pictures, burnings -/
abbrev En : Type := Nat × (Nat → Int) × Nat × (Nat → Int) × Nat × (Nat → Int)
def g1 (E : En) (m : Mo) (y : Int) (Z : Sim × Int) : Sim × Int := (takeN E.1 E.2.2.1 E.2.1 E.2.2.2.1 m.1 m.2.1 y Z.1, Z.2)
def g2 (E : En) (m : Mo) (Z : Sim × Int) : Sim × Int := if m.2.2.1 ≠ -1 ∧ 0 < (E.1 : Int) then plate1 E.1 E.2.1 Z else Z
def g3 (m : Mo) (y : Int) (Z : Sim × Int) : Sim × Int := if 0 < m.2.2.2.2.2 ∧ y = m.2.2.2.1 then (spy1 m.2.2.2.2.1.toNat m.2.2.2.2.2 Z.1, Z.2) else Z
def g4 (E : En) (y : Int) (Z : Sim × Int) : Sim × Int := (burnN E.2.2.1 E.2.2.2.2.1 E.2.1 E.2.2.2.1 E.2.2.2.2.2 y Z.1, Z.2)
def goes (E : En) (m : Mo) (y : Int) (Z : Sim × Int) : Sim × Int := g4 E y (g3 m y (g2 E m (g1 E m y Z)))
def X0 (t0 : Nat → Int) : Sim := (t0, fun _ => 0, fun _ => 0)
def liv (E : En) (m : Mo) (t0 : Nat → Int) (dr : Int) (n : Nat) : Sim × Int := itN (fun y Z => goes E m (y : Int) Z) n (X0 t0, dr)
def MoOk (N : Nat) (m : Mo) : Prop := R32 m.2.2.1 ∧ R32 m.2.2.2.1 ∧ (0 ≤ m.2.2.2.2.2 ∧ m.2.2.2.2.2 ≤ 1000) ∧ (0 < m.2.2.2.2.2 → 0 ≤ m.2.2.2.2.1 ∧ m.2.2.2.2.1 ≤ (N : Int) - 1)
def EnOk (E : En) (m : Mo) : Prop := TwOk E.1 E.2.1 ∧ (∀ k, k < E.2.2.1 → 0 ≤ szf E.2.2.2.1 m.1 m.2.1 k ∧ szf E.2.2.2.1 m.1 m.2.1 k ≤ 9) ∧ (∀ j, j < E.2.2.2.2.1 → 0 ≤ E.2.2.2.2.2 (2 * j + 1) ∧ E.2.2.2.2.2 (2 * j + 1) ≤ 11) ∧ E.2.2.2.2.1 ≤ 12
theorem lotv_in (dr : Int) {m : Int} (hm : 0 < m) : 0 ≤ lotv dr m ∧ lotv dr m < m := ⟨Int.emod_nonneg _ (by omega), Int.emod_lt_of_pos _ hm⟩
theorem SB_g1 {E : En} {m : Mo} {b y : Int} {Z : Sim × Int} (hE : EnOk E m) (h : SB E.1 E.2.2.2.1 b Z.1) : SB E.1 E.2.2.2.1 b (g1 E m y Z).1 := SB_takeN hE.1 h _ hE.2.1
theorem SB_g2 {E : En} {m : Mo} {b : Int} {Z : Sim × Int} (h : SB E.1 E.2.2.2.1 b Z.1) : SB E.1 E.2.2.2.1 b (g2 E m Z).1 := by
  unfold g2
  split
  · have h9 := (lotv_in (lotf (lotf Z.2)) (show (0 : Int) < 9 by decide)).1
    exact ⟨SB_sTk h.1 (by omega) _, h.2.1, h.2.2⟩
  · exact h
theorem SB_spy1 {N : Nat} {P : Nat → Int} {b z : Int} {X : Sim} {w : Nat} (hw : w < N) (hz : 0 ≤ z) (h : SB N P b X) : SB N P b (spy1 w z X) := by
  refine ⟨fun p hp => ?_, h.2.1, h.2.2⟩
  have h1 := h.1 p hp
  have h2 := h.1 w hw
  have h3 := lsr_le hz h2.1
  simp only [spy1, upf]
  split
  · next e => subst e; omega
  · exact h1
theorem SB_g3 {E : En} {m : Mo} {b y : Int} {Z : Sim × Int} (hm : MoOk E.1 m) (h : SB E.1 E.2.2.2.1 b Z.1) : SB E.1 E.2.2.2.1 b (g3 m y Z).1 := by
  unfold g3
  split
  · next g =>
    have h1 := hm.2.2.2 g.1
    exact SB_spy1 (by omega) (by omega) h
  · exact h
theorem SB_goes {E : En} {m : Mo} {b y : Int} {Z : Sim × Int} (hE : EnOk E m) (hm : MoOk E.1 m) (h : SB E.1 E.2.2.2.1 b Z.1) : SB E.1 E.2.2.2.1 (b + 108) (goes E m y Z).1 := by
  have h1 := SB_g3 (y := y) hm (SB_g2 (m := m) (SB_g1 (y := y) hE h))
  have h2 := SB_burnN (np := E.2.2.1) (tw := E.2.1) (y := y) h1 E.2.2.2.2.1 hE.2.2.1
  have h3 := hE.2.2.2
  exact SB_w h2 (by omega)
theorem SB_liv {E : En} {m : Mo} {t0 : Nat → Int} {dr : Int} (hE : EnOk E m) (hm : MoOk E.1 m) (ht : ∀ p, p < E.1 → 0 ≤ t0 p ∧ t0 p ≤ 99) : ∀ n : Nat, SB E.1 E.2.2.2.1 (99 + 108 * n) (liv E m t0 dr n).1
  | 0 => ⟨fun p hp => by have := ht p hp; simp only [liv, itN, X0]; omega, fun k _ => ⟨Int.le_refl 0, by simp only [liv, itN, X0]; omega⟩, fun k _ => ⟨Int.le_refl 0, by simp only [liv, itN, X0]; omega, fun h => absurd rfl h⟩⟩
  | n + 1 => SB_w (SB_goes (y := (n : Int)) hE hm (SB_liv hE hm ht n)) (by omega)
def fr4 (S S2 : Sx) : Prop := (∀ c, c ≠ 44 → c ≠ 54 → c ≠ 55 → c ≠ 56 → S2 c = S c) ∧ (∀ k, k ≠ 22 → S2 44 k = S 44 k)
theorem fr4_3 {S S2 : Sx} (h : fr3 S S2) : fr4 S S2 := ⟨fun c _ a b e => h c a b e, fun k _ => by rw [h 44 (by decide) (by decide) (by decide)]⟩
theorem fr4_t {S S1 S2 : Sx} (h1 : fr4 S S1) (h2 : fr4 S1 S2) : fr4 S S2 := ⟨fun c a b e f => by rw [h2.1 c a b e f, h1.1 c a b e f], fun k a => by rw [h2.2 k a, h1.2 k a]⟩
theorem SimC_fr4 {N np nb : Nat} {tw : Nat → Int} {S S' : Sx} (f : fr4 S S') (h : SimC N np nb tw S) : SimC N np nb tw S' := SimC_mv (fun k hk => f.2 k (by omega)) (f.1 50 (by decide) (by decide) (by decide) (by decide)) (f.1 51 (by decide) (by decide) (by decide) (by decide)) (f.1 52 (by decide) (by decide) (by decide) (by decide)) h
theorem moS_fr {S S' : Sx} (f : fr4 S S') : moS S' = moS S := by
  unfold moS
  rw [f.2 19 (by decide), f.2 20 (by decide), f.2 21 (by decide), f.2 23 (by decide), f.2 24 (by decide), f.2 25 (by decide)]
def enS (N np nb : Nat) (tw : Nat → Int) (S : Sx) : En := (N, tw, np, S 51, nb, S 52)
theorem EnOk_of {N np nb : Nat} {tw : Nat → Int} {S : Sx} (h : SimC N np nb tw S) : EnOk (enS N np nb tw S) (moS S) := ⟨h.2.1, fun k hk => szf_9 h hk, fun j hj => (h.2.2.2.2.1 j hj).2, h.1.2.2.2.2.2⟩
theorem enS_fr {N np nb : Nat} {tw : Nat → Int} {S S' : Sx} (f : fr4 S S') : enS N np nb tw S' = enS N np nb tw S := by
  unfold enS
  rw [f.1 51 (by decide) (by decide) (by decide) (by decide), f.1 52 (by decide) (by decide) (by decide) (by decide)]
