/-! which to burn: the reference tries every choice -/
def pc : Nat → Nat → Nat
  | 0, _ => 0
  | f + 1, x => x % 2 + pc f (x / 2)
def popc (x : Nat) : Nat := pc 12 x
theorem popc_all : ∀ a b : Fin 64, 64 * a.val + b.val ≠ 0 → popc ((64 * a.val + b.val) &&& (64 * a.val + b.val - 1)) + 1 = popc (64 * a.val + b.val) ∧ ((64 * a.val + b.val) &&& (64 * a.val + b.val - 1)) < 64 * a.val + b.val := by decide +kernel
theorem popc_step {x : Nat} (h : x < 4096) (h0 : x ≠ 0) : popc (x &&& (x - 1)) + 1 = popc x ∧ (x &&& (x - 1)) < x := by
  have h1 := popc_all ⟨x / 64, by omega⟩ ⟨x % 64, by omega⟩
  have e : 64 * (x / 64) + x % 64 = x := by omega
  simp only [e] at h1
  exact h1 h0
theorem pc_le : ∀ f x, pc f x ≤ f
  | 0, _ => Nat.le_refl 0
  | f + 1, x => by
    have h := pc_le f (x / 2)
    simp only [pc]
    omega
theorem popc_le (x : Nat) : popc x ≤ 12 := pc_le 12 x
def bkt (A : Av) (X : Sim) (p : Int) (k : Nat) : Int := if aP A (4 * k + 1) = p then X.2.1 (2 * k) else if aTw A (aP A (4 * k + 1)).toNat = p then X.2.1 (2 * k + 1) else 0
def wSub (X : Sim) (np x : Nat) : Bool := allB (fun k => !x.testBit k || decide (X.2.2 k = 1)) np
def wIs (A : Av) (X : Sim) (p : Int) (x : Nat) (k : Nat) : Int := X.1 p.toNat + ssm (fun i => if x.testBit i = true then bkt A X p i else 0) k
def wLo (A : Av) (X : Sim) (sp : Int) (x : Nat) (k : Nat) : Int := ssm (fun i => if x.testBit i = true ∧ ¬ aP A (4 * i + 3) = sp then X.2.1 (2 * i) + X.2.1 (2 * i + 1) else 0) k
def wFew (b : Int × Int) (x : Nat) (lo : Int) : Prop := b.1 = -1 ∨ popc x < popc b.1.toNat ∨ (popc x = popc b.1.toNat ∧ lo < b.2)
def w1 (A : Av) (X : Sim) (p wi sp : Int) (x : Nat) (b : Int × Int) : Int × Int := if wSub X (anp A) x = true ∧ wi ≤ wIs A X p x (anp A) ∧ (b.1 = -1 ∨ popc x < popc b.1.toNat ∨ (popc x = popc b.1.toNat ∧ wLo A X sp x (anp A) < b.2)) then ((x : Int), wLo A X sp x (anp A)) else b
def wh (A : Av) (X : Sim) (p wi sp : Int) (n : Nat) : Int × Int := itN (w1 A X p wi sp) n (-1, -1)
def a_wholeOf (A : Av) (y p wi sp w : Int) : Int := if w = 0 then (wh A (lv A (y.toNat + 1)) p wi sp (2 ^ anp A)).1 else (wh A (lv A (y.toNat + 1)) p wi sp (2 ^ anp A)).2
def a_whole (A : Av) (y p wi sp w : Int) : Int := if ¬ (0 ≤ y ∧ y ≤ 29) then -2 else if ¬ (0 ≤ p ∧ p ≤ (aN A : Int) - 1) then -2 else if ¬ (0 ≤ wi ∧ wi ≤ 99) then -2 else if ¬ (-1 ≤ sp ∧ sp ≤ 3) then -2 else if ¬ (0 ≤ w ∧ w ≤ 1) then -2 else a_wholeOf A y p wi sp w
theorem bkt_bd {A : Av} {X : Sim} {b : Int} (hB : SB (aN A) (aP A) b X) {p : Int} {k : Nat} (hk : k < 12) : 0 ≤ bkt A X p k ∧ bkt A X p k ≤ 9 := by
  have h1 := hB.2.1 (2 * k) (by omega)
  have h2 := hB.2.1 (2 * k + 1) (by omega)
  unfold bkt
  (repeat' split) <;> omega
theorem wIs_bd {A : Av} {X : Sim} {b : Int} (hB : SB (aN A) (aP A) b X) {p : Int} (hp : 0 ≤ p ∧ p ≤ (aN A : Int) - 1) (x : Nat) {k : Nat} (hk : k ≤ 12) : 0 ≤ wIs A X p x k ∧ wIs A X p x k ≤ b + 108 := by
  have h1 := hB.1 p.toNat (by omega)
  have h2 := ssm_bd (f := fun i => if x.testBit i = true then bkt A X p i else 0) (b := 9) (n := k) (fun i hi => by
    have h3 := bkt_bd hB (p := p) (k := i) (by omega)
    split <;> omega)
  unfold wIs
  omega
theorem wLo_bd {A : Av} {X : Sim} {b : Int} (hB : SB (aN A) (aP A) b X) (sp : Int) (x : Nat) {k : Nat} (hk : k ≤ 12) : 0 ≤ wLo A X sp x k ∧ wLo A X sp x k ≤ 216 := by
  have h2 := ssm_bd (f := fun i => if x.testBit i = true ∧ ¬ aP A (4 * i + 3) = sp then X.2.1 (2 * i) + X.2.1 (2 * i + 1) else 0) (b := 18) (n := k) (fun i hi => by
    have h3 := hB.2.1 (2 * i) (by omega)
    have h4 := hB.2.1 (2 * i + 1) (by omega)
    split <;> omega)
  unfold wLo
  omega
theorem wh_inv {A : Av} {X : Sim} {b : Int} (hB : SB (aN A) (aP A) b X) (hn : anp A ≤ 12) (p wi sp : Int) : ∀ n, ((wh A X p wi sp n).1 = -1 ∧ (wh A X p wi sp n).2 = -1) ∨ (∃ m : Nat, m < n ∧ (wh A X p wi sp n).1 = (m : Int) ∧ 0 ≤ (wh A X p wi sp n).2 ∧ (wh A X p wi sp n).2 ≤ 216)
  | 0 => Or.inl ⟨rfl, rfl⟩
  | n + 1 => by
    have ih := wh_inv hB hn p wi sp n
    have e : wh A X p wi sp (n + 1) = w1 A X p wi sp n (wh A X p wi sp n) := rfl
    rw [e]
    unfold w1
    split
    · have h := wLo_bd hB sp n hn
      exact Or.inr ⟨n, by omega, rfl, h⟩
    · rcases ih with h | ⟨m, h1, h2⟩
      · exact Or.inl h
      · exact Or.inr ⟨m, by omega, h2⟩
theorem wh_bd {A : Av} {X : Sim} {b : Int} (hB : SB (aN A) (aP A) b X) (hn : anp A ≤ 12) (p wi sp : Int) (n : Nat) : -1 ≤ (wh A X p wi sp n).1 ∧ (wh A X p wi sp n).1 ≤ (n : Int) ∧ -1 ≤ (wh A X p wi sp n).2 ∧ (wh A X p wi sp n).2 ≤ 216 := by
  rcases wh_inv hB hn p wi sp n with ⟨h1, h2⟩ | ⟨m, h1, h2, h3, h4⟩
  · rw [h1, h2]; exact ⟨by omega, by omega, by omega, by omega⟩
  · rw [h2]; exact ⟨by omega, by omega, by omega, by omega⟩
theorem sub_zero {x c m np : Nat} (hx : x < 2 ^ np) (ht : ∀ k, m.testBit k = (x.testBit k && !c.testBit k)) : m = 0 ↔ ∀ k, k < np → x.testBit k = true → c.testBit k = true := by
  constructor
  · intro h k hk h1
    have h2 := ht k
    rw [h, Nat.zero_testBit, h1] at h2
    simpa using h2
  · intro h
    apply Nat.eq_of_testBit_eq
    intro k
    rw [Nat.zero_testBit, ht k]
    by_cases hk : k < np
    · cases hxk : x.testBit k with
      | false => rfl
      | true => rw [h k hk hxk]; rfl
    · have h2 : x.testBit k = false := Nat.testBit_lt_two_pow (Nat.lt_of_lt_of_le hx (Nat.pow_le_pow_right (by decide) (by omega)))
      rw [h2]; rfl
theorem wSub_iff {X : Sim} {np x : Nat} : wSub X np x = true ↔ ∀ k, k < np → x.testBit k = true → (bsm (fun i => decide (X.2.2 i = 1)) np).testBit k = true := by
  unfold wSub
  rw [allB_iff]
  constructor
  · intro h k hk h1
    have h2 := h k hk
    rw [h1] at h2
    rw [bsm_tb]
    simpa [hk] using h2
  · intro h k hk
    cases hxk : x.testBit k with
    | false => rfl
    | true =>
      have h2 := h k hk hxk
      rw [bsm_tb] at h2
      simpa [hk] using h2
theorem pow_12 {np : Nat} (h : np ≤ 12) : 2 ^ np ≤ 4096 := Nat.pow_le_pow_right (by decide) h
