/-! which to burn: the class reckons with prices -/
theorem ssm_sh (f : Nat → Int) : ∀ n, ssm f (n + 1) = f 0 + ssm (fun i => f (i + 1)) n
  | 0 => by simp only [ssm]; omega
  | n + 1 => by
    have ih := ssm_sh f n
    have e1 : ssm f (n + 1 + 1) = ssm f (n + 1) + f (n + 1) := rfl
    have e2 : ssm (fun i => f (i + 1)) (n + 1) = ssm (fun i => f (i + 1)) n + f (n + 1) := rfl
    rw [e1, e2, ih]
    omega
theorem ssm_cut {f : Nat → Int} {n : Nat} : ∀ m, n ≤ m → (∀ i, n ≤ i → i < m → f i = 0) → ssm f m = ssm f n
  | 0, h, _ => by rw [show n = 0 by omega]
  | m + 1, h, hz => by
    by_cases e : n = m + 1
    · rw [e]
    · have ih := ssm_cut (f := f) (n := n) m (by omega) (fun i a b => hz i a (by omega))
      have e1 : ssm f (m + 1) = ssm f m + f m := rfl
      rw [e1, ih, hz m (by omega) (by omega)]
      omega
theorem pc_ssm : ∀ f x, (pc f x : Int) = ssm (fun i => if x.testBit i = true then 1 else 0) f
  | 0, x => rfl
  | f + 1, x => by
    have ih := pc_ssm f (x / 2)
    have e : ssm (fun i => if x.testBit (i + 1) = true then (1 : Int) else 0) f = ssm (fun i => if (x / 2).testBit i = true then 1 else 0) f := ssm_cong (fun k _ => by rw [Nat.testBit_succ])
    have h0 : (if x.testBit 0 = true then (1 : Int) else 0) = ((x % 2 : Nat) : Int) := by
      rw [Nat.testBit_zero]
      rcases Nat.mod_two_eq_zero_or_one x with h | h <;> simp [h]
    have e2 : pc (f + 1) x = x % 2 + pc f (x / 2) := rfl
    rw [ssm_sh, h0, e, ← ih, e2]
    omega
theorem bs_ssm (c : Nat → Bool) : ∀ n, (bsm c n : Int) = ssm (fun i => if c i = true then ((2 ^ i : Nat) : Int) else 0) n
  | 0 => rfl
  | n + 1 => by
    have ih := bs_ssm c n
    simp only [bsm, ssm]
    rw [← ih]
    split <;> omega
theorem bs_self {x n : Nat} (h : x < 2 ^ n) : x = bsm (fun i => x.testBit i) n := by
  apply bsm_eq
  intro k
  by_cases hk : k < n
  · simp [hk]
  · have h2 : x.testBit k = false := Nat.testBit_lt_two_pow (Nat.lt_of_lt_of_le h (Nat.pow_le_pow_right (by decide) (by omega)))
    simp [hk, h2]
def cst (A : Av) (X : Sim) (sp : Int) (i : Nat) : Int := 1048576 + (if aP A (4 * i + 3) = sp then 0 else X.2.1 (2 * i) + X.2.1 (2 * i + 1)) * 4096 + ((2 ^ i : Nat) : Int)
def prc (A : Av) (X : Sim) (sp : Int) (k x : Nat) : Int := ssm (fun i => if x.testBit i = true then cst A X sp i else 0) k
def gft (A : Av) (X : Sim) (p : Int) (k x : Nat) : Int := ssm (fun i => if x.testBit i = true then bkt A X p i else 0) k
def sbs (X : Sim) (k x : Nat) : Prop := x < 2 ^ k ∧ ∀ i, i < k → x.testBit i = true → X.2.2 i = 1
def DPk (A : Av) (X : Sim) (p sp : Int) (k : Nat) (f : Nat → Int) : Prop := ∀ w : Nat, w ≤ 99 → (∀ x, sbs X k x → (w : Int) ≤ gft A X p k x → f w ≤ prc A X sp k x) ∧ (f w = 268435456 ∨ ∃ x, sbs X k x ∧ (w : Int) ≤ gft A X p k x ∧ f w = prc A X sp k x)
theorem cst_bd {A : Av} {X : Sim} {b : Int} (hB : SB (aN A) (aP A) b X) (sp : Int) {i : Nat} (hi : i < 12) : 0 ≤ cst A X sp i ∧ cst A X sp i ≤ 1126400 := by
  have h1 := hB.2.1 (2 * i) (by omega)
  have h2 := hB.2.1 (2 * i + 1) (by omega)
  have h3 : 2 ^ i ≤ 2 ^ 11 := Nat.pow_le_pow_right (by decide) (by omega)
  unfold cst
  generalize 2 ^ i = q at *
  split <;> omega
theorem prc_bd {A : Av} {X : Sim} {b : Int} (hB : SB (aN A) (aP A) b X) (sp : Int) {k : Nat} (hk : k ≤ 12) (x : Nat) : 0 ≤ prc A X sp k x ∧ prc A X sp k x ≤ 13516800 := by
  have h := ssm_bd (f := fun i => if x.testBit i = true then cst A X sp i else 0) (b := 1126400) (n := k) (fun i hi => by
    have h1 := cst_bd hB sp (i := i) (by omega)
    split <;> omega)
  unfold prc
  omega
theorem sbs_up {X : Sim} {k x : Nat} (h : sbs X k x) : sbs X (k + 1) x := by
  have h2 : 2 ^ (k + 1) = 2 ^ k + 2 ^ k := by rw [Nat.pow_succ]; omega
  refine ⟨by have := h.1; omega, fun i hi ht => ?_⟩
  by_cases e : i = k
  · rw [e, Nat.testBit_lt_two_pow h.1] at ht
    cases ht
  · exact h.2 i (by omega) ht
theorem up_0 {A : Av} {X : Sim} {p sp : Int} {k x : Nat} (h : x.testBit k = false) : gft A X p (k + 1) x = gft A X p k x ∧ prc A X sp (k + 1) x = prc A X sp k x := by
  unfold gft prc
  simp only [ssm, h]
  constructor <;> simp
theorem sbs_lo {X : Sim} {k x : Nat} (h : sbs X (k + 1) x) (h0 : x.testBit k = false) : sbs X k x := by
  refine ⟨Nat.lt_pow_two_of_testBit x (fun i hi => ?_), fun i hi => h.2 i (by omega)⟩
  by_cases e : i = k
  · rw [e]; exact h0
  · exact Nat.testBit_lt_two_pow (Nat.lt_of_lt_of_le h.1 (Nat.pow_le_pow_right (by decide) (by omega)))
/-- a choice with picture k is one without it, and k -/
theorem sbs_hi {A : Av} {X : Sim} (p sp : Int) {k x : Nat} (h : sbs X (k + 1) x) (h1 : x.testBit k = true) : ∃ z, sbs X k z ∧ gft A X p (k + 1) x = gft A X p k z + bkt A X p k ∧ prc A X sp (k + 1) x = prc A X sp k z + cst A X sp k := by
  have h2 : 2 ^ (k + 1) = 2 ^ k + 2 ^ k := by rw [Nat.pow_succ]; omega
  have hge := Nat.ge_two_pow_of_testBit h1
  have hx := h.1
  have e : x = 2 ^ k + (x - 2 ^ k) := by omega
  have ht : ∀ i, i < k → x.testBit i = (x - 2 ^ k).testBit i := fun i hi => by
    have := Nat.testBit_two_pow_add_gt hi (x - 2 ^ k)
    rw [← e] at this
    exact this
  refine ⟨x - 2 ^ k, ⟨by omega, fun i hi g => h.2 i (by omega) (by rw [ht i hi]; exact g)⟩, ?_, ?_⟩
  · unfold gft
    simp only [ssm, h1, if_true]
    congr 1
    exact ssm_cong (fun i hi => by rw [ht i hi])
  · unfold prc
    simp only [ssm, h1, if_true]
    congr 1
    exact ssm_cong (fun i hi => by rw [ht i hi])
theorem sbs_with {A : Av} {X : Sim} (p sp : Int) {k z : Nat} (h : sbs X k z) (h1 : X.2.2 k = 1) : ∃ x, sbs X (k + 1) x ∧ gft A X p (k + 1) x = gft A X p k z + bkt A X p k ∧ prc A X sp (k + 1) x = prc A X sp k z + cst A X sp k := by
  have h2 : 2 ^ (k + 1) = 2 ^ k + 2 ^ k := by rw [Nat.pow_succ]; omega
  have hz := h.1
  have ht : ∀ i, i < k → (2 ^ k + z).testBit i = z.testBit i := fun i hi => Nat.testBit_two_pow_add_gt hi z
  have hk : (2 ^ k + z).testBit k = true := by rw [Nat.testBit_two_pow_add_eq, Nat.testBit_lt_two_pow hz]; rfl
  refine ⟨2 ^ k + z, ⟨by omega, fun i hi g => ?_⟩, ?_, ?_⟩
  · by_cases e : i = k
    · rw [e]; exact h1
    · rw [ht i (by omega)] at g
      exact h.2 i (by omega) g
  · unfold gft
    simp only [ssm, hk, if_true]
    congr 1
    exact ssm_cong (fun i hi => by rw [ht i hi])
  · unfold prc
    simp only [ssm, hk, if_true]
    congr 1
    exact ssm_cong (fun i hi => by rw [ht i hi])
theorem DP_cong {A : Av} {X : Sim} {p sp : Int} {k : Nat} {f g : Nat → Int} (h : DPk A X p sp k f) (e : ∀ w, w ≤ 99 → g w = f w) : DPk A X p sp k g := by
  intro w hw
  rw [e w hw]
  exact h w hw
theorem DP_0 {A : Av} {X : Sim} {p sp : Int} {f : Nat → Int} (h0 : f 0 = 0) (h1 : ∀ w, 0 < w → w ≤ 99 → f w = 268435456) : DPk A X p sp 0 f := by
  intro w hw
  have z0 : sbs X 0 0 := ⟨by decide, fun i hi => absurd hi (by omega)⟩
  refine ⟨fun x _ hg => ?_, ?_⟩
  · have e1 : gft A X p 0 x = 0 := rfl
    have e2 : prc A X sp 0 x = 0 := rfl
    rw [e2]
    have e : w = 0 := by omega
    rw [e, h0]
    omega
  · by_cases e : w = 0
    · refine Or.inr ⟨0, z0, ?_, ?_⟩
      · show (w : Int) ≤ 0
        omega
      · rw [e, h0]; rfl
    · exact Or.inl (h1 w (by omega) hw)
theorem DP_skip {A : Av} {X : Sim} {p sp : Int} {k : Nat} {f : Nat → Int} (h : DPk A X p sp k f) (hn : X.2.2 k ≠ 1) : DPk A X p sp (k + 1) f := by
  intro w hw
  obtain ⟨g1, g2⟩ := h w hw
  refine ⟨fun x hx hg => ?_, ?_⟩
  · have h0 : x.testBit k = false := by
      cases c : x.testBit k with
      | false => rfl
      | true => exact absurd (hx.2 k (by omega) c) hn
    have e := up_0 (A := A) (X := X) (p := p) (sp := sp) h0
    rw [e.2]
    exact g1 x (sbs_lo hx h0) (by rw [← e.1]; exact hg)
  · rcases g2 with g | ⟨x, a1, a2, a3⟩
    · exact Or.inl g
    · have h0 : x.testBit k = false := Nat.testBit_lt_two_pow a1.1
      have e := up_0 (A := A) (X := X) (p := p) (sp := sp) h0
      exact Or.inr ⟨x, sbs_up a1, by rw [e.1]; exact a2, by rw [e.2]; exact a3⟩
theorem DP_none {A : Av} {X : Sim} {p sp : Int} {k : Nat} {f : Nat → Int} (h : DPk A X p sp k f) (hg0 : bkt A X p k ≤ 0) (hc : 0 ≤ cst A X sp k) : DPk A X p sp (k + 1) f := by
  intro w hw
  obtain ⟨g1, g2⟩ := h w hw
  refine ⟨fun x hx hg => ?_, ?_⟩
  · cases c : x.testBit k with
    | false =>
      have e := up_0 (A := A) (X := X) (p := p) (sp := sp) c
      rw [e.2]
      exact g1 x (sbs_lo hx c) (by rw [← e.1]; exact hg)
    | true =>
      obtain ⟨z, a1, a2, a3⟩ := sbs_hi (A := A) p sp hx c
      have := g1 z a1 (by omega)
      omega
  · rcases g2 with g | ⟨x, a1, a2, a3⟩
    · exact Or.inl g
    · have h0 : x.testBit k = false := Nat.testBit_lt_two_pow a1.1
      have e := up_0 (A := A) (X := X) (p := p) (sp := sp) h0
      exact Or.inr ⟨x, sbs_up a1, by rw [e.1]; exact a2, by rw [e.2]; exact a3⟩
def ofr (f : Nat → Int) (g c : Int) : Nat → Int := fun w => if 0 < w ∧ w ≤ 99 then lsr (f w) (f (w - g.toNat) + c) else f w
theorem DP_take {A : Av} {X : Sim} {p sp : Int} {k : Nat} {f : Nat → Int} {b : Int} (hB : SB (aN A) (aP A) b X) (hk : k < 12) (h : DPk A X p sp k f) (h1 : X.2.2 k = 1) (hg0 : 0 < bkt A X p k) : DPk A X p sp (k + 1) (ofr f (bkt A X p k) (cst A X sp k)) := by
  have hc := cst_bd hB sp hk
  have hgz : ∀ z, 0 ≤ gft A X p k z := fun z => by
    have := ssm_bd (f := fun i => if z.testBit i = true then bkt A X p i else 0) (b := 9) (n := k) (fun i hi => by
      have h3 := bkt_bd hB (p := p) (k := i) (by omega)
      split <;> omega)
    exact this.1
  intro w hw
  obtain ⟨g1, g2⟩ := h w hw
  by_cases w0 : 0 < w
  · have e0 : ofr f (bkt A X p k) (cst A X sp k) w = lsr (f w) (f (w - (bkt A X p k).toNat) + cst A X sp k) := by
      unfold ofr
      rw [if_pos ⟨w0, hw⟩]
    rw [e0]
    obtain ⟨r1, r2⟩ := h (w - (bkt A X p k).toNat) (by omega)
    refine ⟨fun x hx hg => ?_, ?_⟩
    · cases c : x.testBit k with
      | false =>
        have e := up_0 (A := A) (X := X) (p := p) (sp := sp) c
        rw [e.2]
        have := g1 x (sbs_lo hx c) (by rw [← e.1]; exact hg)
        unfold lsr
        split <;> omega
      | true =>
        obtain ⟨z, a1, a2, a3⟩ := sbs_hi (A := A) p sp hx c
        have hz := hgz z
        have := r1 z a1 (by omega)
        unfold lsr
        split <;> omega
    · unfold lsr
      split
      · rcases g2 with g | ⟨x, a1, a2, a3⟩
        · exact Or.inl g
        · have h0 : x.testBit k = false := Nat.testBit_lt_two_pow a1.1
          have e := up_0 (A := A) (X := X) (p := p) (sp := sp) h0
          exact Or.inr ⟨x, sbs_up a1, by rw [e.1]; exact a2, by rw [e.2]; exact a3⟩
      · next hlt =>
        rcases r2 with r | ⟨z, a1, a2, a3⟩
        · exfalso
          rcases g2 with g | ⟨x, b1, b2, b3⟩
          · rw [g, r] at hlt
            have hp : 0 < cst A X sp k := by
              have h3 : 0 ≤ X.2.1 (2 * k) := (hB.2.1 (2 * k) (by omega)).1
              have h4 : 0 ≤ X.2.1 (2 * k + 1) := (hB.2.1 (2 * k + 1) (by omega)).1
              have h5 : (0 : Int) ≤ ((2 ^ k : Nat) : Int) := Int.natCast_nonneg _
              unfold cst
              generalize ((2 ^ k : Nat) : Int) = q at *
              split <;> omega
            omega
          · have := prc_bd hB sp (k := k) (by omega) x
            rw [r] at hlt
            omega
        · obtain ⟨x, c1, c2, c3⟩ := sbs_with (A := A) p sp a1 h1
          exact Or.inr ⟨x, c1, by omega, by omega⟩
  · have e0 : ofr f (bkt A X p k) (cst A X sp k) w = f w := by
      unfold ofr
      rw [if_neg (fun q => w0 q.1)]
    rw [e0]
    have ew : w = 0 := by omega
    refine ⟨fun x hx hg => ?_, ?_⟩
    · have z0 : sbs X k 0 := ⟨Nat.two_pow_pos k, fun i _ g => by rw [Nat.zero_testBit] at g; cases g⟩
      have e1 : prc A X sp k 0 = 0 := by
        unfold prc
        rw [ssm_cut (n := 0) k (by omega) (fun i _ _ => by rw [Nat.zero_testBit]; rfl)]
        rfl
      have := g1 0 z0 (by have := hgz 0; omega)
      have h3 := prc_bd hB sp (k := k + 1) (by omega) x
      omega
    · rcases g2 with g | ⟨x, a1, a2, a3⟩
      · exact Or.inl g
      · have h0 : x.testBit k = false := Nat.testBit_lt_two_pow a1.1
        have e := up_0 (A := A) (X := X) (p := p) (sp := sp) h0
        exact Or.inr ⟨x, sbs_up a1, by rw [e.1]; exact a2, by rw [e.2]; exact a3⟩
theorem DP_r {A : Av} {X : Sim} {p sp : Int} {k : Nat} {f : Nat → Int} {b : Int} (hB : SB (aN A) (aP A) b X) (hk : k ≤ 12) (h : DPk A X p sp k f) : ∀ w, w ≤ 99 → 0 ≤ f w ∧ f w ≤ 268435456 := by
  intro w hw
  rcases (h w hw).2 with g | ⟨x, a1, a2, a3⟩
  · omega
  · have := prc_bd hB sp hk x
    omega
/-- a price is how many, what is lost, the bits -/
theorem prc_is (A : Av) (X : Sim) (sp : Int) (x : Nat) : ∀ k, prc A X sp k x = 1048576 * ssm (fun i => if x.testBit i = true then 1 else 0) k + 4096 * wLo A X sp x k + ssm (fun i => if x.testBit i = true then ((2 ^ i : Nat) : Int) else 0) k
  | 0 => rfl
  | k + 1 => by
    have ih := prc_is A X sp x k
    unfold prc wLo at ih ⊢
    simp only [ssm]
    rw [ih]
    generalize ssm (fun i => if x.testBit i = true then (1 : Int) else 0) k = q1
    generalize ssm (fun i => if x.testBit i = true ∧ ¬ aP A (4 * i + 3) = sp then X.2.1 (2 * i) + X.2.1 (2 * i + 1) else 0) k = q2
    generalize ssm (fun i => if x.testBit i = true then ((2 ^ i : Nat) : Int) else 0) k = q3
    unfold cst
    generalize ((2 ^ k : Nat) : Int) = q4
    cases c : x.testBit k with
    | false => simp
    | true =>
      by_cases e : aP A (4 * k + 3) = sp
      · simp [e]; omega
      · simp [e]; omega
theorem prc_12 (A : Av) (X : Sim) (sp : Int) {x : Nat} (hx : x < 4096) : prc A X sp 12 x = 1048576 * (popc x : Int) + 4096 * wLo A X sp x 12 + (x : Int) := by
  have h1 := pc_ssm 12 x
  have h2 := bs_ssm (fun i => x.testBit i) 12
  rw [← bs_self (show x < 2 ^ 12 from hx)] at h2
  rw [prc_is, ← h1, ← h2]
  rfl
def vld (A : Av) (X : Sim) (p wi : Int) (x : Nat) : Prop := wSub X (anp A) x = true ∧ wi ≤ wIs A X p x (anp A)
def kyw (A : Av) (X : Sim) (sp : Int) (x : Nat) : Int := 1048576 * (popc x : Int) + 4096 * wLo A X sp x (anp A) + (x : Int)
theorem wh_min {A : Av} {X : Sim} {b : Int} (hB : SB (aN A) (aP A) b X) (hn : anp A ≤ 12) (p wi sp : Int) : ∀ n, n ≤ 4096 → ((wh A X p wi sp n = (-1, -1)) ∧ ∀ x, x < n → ¬ vld A X p wi x) ∨ (∃ m : Nat, m < n ∧ vld A X p wi m ∧ wh A X p wi sp n = ((m : Int), wLo A X sp m (anp A)) ∧ ∀ x, x < n → vld A X p wi x → kyw A X sp m ≤ kyw A X sp x)
  | 0, _ => Or.inl ⟨rfl, fun x hx => absurd hx (by omega)⟩
  | n + 1, h4 => by
    have ih := wh_min hB hn p wi sp n (by omega)
    have e : wh A X p wi sp (n + 1) = w1 A X p wi sp n (wh A X p wi sp n) := rfl
    have ln := wLo_bd hB sp n hn
    rcases ih with ⟨i1, i2⟩ | ⟨m, i1, i2, i3, i4⟩
    · rw [e, i1]
      unfold w1
      by_cases c : vld A X p wi n
      · rw [if_pos ⟨c.1, c.2, Or.inl rfl⟩]
        refine Or.inr ⟨n, by omega, c, rfl, fun x hx hv => ?_⟩
        by_cases ex : x = n
        · rw [ex]; omega
        · exact absurd hv (i2 x (by omega))
      · rw [if_neg (fun g => c ⟨g.1, g.2.1⟩)]
        refine Or.inl ⟨rfl, fun x hx => ?_⟩
        by_cases ex : x = n
        · rw [ex]; exact c
        · exact i2 x (by omega)
    · rw [e, i3]
      have lm := wLo_bd hB sp m hn
      have em : ((m : Int)).toNat = m := rfl
      unfold w1
      by_cases c : vld A X p wi n
      · by_cases c2 : popc n < popc m ∨ (popc n = popc m ∧ wLo A X sp n (anp A) < wLo A X sp m (anp A))
        · rw [if_pos ⟨c.1, c.2, Or.inr c2⟩]
          refine Or.inr ⟨n, by omega, c, rfl, fun x hx hv => ?_⟩
          by_cases ex : x = n
          · rw [ex]; omega
          · have := i4 x (by omega) hv
            have k2 : kyw A X sp n ≤ kyw A X sp m := by unfold kyw; omega
            omega
        · rw [if_neg (fun g => by
            rcases g.2.2 with g1 | g1
            · simp only at g1; omega
            · exact c2 g1)]
          refine Or.inr ⟨m, by omega, i2, rfl, fun x hx hv => ?_⟩
          by_cases ex : x = n
          · rw [ex]; unfold kyw; omega
          · exact i4 x (by omega) hv
      · rw [if_neg (fun g => c ⟨g.1, g.2.1⟩)]
        refine Or.inr ⟨m, by omega, i2, rfl, fun x hx hv => ?_⟩
        by_cases ex : x = n
        · rw [ex] at hv; exact absurd hv c
        · exact i4 x (by omega) hv
theorem sbs_np {A : Av} {X : Sim} (hn : anp A ≤ 12) (hnp : ∀ k, k < 12 → X.2.2 k ≠ 0 → k < anp A) {x : Nat} (h : sbs X 12 x) : x < 2 ^ anp A ∧ wSub X (anp A) x = true ∧ (∀ i, anp A ≤ i → i < 12 → x.testBit i = false) := by
  have hz : ∀ i, anp A ≤ i → i < 12 → x.testBit i = false := fun i a c => by
    cases q : x.testBit i with
    | false => rfl
    | true =>
      have h1 := h.2 i c q
      have := hnp i c (by rw [h1]; decide)
      omega
  refine ⟨Nat.lt_pow_two_of_testBit x (fun i hi => ?_), ?_, hz⟩
  · by_cases c : i < 12
    · exact hz i hi c
    · exact Nat.testBit_lt_two_pow (Nat.lt_of_lt_of_le h.1 (Nat.pow_le_pow_right (by decide) (by omega)))
  · unfold wSub
    rw [allB_iff]
    intro k hk
    cases q : x.testBit k with
    | false => rfl
    | true =>
      have h1 := h.2 k (by omega) q
      simp [h1]
theorem np_sbs {A : Av} {X : Sim} (hn : anp A ≤ 12) {x : Nat} (hx : x < 2 ^ anp A) (h : wSub X (anp A) x = true) : sbs X 12 x := by
  refine ⟨Nat.lt_of_lt_of_le hx (Nat.pow_le_pow_right (by decide) hn), fun i hi ht => ?_⟩
  by_cases c : i < anp A
  · unfold wSub at h
    rw [allB_iff] at h
    have := h i c
    rw [ht] at this
    simpa using this
  · rw [Nat.testBit_lt_two_pow (Nat.lt_of_lt_of_le hx (Nat.pow_le_pow_right (by decide) (by omega)))] at ht
    cases ht
theorem resc {A : Av} {X : Sim} {b : Int} (hB : SB (aN A) (aP A) b X) (hn : anp A ≤ 12) (hnp : ∀ k, k < 12 → X.2.2 k ≠ 0 → k < anp A) {p wi sp : Int} {f : Nat → Int} (hD : DPk A X p sp 12 f) {w : Nat} (hw : w ≤ 99) (h1 : (w : Int) = if wi - X.1 p.toNat < 0 then 0 else wi - X.1 p.toNat) : (f w = 268435456 ∧ wh A X p wi sp (2 ^ anp A) = (-1, -1)) ∨ (∃ c m u : Nat, c ≤ 12 ∧ m < 4096 ∧ u < 256 ∧ f w = 1048576 * (c : Int) + 4096 * (u : Int) + (m : Int) ∧ wh A X p wi sp (2 ^ anp A) = ((m : Int), (u : Int))) := by
  have h12 := pow_12 hn
  have hgl : ∀ x, (∀ i, anp A ≤ i → i < 12 → x.testBit i = false) → gft A X p 12 x = gft A X p (anp A) x ∧ wLo A X sp x 12 = wLo A X sp x (anp A) := by
    intro x hz
    refine ⟨ssm_cut 12 hn (fun i a c => by simp only [hz i a c]; rfl), ?_⟩
    unfold wLo
    exact ssm_cut 12 hn (fun i a c => by rw [if_neg (fun g => by rw [hz i a c] at g; cases g.1)])
  have hgz : ∀ x, 0 ≤ gft A X p (anp A) x := fun x => by
    have := ssm_bd (f := fun i => if x.testBit i = true then bkt A X p i else 0) (b := 9) (n := anp A) (fun i hi => by
      have h3 := bkt_bd hB (p := p) (k := i) (by omega)
      split <;> omega)
    exact this.1
  have hwi : ∀ x, wi ≤ wIs A X p x (anp A) ↔ (w : Int) ≤ gft A X p (anp A) x := fun x => by
    have h3 := hgz x
    have e : wIs A X p x (anp A) = X.1 p.toNat + gft A X p (anp A) x := rfl
    rw [e]
    split at h1 <;> omega
  obtain ⟨d1, d2⟩ := hD w hw
  have low : ∀ x, x < 2 ^ anp A → vld A X p wi x → f w ≤ kyw A X sp x := by
    intro x hx hv
    have hs := np_sbs hn hx hv.1
    have hz := (sbs_np hn hnp hs).2.2
    have g := hgl x hz
    have := d1 x hs (by rw [g.1]; exact (hwi x).mp hv.2)
    rw [prc_12 A X sp (show x < 4096 from hs.1), g.2] at this
    exact this
  rcases d2 with g | ⟨x, a1, a2, a3⟩
  · left
    refine ⟨g, ?_⟩
    rcases wh_min hB hn p wi sp (2 ^ anp A) h12 with ⟨i1, i2⟩ | ⟨m, i1, i2, i3, i4⟩
    · exact i1
    · exfalso
      have h5 := low m i1 i2
      have h6 := popc_le m
      have h7 := wLo_bd hB sp m hn
      unfold kyw at h5
      omega
  · right
    have hx := sbs_np hn hnp a1
    have g := hgl x hx.2.2
    have hv : vld A X p wi x := ⟨hx.2.1, (hwi x).mpr (by rw [← g.1]; exact a2)⟩
    rcases wh_min hB hn p wi sp (2 ^ anp A) h12 with ⟨i1, i2⟩ | ⟨m, i1, i2, i3, i4⟩
    · exact absurd hv (i2 x hx.1)
    · have h5 := low m i1 i2
      have h6 := i4 x hx.1 hv
      have h8 : f w = kyw A X sp x := by
        rw [a3, prc_12 A X sp (show x < 4096 from a1.1), g.2]
        rfl
      have h7 := wLo_bd hB sp m hn
      have h9 := popc_le m
      refine ⟨popc m, m, (wLo A X sp m (anp A)).toNat, h9, by omega, by omega, ?_, ?_⟩
      · have h10 : f w = kyw A X sp m := by omega
        rw [h10]
        unfold kyw
        omega
      · rw [i3, Int.toNat_of_nonneg h7.1]
