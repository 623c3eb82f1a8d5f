theorem GW_L {κ : Kx} {Γ : Ev} {pc : Nat} {L L' : List (Option Value)} {st : List Value} {ws : va_W} (h : prs 0 L = prs 0 L') (k : GW κ Γ pc L' st ws) : GW κ Γ pc L st ws := by
  obtain ⟨p, l, e, R, s, m, args, below, meth, c, Q, H0, A, n0, c1, c2⟩ := κ
  intro H locs ls hP hD hS hl
  rw [h] at hl
  exact k H locs ls hP hD hS hl
/-! the text: which byte may stand where, the fault, who is told -/
def okc (j : Nat) (c : Int) : Bool := if j % 4 < 2 then decide (48 ≤ c ∧ c ≤ 57) else if j % 4 = 2 then decide (c = 46 ∨ (97 ≤ c ∧ c ≤ 104)) else decide (c = 59)
def fbad (t : Nat → Int) : Nat → Nat
  | 0 => 0
  | n + 1 => if fbad t n < n then fbad t n else if okc n (t n) = true then n + 1 else n
theorem fbad_le (t : Nat → Int) : ∀ n, fbad t n ≤ n
  | 0 => Nat.le_refl 0
  | n + 1 => by
    have h := fbad_le t n
    simp only [fbad]
    split
    · omega
    · split <;> omega
theorem fbad_all (t : Nat → Int) : ∀ n, (∀ j, j < n → okc j (t j) = true) → fbad t n = n
  | 0, _ => rfl
  | n + 1, h => by
    have h1 := fbad_all t n (fun j hj => h j (by omega))
    simp only [fbad]
    rw [if_neg (by omega), if_pos (h n (by omega))]
theorem fbad_at (t : Nat → Int) (m : Nat) (h : ∀ j, j < m → okc j (t j) = true) (hb : ¬ okc m (t m) = true) : ∀ n, m < n → fbad t n = m
  | 0, hm => absurd hm (by omega)
  | n + 1, hm => by
    simp only [fbad]
    by_cases hq : m < n
    · have h1 := fbad_at t m h hb n hq
      rw [if_pos (by omega), h1]
    · have e : m = n := by omega
      subst e
      have h1 := fbad_all t m h
      rw [if_neg (by omega), if_neg hb]
theorem fbad_ok (t : Nat → Int) : ∀ n j, j < fbad t n → okc j (t j) = true
  | 0, j, h => absurd h (by simp [fbad])
  | n + 1, j, h => by
    simp only [fbad] at h
    split at h
    · exact fbad_ok t n j h
    · next h2 =>
      have h3 := fbad_le t n
      have h4 : fbad t n = n := by omega
      split at h
      · next h5 =>
        by_cases e : j = n
        · rw [e]; exact h5
        · exact fbad_ok t n j (by omega)
      · exact fbad_ok t n j (by omega)
def flt (n : Nat) (t : Nat → Int) : Int := if fbad t n < n then (fbad t n : Int) else if n = 0 ∨ n % 4 = 3 then -1 else (n : Int)
def npl (n : Nat) (t : Nat → Int) : Nat := if flt n t = -1 then (n + 1) / 4 else 0
def sol0 (t : Nat → Int) (p : Nat) : Int := 10 * (t (4 * p) - 48) + (t (4 * p + 1) - 48)
def twl (t : Nat → Int) (p : Nat) : Int := if t (4 * p + 2) = 46 then -1 else t (4 * p + 2) - 97
def twn (n : Nat) (t : Nat → Int) (p : Nat) : Int := if twl t p ≠ p ∧ 0 ≤ twl t p ∧ twl t p ≤ (npl n t : Int) - 1 then twl t p else -1
theorem flt_bad {n : Nat} {t : Nat → Int} {m : Nat} (h : ∀ j, j < m → okc j (t j) = true) (hm : m ≤ n) (hb : m < n → ¬ okc m (t m) = true) (hz : m = n → ¬ (n = 0 ∨ n % 4 = 3)) : flt n t = m ∧ npl n t = 0 := by
  have e : flt n t = m := by
    unfold flt
    by_cases h1 : m < n
    · rw [fbad_at t m h (hb h1) n h1, if_pos h1]
    · have h2 : m = n := by omega
      subst h2
      rw [fbad_all t m h, if_neg (by omega), if_neg (hz rfl)]
  refine ⟨e, ?_⟩
  unfold npl
  rw [e, if_neg (by omega)]
theorem flt_well {n : Nat} {t : Nat → Int} (h : ∀ j, j < n → okc j (t j) = true) (hz : n = 0 ∨ n % 4 = 3) : flt n t = -1 ∧ npl n t = (n + 1) / 4 := by
  have e : flt n t = -1 := by
    unfold flt
    rw [fbad_all t n h, if_neg (by omega), if_pos hz]
  exact ⟨e, by unfold npl; rw [if_pos e]⟩
theorem npl_le {n : Nat} {t : Nat → Int} (h : n ≤ 31) : npl n t ≤ 8 := by
  unfold npl
  split <;> omega
/-- where the person at a goes wrong; a + 3: nowhere -/
def rpos (n : Nat) (t : Nat → Int) (a : Nat) : Nat := if ¬ (a < n ∧ 48 ≤ t a ∧ t a ≤ 57) then a else if ¬ (a + 1 < n ∧ 48 ≤ t (a + 1) ∧ t (a + 1) ≤ 57) then a + 1 else if ¬ (a + 2 < n ∧ (t (a + 2) = 46 ∨ (97 ≤ t (a + 2) ∧ t (a + 2) ≤ 104))) then a + 2 else a + 3
theorem okc_0 {j : Nat} {c : Int} (h : j % 4 = 0) : okc j c = true ↔ 48 ≤ c ∧ c ≤ 57 := by
  simp [okc, h]
theorem okc_1 {j : Nat} {c : Int} (h : j % 4 = 1) : okc j c = true ↔ 48 ≤ c ∧ c ≤ 57 := by
  simp [okc, h]
theorem okc_2 {j : Nat} {c : Int} (h : j % 4 = 2) : okc j c = true ↔ (c = 46 ∨ (97 ≤ c ∧ c ≤ 104)) := by
  simp [okc, h]
theorem okc_3 {j : Nat} {c : Int} (h : j % 4 = 3) : okc j c = true ↔ c = 59 := by
  simp [okc, h]
theorem rpos_ok {n i : Nat} {t : Nat → Int} : ∀ j, 4 * i ≤ j → j < rpos n t (4 * i) → okc j (t j) = true ∧ j < n := by
  intro j h1 h2
  unfold rpos at h2
  split at h2
  · omega
  next g1 =>
  split at h2
  · have e : j = 4 * i := by omega
    subst e
    exact ⟨(okc_0 (by omega)).mpr (by omega), by omega⟩
  next g2 =>
  split at h2
  · by_cases e : j = 4 * i
    · subst e
      exact ⟨(okc_0 (by omega)).mpr (by omega), by omega⟩
    · have e : j = 4 * i + 1 := by omega
      subst e
      exact ⟨(okc_1 (by omega)).mpr (by omega), by omega⟩
  next g3 =>
  have e : j = 4 * i ∨ j = 4 * i + 1 ∨ j = 4 * i + 2 := by omega
  rcases e with e | e | e
  · subst e
    exact ⟨(okc_0 (by omega)).mpr (by omega), by omega⟩
  · subst e
    exact ⟨(okc_1 (by omega)).mpr (by omega), by omega⟩
  · subst e
    exact ⟨(okc_2 (by omega)).mpr (by omega), by omega⟩
theorem rpos_bad {n i : Nat} {t : Nat → Int} (h : rpos n t (4 * i) ≠ 4 * i + 3) : rpos n t (4 * i) < 4 * i + 3 ∧ 4 * i ≤ rpos n t (4 * i) ∧ (rpos n t (4 * i) < n → ¬ okc (rpos n t (4 * i)) (t (rpos n t (4 * i))) = true) := by
  unfold rpos at h ⊢
  split
  · next g1 =>
    exact ⟨by omega, by omega, fun hn q => g1 ⟨hn, (okc_0 (by omega)).mp q⟩⟩
  next g1 =>
  rw [if_neg g1] at h
  split
  · next g2 =>
    exact ⟨by omega, by omega, fun hn q => g2 ⟨hn, (okc_1 (by omega)).mp q⟩⟩
  next g2 =>
  rw [if_neg g2] at h
  split
  · next g3 =>
    exact ⟨by omega, by omega, fun hn q => g3 ⟨hn, (okc_2 (by omega)).mp q⟩⟩
  · next g3 =>
    rw [if_neg g3] at h
    exact absurd rfl h
