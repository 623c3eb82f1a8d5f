/-! what is swapped -/
def gnc (W P li : Nat → Int) (j k : Nat) : Bool := decide (li j ≠ li k ∧ W (li j).toNat = P (4 * k + 1) ∧ ¬ W (li j).toNat = P (4 * j + 1) ∧ W (li k).toNat = P (4 * j + 1) ∧ ¬ W (li k).toNat = P (4 * k + 1))
def gd (c : Nat → Bool) (W P li : Nat → Int) (j k : Nat) : Bool := c j && c k && gnc W P li j k
def pK (c : Nat → Bool) (W P : Nat → Int) (n : Nat) (li : Nat → Int) (j : Nat) : Nat := srch (fun k => decide (j < k) && gd c W P li j k) n
def pJ (c : Nat → Bool) (W P : Nat → Int) (n : Nat) (li : Nat → Int) : Nat := srch (fun j => decide (pK c W P n li j < n)) n
def sw1 (c : Nat → Bool) (W P : Nat → Int) (n : Nat) (li : Nat → Int) : Int := if pJ c W P n li < n then (pJ c W P n li : Int) else -1
def sw2 (c : Nat → Bool) (W P : Nat → Int) (n : Nat) (li : Nat → Int) : Int := if pJ c W P n li < n then (pK c W P n li (pJ c W P n li) : Int) else -1
def swp (li : Nat → Int) (a b : Nat) : Nat → Int := upf (upf li a (li b)) b (li a)
def swc (c : Nat → Bool) (W P : Nat → Int) (n : Nat) : Nat → (Nat → Int) → Nat
  | 0, _ => 0
  | f + 1, li => if pJ c W P n li < n then swc c W P n f (swp li (pJ c W P n li) (pK c W P n li (pJ c W P n li))) + 1 else 0
def jo (c : Nat → Bool) (W P li : Nat → Int) (k : Nat) : Int := if c k = true ∧ W (li k).toNat = P (4 * k + 1) then 1 else 0
def joy (c : Nat → Bool) (W P : Nat → Int) (n : Nat) (li : Nat → Int) : Int := ssm (jo c W P li) n
theorem joy_le (c : Nat → Bool) (W P : Nat → Int) (n : Nat) (li : Nat → Int) : 0 ≤ joy c W P n li ∧ joy c W P n li ≤ n := by
  have h := ssm_bd (f := jo c W P li) (b := 1) (n := n) (fun k _ => by unfold jo; split <;> omega)
  rw [Int.one_mul] at h
  exact h
theorem ssm_upd (f : Nat → Int) (a : Nat) (v : Int) : ∀ n, a < n → ssm (upf f a v) n = ssm f n + (v - f a)
  | 0, h => absurd h (by omega)
  | n + 1, h => by
    simp only [ssm]
    by_cases e : a = n
    · subst e
      have h1 : ssm (upf f a v) a = ssm f a := ssm_cong (fun k hk => by unfold upf; rw [if_neg (by omega)])
      rw [h1]
      unfold upf
      rw [if_pos rfl]
      omega
    · rw [ssm_upd f a v n (by omega)]
      have h2 : upf f a v n = f n := by unfold upf; rw [if_neg (fun q => e q.symm)]
      rw [h2]
      omega
theorem pair_in {c : Nat → Bool} {W P : Nat → Int} {n : Nat} {li : Nat → Int} (h : pJ c W P n li < n) : pK c W P n li (pJ c W P n li) < n ∧ pJ c W P n li < pK c W P n li (pJ c W P n li) ∧ gd c W P li (pJ c W P n li) (pK c W P n li (pJ c W P n li)) = true := by
  have h1 := srch_yes _ n h
  simp only [decide_eq_true_eq] at h1
  have h1 : pK c W P n li (pJ c W P n li) < n := h1
  have h2 := srch_yes _ n h1
  simp only [Bool.and_eq_true, decide_eq_true_eq] at h2
  exact ⟨h1, h2.1, h2.2⟩
theorem joy_sw {c : Nat → Bool} {W P : Nat → Int} {n : Nat} {li : Nat → Int} (h : pJ c W P n li < n) : joy c W P n (swp li (pJ c W P n li) (pK c W P n li (pJ c W P n li))) = joy c W P n li + 2 := by
  obtain ⟨h1, h2, h3⟩ := pair_in h
  generalize pJ c W P n li = a at *
  generalize pK c W P n li a = b at *
  unfold gd gnc at h3
  simp only [Bool.and_eq_true, decide_eq_true_eq] at h3
  obtain ⟨⟨ca, cb⟩, g1, g2, g3, g4, g5⟩ := h3
  have e : joy c W P n (swp li a b) = ssm (upf (upf (jo c W P li) a 1) b 1) n := by
    unfold joy
    refine ssm_cong (fun k hk => ?_)
    by_cases q1 : k = b
    · subst q1
      have e1 : swp li a k k = li a := by simp [swp, upf]
      unfold jo
      rw [e1, if_pos ⟨cb, g2⟩]
      simp [upf]
    · by_cases q2 : k = a
      · subst q2
        have e1 : swp li k b k = li b := by simp [swp, upf, q1]
        unfold jo
        rw [e1, if_pos ⟨ca, g4⟩]
        simp [upf, q1]
      · have e1 : swp li a b k = li k := by simp [swp, upf, q1, q2]
        have e2 : upf (upf (jo c W P li) a 1) b 1 k = jo c W P li k := by simp [upf, q1, q2]
        rw [e2]
        unfold jo
        rw [e1]
  rw [e, ssm_upd _ b 1 n h1, ssm_upd _ a 1 n (by omega)]
  have e3 : upf (jo c W P li) a 1 b = 0 := by
    unfold upf jo
    rw [if_neg (by omega), if_neg (fun q => g5 q.2)]
  have e4 : jo c W P li a = 0 := by
    unfold jo
    rw [if_neg (fun q => g3 q.2)]
  rw [e3, e4]
  unfold joy
  omega
theorem gnc_cong {W P li li' : Nat → Int} {j k : Nat} (hj : li j = li' j) (hk : li k = li' k) : gnc W P li j k = gnc W P li' j k := by
  unfold gnc
  rw [hj, hk]
theorem srch_cong {c c' : Nat → Bool} : ∀ {n : Nat}, (∀ k, k < n → c k = c' k) → srch c n = srch c' n
  | 0, _ => rfl
  | n + 1, h => by simp only [srch]; rw [srch_cong (fun k hk => h k (by omega)), h n (by omega)]
theorem pK_cong {c c' : Nat → Bool} {W P li li' : Nat → Int} {n j : Nat} (hj : j < n) (hc : ∀ k, k < n → c k = c' k) (h : ∀ k, k < n → li k = li' k) : pK c W P n li j = pK c' W P n li' j := by
  unfold pK
  refine srch_cong (fun k hk => ?_)
  unfold gd
  rw [gnc_cong (h j hj) (h k hk), hc j hj, hc k hk]
theorem pJ_cong {c c' : Nat → Bool} {W P li li' : Nat → Int} {n : Nat} (hc : ∀ k, k < n → c k = c' k) (h : ∀ k, k < n → li k = li' k) : pJ c W P n li = pJ c' W P n li' := by
  unfold pJ
  refine srch_cong (fun j hj => ?_)
  rw [pK_cong hj hc h]
def a_swc (A : Av) (y : Int) : Nat → Bool := fun k => decide ((lv A (y.toNat + 1)).2.2 k = 1)
def a_li (A : Av) : Nat → Int := fun k => aP A (4 * k + 3)
def a_swapOf (A : Av) (y w : Int) : Int := if w = 2 then (swc (a_swc A y) (aW A) (aP A) (anp A) 12 (a_li A) : Int) else if w = 0 then sw1 (a_swc A y) (aW A) (aP A) (anp A) (a_li A) else sw2 (a_swc A y) (aW A) (aP A) (anp A) (a_li A)
def a_swap (A : Av) (y w : Int) : Int := if ¬ (0 ≤ y ∧ y ≤ 29) then -2 else if ¬ (0 ≤ w ∧ w ≤ 2) then -2 else a_swapOf A y w
theorem swc_less {c : Nat → Bool} {W P : Nat → Int} {n : Nat} (hn : n ≤ 12) : ∀ (f g : Nat) (li : Nat → Int), 12 - joy c W P n li ≤ 2 * (f : Int) → f ≤ g → swc c W P n f li = swc c W P n g li
  | 0, 0, li, _, _ => rfl
  | 0, g + 1, li, h, _ => by
    have h1 := (joy_le c W P n li).2
    have h2 : ¬ pJ c W P n li < n := fun q => by
      have h3 := joy_sw q
      have h4 := (joy_le c W P n (swp li (pJ c W P n li) (pK c W P n li (pJ c W P n li)))).2
      omega
    simp only [swc]
    rw [if_neg h2]
  | f + 1, 0, li, _, h => absurd h (by omega)
  | f + 1, g + 1, li, h, hl => by
    simp only [swc]
    by_cases q : pJ c W P n li < n
    · rw [if_pos q, if_pos q]
      have h3 := joy_sw q
      rw [swc_less hn f g _ (by omega) (by omega)]
    · rw [if_neg q, if_neg q]
