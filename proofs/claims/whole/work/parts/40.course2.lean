/-- people, pictures and burnings of the class are those of A -/
def ClE (S : Sx) (A : Av) : Prop := AvOk A ∧ PeR S A.1 A.2.1 ∧ PiR S (anp A) (aP A) ∧ BuR S (anb A) (aB A)
def frC (S S2 : Sx) : Prop := ∀ c, c ≠ 17 → c ≠ 18 → c ≠ 19 → c ≠ 20 → S2 c = S c
theorem frC_t {S S1 S2 : Sx} (h1 : frC S S1) (h2 : frC S1 S2) : frC S S2 := fun c a b e f => by rw [h2 c a b e f, h1 c a b e f]
theorem ClE_fr {S S2 : Sx} {A : Av} (h : ClE S A) (f : frC S S2) : ClE S2 A := by
  have g : ∀ c, c ≤ 16 → S2 c = S c := fun c hc => f c (by omega) (by omega) (by omega) (by omega)
  exact ⟨h.1, PeR_cong h.2.1 (g _ (by decide)) (g _ (by decide)) (g _ (by decide)) (g _ (by decide)), PiR_cong h.2.2.1 (fun c _ hc => g c (by omega)), BuR_cong h.2.2.2 (fun c _ hc => g c (by omega))⟩
theorem tkF_fr {S : Sx} {p m : Int} {c : Nat} (h : c ≠ 18) : (tkF S p m).2 c = S c := by
  unfold tkF
  split
  · exact su_ne _ h
  · rfl
theorem tk_fr {S S2 : Sx} {p m r : Int} (h : (r, S2) = tkF S p m) {c : Nat} (hc : c ≠ 18) : S2 c = S c := by
  have e : S2 = (tkF S p m).2 := congrArg Prod.snd h
  rw [e]
  exact tkF_fr hc
theorem tk_bd {S S2 : Sx} {p m r b : Int} {N : Nat} (h : (r, S2) = tkF S p m) (hm : 0 ≤ m) (hs : ∀ j, j < N → 0 ≤ S 18 j ∧ S 18 j ≤ b) : ∀ j, j < N → 0 ≤ S2 18 j ∧ S2 18 j ≤ b := by
  intro j hj
  have e : S2 = (tkF S p m).2 := congrArg Prod.snd h
  have g := hs j hj
  rw [e]
  unfold tkF
  split
  · simp only [su_row]
    split
    · next q => rw [← q]; have := lsr_le hm g.1; omega
    · exact g
  · exact g
def frT (S S2 : Sx) : Prop := frC S S2 ∧ ∀ k, k ≠ 6 → S2 17 k = S 17 k
theorem tkF_in {S : Sx} {p m : Int} (h : 0 ≤ p ∧ p < S 1 5) : tkF S p m = (lsr m (S 18 p.toNat), su S 18 p.toNat (S 18 p.toNat - lsr m (S 18 p.toNat))) := by unfold tkF; rw [if_pos h]
theorem tkF_out {S : Sx} {p m : Int} (h : ¬ (0 ≤ p ∧ p < S 1 5)) : tkF S p m = (0, S) := by unfold tkF; rw [if_neg h]
theorem CrS_tak {N : Nat} {X : Sim} {S S2 S4 : Sx} {tw : Nat → Int} {p k : Nat} {z r r2 q : Int} {T4 : Sx} (hq : q = (p : Int)) (h : CrS N X S) (h15 : S 1 5 = (N : Int)) (hp : p < N) (hk : k < 12) (hw : TwOk N tw) (hb : X.2.2 k ≠ 2)
    (e1 : (r, S2) = tkF (su S 17 6 (zor (S 17 6) (1 * 2 ^ ((k : Int)).toNat))) q z) (e2 : (r2, S4) = tkF (su S2 19 k r) (tw p) (z / 2)) (e4 : T4 = su S4 20 k r2) : CrS N (tak tw p k z X) T4 ∧ frT S T4 := by
  subst hq
  obtain ⟨h1, h2, h3, h4⟩ := h
  rw [tkF_in ⟨by omega, by simp (decide := true) only [su_app, ↓reduceIte]; omega⟩] at e1
  obtain ⟨er, eS⟩ := Prod.mk.inj e1
  simp (decide := true) only [su_app, ↓reduceIte] at er
  rw [show ((p : Int)).toNat = p from rfl, h1 p hp] at er
  have c2 : ∀ c, c ≠ 17 → c ≠ 18 → S2 c = S c := fun c a b => by rw [eS, su_ne _ b, su_ne _ a]
  have r18 : ∀ j, j < N → S2 18 j = if j = p then X.1 p - lsr z (X.1 p) else X.1 j := fun j hj => by
    rw [eS]
    simp (decide := true) only [su_app, ↓reduceIte]
    rw [show ((p : Int)).toNat = p from rfl, h1 p hp]
    split
    · rfl
    · exact h1 j hj
  have c17 : ∀ j, S2 17 j = if j = 6 then zor (S 17 6) (1 * 2 ^ ((k : Int)).toNat) else S 17 j := fun j => by
    rw [eS]
    simp (decide := true) only [su_app, ↓reduceIte]
  have n6 : zor (S 17 6) (1 * 2 ^ ((k : Int)).toNat) = (bsm (fun j => decide ((tak tw p k z X).2.2 j ≠ 0)) 12 : Int) := by
    rw [h3, bsm_or _ (by decide) hk]
    congr 1
    apply bsm_cong
    intro j _
    simp only [tak, upf]
    by_cases e : j = k
    · simp [e]
    · simp [e]
  have n7 : S 17 7 = (bsm (fun j => decide ((tak tw p k z X).2.2 j = 2)) 12 : Int) := by
    rw [h4]
    congr 1
    apply bsm_cong
    intro j _
    simp only [tak, upf]
    by_cases e : j = k
    · subst e; simp [hb]
    · simp [e]
  have fin : (∀ j, j < N → S4 18 j = sTk tw p z X.1 j) ∧ r2 = bTk tw p z X.1 ∧ (∀ c, c ≠ 18 → S4 c = (su S2 19 k r) c) := by
    rcases hw p hp with t | ⟨t1, t2, t3⟩
    · rw [tkF_out (by omega)] at e2
      obtain ⟨f1, f2⟩ := Prod.mk.inj e2
      refine ⟨fun j hj => ?_, ?_, fun c _ => by rw [f2]⟩
      · rw [f2, su_ne _ (by decide), r18 j hj]
        unfold sTk
        rw [if_neg (show ¬ tw p = (j : Int) by omega)]
        by_cases e : j = p
        · rw [if_pos e, if_pos e, e]
        · rw [if_neg e, if_neg e]
      · rw [f1]; unfold bTk; rw [if_pos t]
    · have tp : (tw p).toNat < N := by omega
      rw [tkF_in ⟨t1, by rw [su_ne _ (by decide), c2 1 (by decide) (by decide), h15]; exact t2⟩, su_ne _ (by decide : (18 : Nat) ≠ 19)] at e2
      have g := r18 (tw p).toNat tp
      rw [if_neg (by omega)] at g
      rw [g] at e2
      obtain ⟨f1, f2⟩ := Prod.mk.inj e2
      refine ⟨fun j hj => ?_, ?_, fun c hc => by rw [f2, su_ne _ hc]⟩
      · rw [f2, su_row, su_ne _ (by decide : (18 : Nat) ≠ 19), r18 j hj]
        unfold sTk
        by_cases e : j = (tw p).toNat
        · rw [if_pos e, if_pos (show tw p = (j : Int) by omega), ← e]
        · rw [if_neg e, if_neg (show ¬ tw p = (j : Int) by omega)]
          by_cases e5 : j = p
          · rw [if_pos e5, if_pos e5, e5]
          · rw [if_neg e5, if_neg e5]
      · rw [f1]; unfold bTk; rw [if_neg (by omega)]
  obtain ⟨f1, f2, f3⟩ := fin
  subst e4
  refine ⟨⟨?_, ?_, ?_, ?_⟩, ?_, ?_⟩
  · intro j hj
    rw [su_ne _ (by decide)]
    exact f1 j hj
  · intro j hj
    have a := h2 j hj
    simp only [tak, upf]
    rw [su_ne _ (by decide : (19 : Nat) ≠ 20), f3 19 (by decide), su_row, su_row, f3 20 (by decide), su_ne _ (by decide : (20 : Nat) ≠ 19), c2 19 (by decide) (by decide), c2 20 (by decide) (by decide), a.1, a.2, er, f2]
    by_cases e : j = k
    · subst e; simp
    · rw [if_neg e, if_neg e, if_neg (by omega), if_neg (by omega), if_neg (by omega), if_neg (by omega)]
      exact ⟨rfl, rfl⟩
  · rw [su_ne _ (by decide), f3 17 (by decide), su_ne _ (by decide), c17, if_pos rfl]; exact n6
  · rw [su_ne _ (by decide), f3 17 (by decide), su_ne _ (by decide), c17, if_neg (by decide)]; exact n7
  · intro c a b e f
    rw [su_ne _ f, f3 c b, su_ne _ e]
    exact c2 c a b
  · intro j hj
    rw [su_ne _ (by decide), f3 17 (by decide), su_ne _ (by decide), c17, if_neg hj]
