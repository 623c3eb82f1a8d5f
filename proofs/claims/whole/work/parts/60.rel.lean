/-! the class's rows hold the view of the reference's rows -/
def ShR (S T : Sx) : Prop := ∀ s, s < 4 → S (36 + 2 * s) 1 = T 45 s ∧ S (36 + 2 * s) 2 = (if T 45 s < 0 then 0 else T 46 s) ∧ (∀ i : Nat, (i : Int) < S (36 + 2 * s) 2 → S (36 + 2 * s + 1) i = T 47 (60 * s + i))
def CR (S T : Sx) : Prop := CQ S (av T) (T 44 4) ∧ ShR S T
def hiC (S S2 : Sx) : Prop := ∀ c, 44 ≤ c → S2 c = S c
theorem hiC_0 (S : Sx) : hiC S S := fun _ _ => rfl
theorem hiC_t {S S1 S2 : Sx} (h1 : hiC S S1) (h2 : hiC S1 S2) : hiC S S2 := fun c a => by rw [h2 c a, h1 c a]
theorem av_hi {S S2 : Sx} (h : hiC S S2) : av S2 = av S := by
  unfold av
  rw [h 44 (by decide), h 49 (by decide), h 51 (by decide), h 52 (by decide), h 53 (by decide), h 58 (by decide)]
theorem InvM_hi {S S2 : Sx} (h : hiC S S2) (hI : InvM S) : InvM S2 := by
  unfold InvM at hI ⊢
  rw [av_hi h, h 44 (by decide), h 45 (by decide), h 46 (by decide), h 47 (by decide)]
  exact hI
theorem ShR_cong {S T S2 T2 : Sx} (h : ShR S T) (f : ∀ c, 36 ≤ c → c ≤ 43 → S2 c = S c) (e1 : T2 45 = T 45) (e2 : T2 46 = T 46) (e3 : T2 47 = T 47) : ShR S2 T2 := by
  intro s hs
  rw [f (36 + 2 * s) (by omega) (by omega), f (36 + 2 * s + 1) (by omega) (by omega), e1, e2, e3]
  exact h s hs
theorem CR_cong {S T S2 T2 : Sx} (h : CR S T) (f : ∀ c, c < 44 → S2 c = S c) (g : hiC T T2) : CR S2 T2 := by
  obtain ⟨⟨h1, h2, h3, h4, h5⟩, h6⟩ := h
  refine ⟨⟨?_, ?_, ?_, ?_, ?_⟩, ShR_cong h6 (fun c _ b => f c (by omega)) (g 45 (by decide)) (g 46 (by decide)) (g 47 (by decide))⟩
  · rw [av_hi g]; exact ClE_lo h1 (fun c hc => f c (by omega))
  · rw [av_hi g]; exact WiR_cong h2 (fun c _ b => f c (by omega))
  · rw [av_hi g, f 24 (by decide)]; exact h3
  · rw [av_hi g, f 0 (by decide)]; exact h4
  · rw [g 44 (by decide), f 0 (by decide)]; exact h5
theorem CR_frK {S S2 T : Sx} (h : CR S T) (f : frK S S2) : CR S2 T := by
  refine ⟨CQ_fr h.1 f, ShR_cong h.2 (fun c a b => f c (by omega) (by omega) (by omega) (by omega) (by omega)) rfl rfl rfl⟩
theorem frK_hi {S S2 : Sx} (f : frK S S2) : hiC S S2 := fun c hc => f c (by omega) (by omega) (by omega) (by omega) (by omega)
-- what a call does to the reference's rows rests on these alone
def Rl (S2' S' S2 : Sx) : Prop := (∀ c, 44 ≤ c → S2' c = S' c) ∧ (∀ c, c < 44 → S2' c = S2 c)
theorem Rl_0 {S S2 : Sx} (h : hiC S S2) : Rl S2 S S2 := ⟨h, fun _ _ => rfl⟩
theorem Rl_su {A B C : Sx} {c0 k : Nat} {z : Int} (h : Rl A B C) (hc : 44 ≤ c0) : Rl (su A c0 k z) (su B c0 k z) C := by
  refine ⟨fun c a => ?_, fun c a => ?_⟩
  · funext j
    rw [su_app, su_app, h.1 c a]
  · rw [su_ne _ (by omega)]; exact h.2 c a
theorem Rl_sr {A B C : Sx} {c0 : Nat} {f : Nat → Int} (h : Rl A B C) (hc : 44 ≤ c0) : Rl (sr A c0 f) (sr B c0 f) C := by
  refine ⟨fun c a => ?_, fun c a => ?_⟩
  · rw [sr_app, sr_app, h.1 c a]
  · rw [sr_ne _ (by omega)]; exact h.2 c a
def Lcl (q : Sx → Qx) : Prop := ∀ S S2, hiC S S2 → (q S2).1 = (q S).1 ∧ Rl (q S2).2 (q S).2 S2
theorem loc_sheet (s f n : Int) : Lcl (fun S => q_sheet S s f n) := by
  intro S S2 h
  simp only [q_sheet, h 47 (by decide)]
  (repeat' split) <;> refine ⟨rfl, ?_⟩ <;> (repeat (first | exact Rl_0 h | refine Rl_su ?_ (by decide) | refine Rl_sr ?_ (by decide)))
theorem loc_lose (s : Int) : Lcl (fun S => q_lose S s) := by
  intro S S2 h
  simp only [q_lose, h 45 (by decide), h 46 (by decide)]
  (repeat' split) <;> refine ⟨rfl, ?_⟩ <;> (repeat (first | exact Rl_0 h | refine Rl_su ?_ (by decide) | refine Rl_sr ?_ (by decide)))
theorem loc_lay (s f i v : Int) : Lcl (fun S => q_lay S s f i v) := by
  intro S S2 h
  simp only [q_lay, h 45 (by decide), h 46 (by decide), h 47 (by decide)]
  (repeat' split) <;> refine ⟨rfl, ?_⟩ <;> (repeat (first | exact Rl_0 h | refine Rl_su ?_ (by decide) | refine Rl_sr ?_ (by decide)))
theorem loc_get (s f i : Int) : Lcl (fun S => q_get S s f i) := by
  intro S S2 h
  simp only [q_get, h 45 (by decide), h 46 (by decide), h 47 (by decide)]
  (repeat' split) <;> refine ⟨rfl, ?_⟩ <;> (repeat (first | exact Rl_0 h | refine Rl_su ?_ (by decide) | refine Rl_sr ?_ (by decide)))
theorem loc_copy (s i t j n : Int) : Lcl (fun S => q_copy S s i t j n) := by
  intro S S2 h
  simp only [q_copy, h 45 (by decide), h 46 (by decide), h 47 (by decide), h 48 (by decide)]
  (repeat' split) <;> refine ⟨rfl, ?_⟩ <;> (repeat (first | exact Rl_0 h | refine Rl_su ?_ (by decide) | refine Rl_sr ?_ (by decide)))
theorem loc_type (b : Int) : Lcl (fun S => q_type S b) := by
  intro S S2 h
  simp only [q_type, h 44 (by decide)]
  (repeat' split) <;> refine ⟨rfl, ?_⟩ <;> (repeat (first | exact Rl_0 h | refine Rl_su ?_ (by decide) | refine Rl_sr ?_ (by decide)))
theorem loc_wipe : Lcl q_wipe := by
  intro S S2 h
  simp only [q_wipe, h 44 (by decide)]
  refine ⟨trivial, ?_⟩ <;> (repeat (first | exact Rl_0 h | refine Rl_su ?_ (by decide) | refine Rl_sr ?_ (by decide)))
theorem loc_undo : Lcl q_undo := by
  intro S S2 h
  simp only [q_undo, h 44 (by decide)]
  (repeat' split) <;> refine ⟨rfl, ?_⟩ <;> (repeat (first | exact Rl_0 h | refine Rl_su ?_ (by decide) | refine Rl_sr ?_ (by decide)))
theorem loc_picture (y p z w : Int) : Lcl (fun S => q_picture S y p z w) := by
  intro S S2 h
  simp only [q_picture, h 44 (by decide)]
  (repeat' split) <;> refine ⟨rfl, ?_⟩ <;> (repeat (first | exact Rl_0 h | refine Rl_su ?_ (by decide) | refine Rl_sr ?_ (by decide)))
theorem loc_burn (y k : Int) : Lcl (fun S => q_burn S y k) := by
  intro S S2 h
  simp only [q_burn, h 44 (by decide)]
  (repeat' split) <;> refine ⟨rfl, ?_⟩ <;> (repeat (first | exact Rl_0 h | refine Rl_su ?_ (by decide) | refine Rl_sr ?_ (by decide)))
theorem loc_back (w : Int) : Lcl (fun S => q_back S w) := by
  intro S S2 h
  simp only [q_back, h 44 (by decide)]
  (repeat' split) <;> refine ⟨rfl, ?_⟩ <;> (repeat (first | exact Rl_0 h | refine Rl_su ?_ (by decide) | refine Rl_sr ?_ (by decide)))
theorem loc_faint (v : Int) : Lcl (fun S => q_faint S v) := by
  intro S S2 h
  simp only [q_faint, h 44 (by decide)]
  (repeat' split) <;> refine ⟨rfl, ?_⟩ <;> (repeat (first | exact Rl_0 h | refine Rl_su ?_ (by decide) | refine Rl_sr ?_ (by decide)))
theorem loc_want (w p : Int) : Lcl (fun S => q_want S w p) := by
  intro S S2 h
  simp only [q_want, h 53 (by decide)]
  (repeat' split) <;> refine ⟨rfl, ?_⟩ <;> (repeat (first | exact Rl_0 h | refine Rl_su ?_ (by decide) | refine Rl_sr ?_ (by decide)))
theorem loc_seen (y p v : Int) : Lcl (fun S => q_seen S y p v) := by
  intro S S2 h
  simp only [q_seen, h 44 (by decide)]
  (repeat' split) <;> refine ⟨rfl, ?_⟩ <;> (repeat (first | exact Rl_0 h | refine Rl_su ?_ (by decide) | refine Rl_sr ?_ (by decide)))
theorem loc_forget : Lcl q_forget := by
  intro S S2 h
  simp only [q_forget, h 44 (by decide)]
  refine ⟨trivial, ?_⟩ <;> (repeat (first | exact Rl_0 h | refine Rl_su ?_ (by decide) | refine Rl_sr ?_ (by decide)))
theorem Rl_seen {A B C : Sx} (h : Rl A B C) (y p v : Int) : (q_seen A y p v).1 = (q_seen B y p v).1 ∧ Rl (q_seen A y p v).2 (q_seen B y p v).2 C := by
  have g := loc_seen y p v B A h.1
  exact ⟨g.1, g.2.1, fun c hc => by rw [g.2.2 c hc]; exact h.2 c hc⟩
theorem Rl_qrd {S S2 : Sx} (h : hiC S S2) (b : Nat) : ∀ n, Rl (qrd S2 b n) (qrd S b n) S2
  | 0 => Rl_0 h
  | n + 1 => by
    have ih := Rl_qrd h b n
    have e : S2 47 = S 47 := h 47 (by decide)
    simp only [qrd]
    rw [e]
    exact (Rl_seen ih _ _ _).2
theorem qrn_hi {S S2 : Sx} (h : hiC S S2) (b : Nat) (len : Int) : qrn S2 b len = qrn S b len := by
  unfold qrn
  refine srch_cong (fun k _ => ?_)
  unfold qrk
  rw [h 47 (by decide), (Rl_seen (Rl_qrd h b k) _ _ _).1]
theorem loc_read (s : Int) : Lcl (fun S => q_read S s) := by
  intro S S2 h
  simp only [q_read, h 45 (by decide), h 46 (by decide), qrn_hi h]
  generalize qrn S (60 * s).toNat (S 46 s.toNat) = m
  split
  · exact ⟨rfl, Rl_0 h⟩
  split
  · exact ⟨rfl, Rl_su (Rl_0 h) (by decide)⟩
  · exact ⟨rfl, Rl_qrd h _ m⟩
theorem loc_write (y s : Int) : Lcl (fun S => q_write S y s) := by
  intro S S2 h
  simp only [q_write, h 45 (by decide), h 46 (by decide), h 47 (by decide), av_hi h]
  (repeat' split) <;> refine ⟨rfl, ?_⟩ <;> (repeat (first | exact Rl_0 h | refine Rl_su ?_ (by decide) | refine Rl_sr ?_ (by decide)))
-- the reference's own order stays
theorem inv_find {S : Sx} (hI : InvM S) {f : Int} (hf : 0 ≤ f ∧ f ≤ 5) : InvM (su S 44 4 f) := ⟨hI.1, hI.2.1, ⟨hI.2.2.1.1, hI.2.2.1.2.1, hI.2.2.1.2.2.1, hf⟩, hI.2.2.2⟩
theorem inv_type {S : Sx} (hI : InvM S) (b : Int) : InvM (q_type S b).2 := by
  obtain ⟨⟨a1, a2, a3⟩, ⟨b1, b2⟩, c, d⟩ := hI
  unfold q_type
  split
  · exact ⟨⟨a1, a2, a3⟩, ⟨b1, b2⟩, c, d⟩
  split
  · exact ⟨⟨a1, a2, a3⟩, ⟨b1, b2⟩, c, d⟩
  next h1 h2 =>
  have a1' : (S 44 6).toNat ≤ 31 := a1
  refine ⟨⟨?_, ?_, a3⟩, ⟨?_, b2⟩, c, d⟩
  · show (S 44 6 + 1).toNat ≤ 31
    omega
  · intro j hj
    show 0 ≤ su (su S 49 (S 44 6).toNat b) 44 6 (S 44 6 + 1) 49 j ∧ su (su S 49 (S 44 6).toNat b) 44 6 (S 44 6 + 1) 49 j ≤ 255
    rw [su_ne _ (by decide), su_row]
    split
    · omega
    · exact a2 j hj
  · show 0 ≤ S 44 6 + 1
    omega
theorem inv_wipe {S : Sx} (hI : InvM S) : InvM (q_wipe S).2 := by
  obtain ⟨⟨a1, a2, a3⟩, ⟨b1, b2⟩, c, d⟩ := hI
  exact ⟨⟨by show ((0 : Int)).toNat ≤ 31; decide, a2, a3⟩, ⟨by show (0 : Int) ≤ 0; decide, b2⟩, c, d⟩
theorem inv_undo {S : Sx} (hI : InvM S) : InvM (q_undo S).2 := by
  obtain ⟨⟨a1, a2, a3⟩, ⟨b1, b2⟩, c, d⟩ := hI
  unfold q_undo
  split
  · exact ⟨⟨a1, a2, a3⟩, ⟨b1, b2⟩, c, d⟩
  next h1 =>
  have a1' : (S 44 6).toNat ≤ 31 := a1
  exact ⟨⟨by show (S 44 6 - 1).toNat ≤ 31; omega, a2, a3⟩, ⟨by show 0 ≤ S 44 6 - 1; omega, b2⟩, c, d⟩
theorem inv_picture {S : Sx} (hI : InvM S) (y p z w : Int) : InvM (q_picture S y p z w).2 := by
  unfold q_picture
  split
  · exact hI
  split
  · exact hI
  split
  · exact hI
  split
  · exact hI
  split
  · exact hI
  next h1 h2 h3 h4 h5 =>
  obtain ⟨⟨a1, a2, a3, a4, a5⟩, ⟨b1, b2, b3⟩, c, d⟩ := hI
  have a3' : (S 44 10).toNat ≤ 12 := a3
  obtain ⟨n, hn⟩ : ∃ n : Nat, S 44 10 = (n : Int) := ⟨(S 44 10).toNat, by omega⟩
  refine ⟨⟨a1, a2, ?_, ?_, a5⟩, ⟨b1, ?_, b3⟩, c, d⟩
  · show (S 44 10 + 1).toNat ≤ 12
    omega
  · intro k hk
    have hk2 : k < (S 44 10 + 1).toNat := hk
    show (0 ≤ su (su (su (su (su S 51 (4 * S 44 10).toNat y) 51 (4 * S 44 10 + 1).toNat p) 51 (4 * S 44 10 + 2).toNat z) 51 (4 * S 44 10 + 3).toNat w) 44 10 (S 44 10 + 1) 51 (4 * k) ∧ su (su (su (su (su S 51 (4 * S 44 10).toNat y) 51 (4 * S 44 10 + 1).toNat p) 51 (4 * S 44 10 + 2).toNat z) 51 (4 * S 44 10 + 3).toNat w) 44 10 (S 44 10 + 1) 51 (4 * k) ≤ 29) ∧ (0 ≤ su (su (su (su (su S 51 (4 * S 44 10).toNat y) 51 (4 * S 44 10 + 1).toNat p) 51 (4 * S 44 10 + 2).toNat z) 51 (4 * S 44 10 + 3).toNat w) 44 10 (S 44 10 + 1) 51 (4 * k + 1) ∧ su (su (su (su (su S 51 (4 * S 44 10).toNat y) 51 (4 * S 44 10 + 1).toNat p) 51 (4 * S 44 10 + 2).toNat z) 51 (4 * S 44 10 + 3).toNat w) 44 10 (S 44 10 + 1) 51 (4 * k + 1) ≤ 7) ∧ (1 ≤ su (su (su (su (su S 51 (4 * S 44 10).toNat y) 51 (4 * S 44 10 + 1).toNat p) 51 (4 * S 44 10 + 2).toNat z) 51 (4 * S 44 10 + 3).toNat w) 44 10 (S 44 10 + 1) 51 (4 * k + 2) ∧ su (su (su (su (su S 51 (4 * S 44 10).toNat y) 51 (4 * S 44 10 + 1).toNat p) 51 (4 * S 44 10 + 2).toNat z) 51 (4 * S 44 10 + 3).toNat w) 44 10 (S 44 10 + 1) 51 (4 * k + 2) ≤ 9) ∧ (0 ≤ su (su (su (su (su S 51 (4 * S 44 10).toNat y) 51 (4 * S 44 10 + 1).toNat p) 51 (4 * S 44 10 + 2).toNat z) 51 (4 * S 44 10 + 3).toNat w) 44 10 (S 44 10 + 1) 51 (4 * k + 3) ∧ su (su (su (su (su S 51 (4 * S 44 10).toNat y) 51 (4 * S 44 10 + 1).toNat p) 51 (4 * S 44 10 + 2).toNat z) 51 (4 * S 44 10 + 3).toNat w) 44 10 (S 44 10 + 1) 51 (4 * k + 3) ≤ 3)
    simp only [su_ne _ (show (51 : Nat) ≠ 44 by decide), su_row]
    by_cases e : k = n
    · rw [if_neg (show ¬ 4 * k = (4 * S 44 10 + 3).toNat by omega), if_neg (show ¬ 4 * k = (4 * S 44 10 + 2).toNat by omega), if_neg (show ¬ 4 * k = (4 * S 44 10 + 1).toNat by omega), if_pos (show 4 * k = (4 * S 44 10).toNat by omega), if_neg (show ¬ 4 * k + 1 = (4 * S 44 10 + 3).toNat by omega), if_neg (show ¬ 4 * k + 1 = (4 * S 44 10 + 2).toNat by omega), if_pos (show 4 * k + 1 = (4 * S 44 10 + 1).toNat by omega), if_neg (show ¬ 4 * k + 2 = (4 * S 44 10 + 3).toNat by omega), if_pos (show 4 * k + 2 = (4 * S 44 10 + 2).toNat by omega), if_pos (show 4 * k + 3 = (4 * S 44 10 + 3).toNat by omega)]
      omega
    · have g := a4 k (show k < (S 44 10).toNat by omega)
      rw [if_neg (by omega), if_neg (by omega), if_neg (by omega), if_neg (by omega), if_neg (by omega), if_neg (by omega), if_neg (by omega), if_neg (by omega), if_neg (by omega), if_neg (by omega), if_neg (by omega), if_neg (by omega), if_neg (by omega), if_neg (by omega), if_neg (by omega), if_neg (by omega)]
      exact g
  · show 0 ≤ S 44 10 + 1
    omega
theorem inv_burn {S : Sx} (hI : InvM S) (y p : Int) : InvM (q_burn S y p).2 := by
  unfold q_burn
  split
  · exact hI
  split
  · exact hI
  split
  · exact hI
  next h1 h2 h5 =>
  obtain ⟨⟨a1, a2, a3, a4, a5, a6, a7⟩, ⟨b1, b2, b3, b4⟩, c, d⟩ := hI
  have a5' : (S 44 12).toNat ≤ 12 := a5
  obtain ⟨n, hn⟩ : ∃ n : Nat, S 44 12 = (n : Int) := ⟨(S 44 12).toNat, by omega⟩
  refine ⟨⟨a1, a2, a3, a4, ?_, ?_, a7⟩, ⟨b1, b2, ?_, b4⟩, c, d⟩
  · show (S 44 12 + 1).toNat ≤ 12
    omega
  · intro k hk
    have hk2 : k < (S 44 12 + 1).toNat := hk
    show (0 ≤ su (su (su S 52 (2 * S 44 12).toNat y) 52 (2 * S 44 12 + 1).toNat p) 44 12 (S 44 12 + 1) 52 (2 * k) ∧ su (su (su S 52 (2 * S 44 12).toNat y) 52 (2 * S 44 12 + 1).toNat p) 44 12 (S 44 12 + 1) 52 (2 * k) ≤ 29) ∧ (0 ≤ su (su (su S 52 (2 * S 44 12).toNat y) 52 (2 * S 44 12 + 1).toNat p) 44 12 (S 44 12 + 1) 52 (2 * k + 1) ∧ su (su (su S 52 (2 * S 44 12).toNat y) 52 (2 * S 44 12 + 1).toNat p) 44 12 (S 44 12 + 1) 52 (2 * k + 1) ≤ 11)
    simp only [su_ne _ (show (52 : Nat) ≠ 44 by decide), su_row]
    by_cases e : k = n
    · rw [if_neg (show ¬ 2 * k = (2 * S 44 12 + 1).toNat by omega), if_pos (show 2 * k = (2 * S 44 12).toNat by omega), if_pos (show 2 * k + 1 = (2 * S 44 12 + 1).toNat by omega)]
      omega
    · have g := a6 k (show k < (S 44 12).toNat by omega)
      rw [if_neg (by omega), if_neg (by omega), if_neg (by omega), if_neg (by omega)]
      exact g
  · show 0 ≤ S 44 12 + 1
    omega
theorem inv_back {S : Sx} (hI : InvM S) (w : Int) : InvM (q_back S w).2 := by
  unfold q_back
  split
  · exact hI
  next h1 =>
  have hI0 := hI
  obtain ⟨⟨a1, a2, a3, a4, a5, a6, a7⟩, ⟨b1, b2, b3, b4⟩, c, d⟩ := hI
  have a3' : (S 44 10).toNat ≤ 12 := a3
  have a5' : (S 44 12).toNat ≤ 12 := a5
  split
  · next h2 =>
    split
    · exact hI0
    · next h3 =>
      subst h2
      refine ⟨⟨a1, a2, ?_, ?_, ?_, ?_, a7⟩, ⟨b1, ?_, ?_, b4⟩, c, d⟩
      · show (S 44 10 - 1).toNat ≤ 12
        omega
      · intro k hk
        exact a4 k (show k < (S 44 10).toNat by have : k < (S 44 10 - 1).toNat := hk; omega)
      · show (S 44 12 - 0).toNat ≤ 12
        omega
      · intro k hk
        exact a6 k (show k < (S 44 12).toNat by have : k < (S 44 12 - 0).toNat := hk; omega)
      · show 0 ≤ S 44 10 - 1
        omega
      · show 0 ≤ S 44 12 - 0
        omega
  · next h2 =>
    split
    · exact hI0
    · next h3 =>
      have hw : w = 1 := by omega
      subst hw
      refine ⟨⟨a1, a2, ?_, ?_, ?_, ?_, a7⟩, ⟨b1, ?_, ?_, b4⟩, c, d⟩
      · show (S 44 10 - 0).toNat ≤ 12
        omega
      · intro k hk
        exact a4 k (show k < (S 44 10).toNat by have : k < (S 44 10 - 0).toNat := hk; omega)
      · show (S 44 12 - 1).toNat ≤ 12
        omega
      · intro k hk
        exact a6 k (show k < (S 44 12).toNat by have : k < (S 44 12 - 1).toNat := hk; omega)
      · show 0 ≤ S 44 10 - 0
        omega
      · show 0 ≤ S 44 12 - 1
        omega
theorem inv_faint {S : Sx} (hI : InvM S) (v : Int) : InvM (q_faint S v).2 := by
  unfold q_faint
  split
  · exact hI
  next h1 =>
  obtain ⟨⟨a1, a2, a3, a4, a5, a6, a7, a8⟩, b, c, d⟩ := hI
  exact ⟨⟨a1, a2, a3, a4, a5, a6, by show 0 ≤ v ∧ v ≤ 99; omega, a8⟩, b, c, d⟩
theorem inv_want {S : Sx} (hI : InvM S) (w p : Int) : InvM (q_want S w p).2 := by
  unfold q_want
  split
  · exact hI
  split
  · exact hI
  next h1 h2 =>
  obtain ⟨⟨a1, a2, a3, a4, a5, a6, a7, a8, a9⟩, b, c, d⟩ := hI
  refine ⟨⟨a1, a2, a3, a4, a5, a6, a7, ?_, a9⟩, b, c, d⟩
  intro k hk
  show -1 ≤ su S 53 w.toNat p 53 k ∧ su S 53 w.toNat p 53 k ≤ 7
  rw [su_row]
  split
  · omega
  · exact a8 k hk
theorem inv_seen {S : Sx} (hI : InvM S) (y p v : Int) : InvM (q_seen S y p v).2 := by
  unfold q_seen
  split
  · exact hI
  split
  · exact hI
  split
  · exact hI
  split
  · exact hI
  next h1 h2 h3 h5 =>
  obtain ⟨⟨a1, a2, a3, a4, a5, a6, a7, a8, a9, a10⟩, ⟨b1, b2, b3, b4⟩, c, d⟩ := hI
  have a9' : (S 44 31).toNat ≤ 8 := a9
  obtain ⟨n, hn⟩ : ∃ n : Nat, S 44 31 = (n : Int) := ⟨(S 44 31).toNat, by omega⟩
  refine ⟨⟨a1, a2, a3, a4, a5, a6, a7, a8, ?_, ?_⟩, ⟨b1, b2, b3, ?_⟩, c, d⟩
  · show (S 44 31 + 1).toNat ≤ 8
    omega
  · intro k hk
    have hk2 : k < (S 44 31 + 1).toNat := hk
    show (0 ≤ su (su (su (su S 58 (3 * S 44 31).toNat y) 58 (3 * S 44 31 + 1).toNat p) 58 (3 * S 44 31 + 2).toNat v) 44 31 (S 44 31 + 1) 58 (3 * k) ∧ su (su (su (su S 58 (3 * S 44 31).toNat y) 58 (3 * S 44 31 + 1).toNat p) 58 (3 * S 44 31 + 2).toNat v) 44 31 (S 44 31 + 1) 58 (3 * k) ≤ 29) ∧ (0 ≤ su (su (su (su S 58 (3 * S 44 31).toNat y) 58 (3 * S 44 31 + 1).toNat p) 58 (3 * S 44 31 + 2).toNat v) 44 31 (S 44 31 + 1) 58 (3 * k + 1) ∧ su (su (su (su S 58 (3 * S 44 31).toNat y) 58 (3 * S 44 31 + 1).toNat p) 58 (3 * S 44 31 + 2).toNat v) 44 31 (S 44 31 + 1) 58 (3 * k + 1) ≤ 7) ∧ (0 ≤ su (su (su (su S 58 (3 * S 44 31).toNat y) 58 (3 * S 44 31 + 1).toNat p) 58 (3 * S 44 31 + 2).toNat v) 44 31 (S 44 31 + 1) 58 (3 * k + 2) ∧ su (su (su (su S 58 (3 * S 44 31).toNat y) 58 (3 * S 44 31 + 1).toNat p) 58 (3 * S 44 31 + 2).toNat v) 44 31 (S 44 31 + 1) 58 (3 * k + 2) ≤ 99)
    simp only [su_ne _ (show (58 : Nat) ≠ 44 by decide), su_row]
    by_cases e : k = n
    · rw [if_neg (show ¬ 3 * k = (3 * S 44 31 + 2).toNat by omega), if_neg (show ¬ 3 * k = (3 * S 44 31 + 1).toNat by omega), if_pos (show 3 * k = (3 * S 44 31).toNat by omega), if_neg (show ¬ 3 * k + 1 = (3 * S 44 31 + 2).toNat by omega), if_pos (show 3 * k + 1 = (3 * S 44 31 + 1).toNat by omega), if_pos (show 3 * k + 2 = (3 * S 44 31 + 2).toNat by omega)]
      omega
    · have g := a10 k (show k < (S 44 31).toNat by omega)
      rw [if_neg (by omega), if_neg (by omega), if_neg (by omega), if_neg (by omega), if_neg (by omega), if_neg (by omega), if_neg (by omega), if_neg (by omega), if_neg (by omega)]
      exact g
  · show 0 ≤ S 44 31 + 1
    omega
theorem inv_forget {S : Sx} (hI : InvM S) : InvM (q_forget S).2 := by
  obtain ⟨⟨a1, a2, a3, a4, a5, a6, a7, a8, a9, a10⟩, ⟨b1, b2, b3, b4⟩, c, d⟩ := hI
  exact ⟨⟨a1, a2, a3, a4, a5, a6, a7, a8, by show ((0 : Int)).toNat ≤ 8; decide, fun j hj => absurd hj (by show ¬ j < ((0 : Int)).toNat; simp)⟩, ⟨b1, b2, b3, by show (0 : Int) ≤ 0; decide⟩, c, d⟩
theorem inv_qrd {S : Sx} (hI : InvM S) (b : Nat) : ∀ n, InvM (qrd S b n)
  | 0 => hI
  | n + 1 => by simp only [qrd]; exact inv_seen (inv_qrd hI b n) _ _ _
theorem inv_read {S : Sx} (hI : InvM S) (s : Int) : InvM (q_read S s).2 := by
  unfold q_read
  generalize qrn S (60 * s).toNat (S 46 s.toNat) = m
  split
  · exact hI
  split
  · exact inv_find hI (by decide)
  · exact inv_qrd hI _ m
theorem inv_sh {S : Sx} (hI : InvM S) {f45 f46 f47 : Nat → Int} (h45 : ∀ k, k < 4 → -1 ≤ f45 k ∧ f45 k ≤ 2) (h46 : ∀ k, k < 4 → 0 ≤ f46 k ∧ f46 k ≤ 60) (h47 : ∀ k, k < 240 → R32 (f47 k)) {T : Sx} (e : ∀ c, c ≠ 45 → c ≠ 46 → c ≠ 47 → c ≠ 48 → T c = S c) (e45 : T 45 = f45) (e46 : T 46 = f46) (e47 : T 47 = f47) : InvM T := by
  have ea : av T = av S := by
    unfold av
    rw [e 44 (by decide) (by decide) (by decide) (by decide), e 49 (by decide) (by decide) (by decide) (by decide), e 51 (by decide) (by decide) (by decide) (by decide), e 52 (by decide) (by decide) (by decide) (by decide), e 53 (by decide) (by decide) (by decide) (by decide), e 58 (by decide) (by decide) (by decide) (by decide)]
  unfold InvM
  rw [ea, e 44 (by decide) (by decide) (by decide) (by decide), e45, e46, e47]
  exact ⟨hI.1, hI.2.1, ⟨h45, h46, h47, hI.2.2.1.2.2.2⟩, hI.2.2.2⟩
theorem inv_sheet {S : Sx} (hI : InvM S) (s f n : Int) : InvM (q_sheet S s f n).2 := by
  unfold q_sheet
  split
  · exact hI
  split
  · exact hI
  split
  · exact hI
  split
  · exact inv_find hI (by decide)
  next h1 h2 h3 h4 =>
  have c := hI.2.2.1
  refine inv_sh hI (T := sr (su (su S 45 s.toNat f) 46 s.toNat n) 47 (fill (S 47) (fun _ => 0) (60 * s).toNat n.toNat)) (f45 := fun j => if j = s.toNat then f else S 45 j) (f46 := fun j => if j = s.toNat then n else S 46 j) (f47 := fill (S 47) (fun _ => 0) (60 * s).toNat n.toNat) ?_ ?_ ?_ ?_ ?_ ?_ ?_
  · intro k hk
    have := c.1 k hk
    split <;> omega
  · intro k hk
    have := c.2.1 k hk
    split <;> omega
  · intro k hk
    unfold fill
    split
    · show R32 0
      decide
    · exact c.2.2.1 k hk
  · intro k a b e _
    rw [sr_ne _ e, su_ne _ b, su_ne _ a]
  · rw [sr_ne _ (by decide), su_ne _ (by decide)]
    funext j
    rw [su_row]
  · rw [sr_ne _ (by decide)]
    funext j
    rw [su_row, su_ne _ (by decide)]
  · rw [sr_at]
theorem inv_lose {S : Sx} (hI : InvM S) (s : Int) : InvM (q_lose S s).2 := by
  unfold q_lose
  split
  · exact hI
  split
  · exact inv_find hI (by decide)
  have c := hI.2.2.1
  refine inv_sh hI (T := su S 45 s.toNat (-1)) (f45 := fun j => if j = s.toNat then -1 else S 45 j) (f46 := S 46) (f47 := S 47) ?_ c.2.1 c.2.2.1 ?_ ?_ ?_ ?_
  · intro k hk
    have := c.1 k hk
    split <;> omega
  · intro k a b e _
    rw [su_ne _ a]
  · funext j
    rw [su_row]
  · rw [su_ne _ (by decide)]
  · rw [su_ne _ (by decide)]
theorem cutf_r {f v : Int} (hv : R32 v) : R32 (cutf f v) := by
  unfold cutf
  split
  · exact i32_rng _
  · split
    · exact i32_rng _
    · exact hv
theorem inv_lay {S : Sx} (hI : InvM S) (s f i v : Int) (hv : R32 v) : InvM (q_lay S s f i v).2 := by
  unfold q_lay
  split
  · exact hI
  split
  · exact hI
  split
  · exact inv_find hI (by decide)
  split
  · exact inv_find hI (by decide)
  split
  · have c := hI.2.2.1
    refine inv_sh hI (T := su S 47 (60 * s + i).toNat (cutf f v)) (f45 := S 45) (f46 := S 46) (f47 := fun j => if j = (60 * s + i).toNat then cutf f v else S 47 j) c.1 c.2.1 ?_ ?_ ?_ ?_ ?_
    · intro k hk
      split
      · exact cutf_r hv
      · exact c.2.2.1 k hk
    · intro k a b e _
      rw [su_ne _ e]
    · rw [su_ne _ (by decide)]
    · rw [su_ne _ (by decide)]
    · funext j
      rw [su_row]
  · exact inv_find hI (by decide)
theorem inv_get {S : Sx} (hI : InvM S) (s f i : Int) : InvM (q_get S s f i).2 := by
  unfold q_get
  (repeat' split) <;> first | exact hI | exact inv_find hI (by decide)
theorem inv_copy {S : Sx} (hI : InvM S) (s i t j n : Int) : InvM (q_copy S s i t j n).2 := by
  unfold q_copy
  split
  · exact hI
  split
  · exact hI
  split
  · exact inv_find hI (by decide)
  split
  · exact inv_find hI (by decide)
  split
  · exact inv_find hI (by decide)
  split
  · exact inv_find hI (by decide)
  next h1 h2 h3 h4 h5 h6 =>
  have c := hI.2.2.1
  have l1 := c.2.1 s.toNat (by omega)
  have l2 := c.2.1 t.toNat (by omega)
  refine inv_sh hI (T := sr (sr S 48 (fill (S 48) (fun a => S 47 ((60 * s + i).toNat + a)) 0 n.toNat)) 47 (fill (S 47) (fun a => S 47 ((60 * s + i).toNat + a)) (60 * t + j).toNat n.toNat)) (f45 := S 45) (f46 := S 46) (f47 := fill (S 47) (fun a => S 47 ((60 * s + i).toNat + a)) (60 * t + j).toNat n.toNat) c.1 c.2.1 ?_ ?_ ?_ ?_ ?_
  · intro k hk
    unfold fill
    split
    · exact c.2.2.1 _ (by omega)
    · exact c.2.2.1 k hk
  · intro k a b e g
    rw [sr_ne _ e, sr_ne _ g]
  · rw [sr_ne _ (by decide), sr_ne _ (by decide)]
  · rw [sr_ne _ (by decide), sr_ne _ (by decide)]
  · rw [sr_at]
theorem inv_write {S : Sx} (hI : InvM S) (y s : Int) : InvM (q_write S y s).2 := by
  unfold q_write
  split
  · exact hI
  split
  · exact hI
  split
  · exact inv_find hI (by decide)
  next h1 h2 h3 =>
  have c := hI.2.2.1
  have n8 := aN_8 hI.1
  refine inv_sh hI (T := sr S 47 (fill (S 47) (fun p => cutf (S 45 s.toNat) (a_solidOf (av S) y (p : Int))) (60 * s).toNat (lsr (S 46 s.toNat) (aN (av S))).toNat)) (f45 := S 45) (f46 := S 46) (f47 := fill (S 47) (fun p => cutf (S 45 s.toNat) (a_solidOf (av S) y (p : Int))) (60 * s).toNat (lsr (S 46 s.toNat) (aN (av S))).toNat) c.1 c.2.1 ?_ ?_ ?_ ?_ ?_
  · intro k hk
    unfold fill
    split
    · next g =>
      refine cutf_r ?_
      have l1 := (lsr_le (c.2.1 s.toNat (by omega)).1 (show (0 : Int) ≤ (aN (av S) : Int) by omega)).2.2
      have := solidOf_bd hI.1 (y := y) (p := ((k - (60 * s).toNat : Nat) : Int)) (by omega) (by omega)
      exact ⟨by omega, by omega⟩
    · exact c.2.2.1 k hk
  · intro k a b e _
    rw [sr_ne _ e]
  · rw [sr_ne _ (by decide)]
  · rw [sr_ne _ (by decide)]
  · rw [sr_at]
