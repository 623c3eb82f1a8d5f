/-! the law: its script, its steps -/
def XK (κ : Kx) (b Ln : Nat) (xs : Nat → Int32) : Prop := match κ with
  | (p, l, e, R, s, m, args, below, meth, c, Q, H0, A, n0, _, _) => va_X b Ln xs s H0 ∧ b < H0.size ∧ ¬ A b
section LAWR
variable {κ : Kx} {Γ : Ev} {own : String} {cc : ByteArray} {nL d pc : Nat} {L : List (Option Value)} {st : List Value} {ws : va_W}
theorem G_slen (hk : Ok κ Γ own cc nL d) {b Ln : Nat} {xs : Nat → Int32} (hX : XK κ b Ln xs) (hd : decode cc pc = .ok (.arraylength, 1)) (k : GW κ Γ (pc + 1) L (vI (Ln : Int) :: st) ws) : GW κ Γ pc L (.ref b :: st) ws := by
  obtain ⟨p, l, e, R, s, m, args, below, meth, c, Q, H0, A, n0, c1, c2⟩ := κ
  have hn0 : n0 = nL := hk.2.2.2.2.2.2.2.2.2.2.2.2
  subst hn0
  obtain ⟨x1, x2, x3⟩ := hX
  intro H locs ls hP hD hS hl
  refine va_slen hk.1 hk.2.1 x1 x2 x3 hS hd ?_
  have h9 := k H locs ls hP hD hS hl
  rw [vI, ofInt_nI] at h9
  exact h9
theorem G_sld (hk : Ok κ Γ own cc nL d) {b Ln : Nat} {xs : Nat → Int32} (hX : XK κ b Ln xs) {z : Int} (i : Nat) (hd : decode cc pc = .ok (.iaload, 1)) (hz : z = (i : Int)) (h1 : i < Ln) (h4 : Ln ≤ 448) (k : GW κ Γ (pc + 1) L (vI (xs i).toInt :: st) ws) : GW κ Γ pc L (vI z :: .ref b :: st) ws := by
  obtain ⟨p, l, e, R, s, m, args, below, meth, c, Q, H0, A, n0, c1, c2⟩ := κ
  have hn0 : n0 = nL := hk.2.2.2.2.2.2.2.2.2.2.2.2
  subst hn0
  subst hz
  obtain ⟨x1, x2, x3⟩ := hX
  intro H locs ls hP hD hS hl
  have hr : R32 (i : Int) := ⟨by omega, by omega⟩
  refine va_sld hk.1 hk.2.1 x1 x2 x3 hS (i32_in (by omega) (by omega) hr) hd ?_
  have h9 := k H locs ls hP hD hS hl
  rw [vI, i32_self] at h9
  rw [i32_cl hr (by omega), Int.toNat_natCast]
  exact h9
theorem G_ieqS (hk : Ok κ Γ own cc nL d) {x : Int} {off : Int} {tgt : Nat} (hd : decode cc pc = .ok (.if_icmp .eq off, 3)) (ht : (pc : Int) + off = (tgt : Int)) (kt : GW κ Γ tgt L st ws) : GW κ Γ pc L (vI x :: vI x :: st) ws := by
  obtain ⟨p, l, e, R, s, m, args, below, meth, c, Q, H0, A, n0, c1, c2⟩ := κ
  have hn0 : n0 = nL := hk.2.2.2.2.2.2.2.2.2.2.2.2
  subst hn0
  intro H locs ls hP hD hS hl
  exact lv_icmp_eq hk.1 hk.2.1 hd ht (fun _ => kt H locs ls hP hD hS hl) (fun h => absurd rfl h)
end LAWR
theorem step_q {q : Sx → Qx} (hl : Lcl q) {S S2 S3 : Sx} {rx rm : Int} (h1 : rx = (q S).1 ∧ CR S2 (q S).2 ∧ hiC S S2) (h2 : (rm, S3) = q S2) (hI : InvM (q S).2) : rx = rm ∧ CR S3 S3 ∧ InvM S3 := by
  obtain ⟨l1, l2⟩ := hl S S2 h1.2.2
  have e1 : rm = (q S2).1 := congrArg Prod.fst h2
  have e2 : S3 = (q S2).2 := congrArg Prod.snd h2
  have g : hiC (q S).2 S3 := fun c hc => by rw [e2]; exact l2.1 c hc
  exact ⟨by rw [h1.1, e1, l1], CR_cong h1.2.1 (fun c hc => by rw [e2]; exact l2.2 c hc) g, InvM_hi g hI⟩
theorem CR_frQ {S S2 S3 : Sx} (h : CR S2 S) (hh : hiC S S2) (f : frQ S2 S3) : CR S3 S3 := by
  obtain ⟨⟨h1, h2, h3, h4, h5⟩, h6⟩ := h
  have ea : av S3 = av S := by rw [av_frQ f, av_hi hh]
  have e44 : S3 44 4 = S 44 4 := by rw [f.2.1 4 (by omega), hh 44 (by decide)]
  have g : ∀ c, c < 44 → S3 c = S2 c := fun c hc => f.1 c (by omega) (by omega) (by omega) (by omega) (by omega) (by omega)
  have gs : ∀ c, 45 ≤ c → c ≤ 47 → S3 c = S c := fun c a b => by rw [f.1 c (by omega) (by omega) (by omega) (by omega) (by omega) (by omega), hh c (by omega)]
  refine ⟨⟨?_, ?_, ?_, ?_, ?_⟩, ShR_cong h6 (fun c _ b => g c (by omega)) (gs 45 (by decide) (by decide)) (gs 46 (by decide) (by decide)) (gs 47 (by decide) (by decide))⟩
  · rw [ea]; exact ClE_lo h1 (fun c hc => g c (by omega))
  · rw [ea]; exact WiR_cong h2 (fun c _ b => g c (by omega))
  · rw [ea, g 24 (by decide)]; exact h3
  · rw [ea, g 0 (by decide)]; exact h4
  · rw [e44, g 0 (by decide)]; exact h5
theorem step_a {S S2 S3 : Sx} (hR : CR S S) (hI : InvM S) (h1 : frK S S2) (h2 : frQ S2 S3) : CR S3 S3 ∧ InvM S3 := ⟨CR_frQ (CR_frK hR h1) (frK_hi h1) h2, InvM_frQ (InvM_hi (frK_hi h1) hI) h2⟩
theorem step_w {S S2 S3 : Sx} {y s rx rm : Int} (h1 : rx = (q_write S y s).1 ∧ CR S2 (q_write S y s).2 ∧ hiC S S2) (h2 : rm = (q_write S2 y s).1 ∧ frQ (q_write S2 y s).2 S3) (hI : InvM S) : rx = rm ∧ CR S3 S3 ∧ InvM S3 := by
  obtain ⟨g1, g2, g3⟩ := step_q (q := fun S => q_write S y s) (loc_write y s) (S3 := (q_write S2 y s).2) (rm := (q_write S2 y s).1) h1 rfl (inv_write hI y s)
  exact ⟨by rw [g1, h2.1], CR_frQ g2 (hiC_0 _) h2.2, InvM_frQ g3 h2.2⟩
theorem im6 {S : Sx} (h : InvM S) : 0 ≤ S 44 6 ∧ S 44 6 ≤ 31 := ⟨h.2.1.1, by have h1 : (S 44 6).toNat ≤ 31 := h.1.1; have h2 := h.2.1.1; omega⟩
theorem im10 {S : Sx} (h : InvM S) : 0 ≤ S 44 10 ∧ S 44 10 ≤ 12 := ⟨h.2.1.2.1, by have h1 : (S 44 10).toNat ≤ 12 := h.1.2.2.1; have h2 := h.2.1.2.1; omega⟩
theorem im12 {S : Sx} (h : InvM S) : 0 ≤ S 44 12 ∧ S 44 12 ≤ 12 := ⟨h.2.1.2.2.1, by have h1 : (S 44 12).toNat ≤ 12 := h.1.2.2.2.2.1; have h2 := h.2.1.2.2.1; omega⟩
theorem im31 {S : Sx} (h : InvM S) : 0 ≤ S 44 31 ∧ S 44 31 ≤ 8 := ⟨h.2.1.2.2.2, by have h1 : (S 44 31).toNat ≤ 8 := h.1.2.2.2.2.2.2.2.2.1; have h2 := h.2.1.2.2.2; omega⟩
