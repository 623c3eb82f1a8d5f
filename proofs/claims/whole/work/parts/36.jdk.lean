/-- a contract out of a walk, of the JDK's own members -/
theorem Ctr.ofF {l : Launch} {Γ : Ev} {d : Nat} {y : MethodName} {cc : ByteArray} {nL : Nat} {ret : Option FieldType} {avs : List Value} {S : Sx} {post : Option Value → Sx → Prop} (hy : plainFor y = true) {own : String} (ho : y.cls = own) {L : List (Option Value)} (hL : ent avs = L) (hn : (lg_sl avs).length ≤ nL)
    (body : ∀ κ : Kx, κ.2.1 = l → Ok κ Γ own cc nL d → Rt κ Γ ret post → GW κ Γ 0 L [] (wl Γ S)) : Ctr l Γ d (y, cc, nL, ret) avs S post := by
  intro sz
  subst ho
  refine va_MetF (cc := cc) (maxL := nL) (ret := ret) (ws' := gt) hy rfl ?_
  intro p e s m args below meth c s₁ B hml hv
  obtain ⟨rfl, hsz, hP, hK, hD0⟩ := hv
  have hts := atoms_spec (ws := gws (y, cc, nL, ret)) B.pre
  have hD := wl_Aw hD0 sz
  rw [lg_entry_eq]
  have hl := lv_entry avs hn
  rw [← ent_args, hL] at hl
  refine body (p, l, e, (headSpec (gws (y, cc, nL, ret)) (rmd d)).room, s, m, avs.toArray, below, meth, c, _, s.heap, Aw Γ sz, nL, 0, 0) rfl ?_ ?_ s.heap [] _ hP hD va_S.rf hl
  · exact ⟨B.exec, B.bytes, hml, findClass_of_methodNamed B.named, fun w hw => hts w (List.mem_cons_of_mem _ hw), hK, fun q hq => Or.inr (hsz ▸ hq), B.notSynchronized, Nat.le_refl d, Nat.le_refl _, Nat.zero_le _, Nat.zero_le _, rfl⟩
  · exact ⟨B.returns, rfl, rfl⟩

theorem c_J9_max (l : Launch) (Γ : Ev) (d : Nat) (S : Sx) (a b : Int) (h1 : R32 a) (h2 : R32 b) : Ctr l Γ d mJ9_max_7cf53 [vI a, vI b] S (pP S (if a < b then b else a)) := by
  refine Ctr.ofF (by decide +kernel) rfl rfl (Nat.le_of_ble_eq_true rfl) ?_
  intro κ hl hk hr
  subst hl
  refine G_iload_n hk dJ9_max_7cf53_0 rfl ?_
  refine G_iload_n hk dJ9_max_7cf53_1 rfl ?_
  refine G_icmp_lt (tgt := 9) hk dJ9_max_7cf53_2 (by decide) ⟨by omega, by omega⟩ ⟨by omega, by omega⟩ (fun h_2 => ?_) (fun h_2 => ?_)
  · refine G_iload_n hk dJ9_max_7cf53_9 rfl ?_
    exact G_iret hk hr dJ9_max_7cf53_10 ⟨by split <;> first | rfl | (exfalso; omega), rfl⟩
  · refine G_iload_n hk dJ9_max_7cf53_5 rfl ?_
    refine G_goto (tgt := 10) hk dJ9_max_7cf53_6 (by decide) ?_
    exact G_iret hk hr dJ9_max_7cf53_10 ⟨by split <;> first | rfl | (exfalso; omega), rfl⟩

theorem c_J9_min (l : Launch) (Γ : Ev) (d : Nat) (S : Sx) (a b : Int) (h1 : R32 a) (h2 : R32 b) : Ctr l Γ d mJ9_min_7cf53 [vI a, vI b] S (pP S (if a > b then b else a)) := by
  refine Ctr.ofF (by decide +kernel) rfl rfl (Nat.le_of_ble_eq_true rfl) ?_
  intro κ hl hk hr
  subst hl
  refine G_iload_n hk dJ9_min_7cf53_0 rfl ?_
  refine G_iload_n hk dJ9_min_7cf53_1 rfl ?_
  refine G_icmp_gt (tgt := 9) hk dJ9_min_7cf53_2 (by decide) ⟨by omega, by omega⟩ ⟨by omega, by omega⟩ (fun h_2 => ?_) (fun h_2 => ?_)
  · refine G_iload_n hk dJ9_min_7cf53_9 rfl ?_
    exact G_iret hk hr dJ9_min_7cf53_10 ⟨by split <;> first | rfl | (exfalso; omega), rfl⟩
  · refine G_iload_n hk dJ9_min_7cf53_5 rfl ?_
    refine G_goto (tgt := 10) hk dJ9_min_7cf53_6 (by decide) ?_
    exact G_iret hk hr dJ9_min_7cf53_10 ⟨by split <;> first | rfl | (exfalso; omega), rfl⟩

def fl (S : Sx) (b : Nat) (v : Int) (k : Nat) : Sx := sr S b (fun j => if j < k then v else S b j)
theorem fl_0 (S : Sx) (b : Nat) (v : Int) : fl S b v 0 = S := by
  funext c j
  simp only [fl, sr]
  split
  · next h => subst h; simp
  · rfl
theorem fl_s (S : Sx) (b : Nat) (v : Int) (k : Nat) : su (fl S b v k) b k v = fl S b v (k + 1) := by
  funext c j
  simp only [fl, sr, su]
  by_cases h : c = b
  · subst h
    simp only [↓reduceIte]
    by_cases e : j = k
    · rw [if_pos e, if_pos (by omega)]
    · rw [if_neg e]
      by_cases e2 : j < k
      · rw [if_pos e2, if_pos (by omega)]
      · rw [if_neg e2, if_neg (by omega)]
  · simp only [if_neg h]
theorem fl_ne {S : Sx} {b : Nat} {v : Int} {k c : Nat} (h : c ≠ b) : fl S b v k c = S c := by simp [fl, sr, h]
theorem fl_at {S : Sx} {b : Nat} {v : Int} {k j : Nat} (h : j < k) : fl S b v k b j = v := by simp [fl, sr, h]
theorem fl_ge {S : Sx} {b : Nat} {v : Int} {k j : Nat} (h : ¬ j < k) : fl S b v k b j = S b j := by simp [fl, sr, h]

theorem c_fillI (l : Launch) (Γ : Ev) (d : Nat) (S : Sx) (b n : Nat) (hb : b < 59) (hy : lay b = .inl (0, n, [])) (hn : n < 1000) (v : Int) : Ctr l Γ d mJ7_fill_53178 [rf Γ b, vI v] S (pV (fun S2 => S2 = fl S b v n)) := by
  refine Ctr.ofF (by decide +kernel) rfl rfl (Nat.le_of_ble_eq_true rfl) ?_
  intro κ hl hk hr
  subst hl
  refine G_iconst hk dJ7_fill_53178_0 ?_
  refine G_istore_n hk dJ7_fill_53178_1 (by decide) rfl ?_
  refine G_rload_n hk dJ7_fill_53178_2 rfl ?_
  refine G_alen hk dJ7_fill_53178_3 hb hy ?_
  refine G_istore_n hk dJ7_fill_53178_4 (by decide) rfl ?_
  have lp := loop_up (P := fun k => GW κ Γ 5 [some (rf Γ b), some (vI v), some (vI k), some (vI (n : Int))] [] (wl Γ (fl S b v k))) n ?_ ?_ 0 (Nat.zero_le _)
  · rw [fl_0] at lp
    exact lp
  · refine G_iload_n hk dJ7_fill_53178_5 rfl ?_
    refine G_iload_n hk dJ7_fill_53178_6 rfl ?_
    refine G_icmp_ge (tgt := 20) hk dJ7_fill_53178_7 (by decide) ⟨by omega, by omega⟩ ⟨by omega, by omega⟩ (fun h_7 => ?_) (fun h_7 => ?_)
    · exact G_vret hk hr dJ7_fill_53178_20 rfl
    · exact absurd h_7 (by omega)--stop
  · intro k hk9 ih
    refine G_iload_n hk dJ7_fill_53178_5 rfl ?_
    refine G_iload_n hk dJ7_fill_53178_6 rfl ?_
    refine G_icmp_ge (tgt := 20) hk dJ7_fill_53178_7 (by decide) ⟨by omega, by omega⟩ ⟨by omega, by omega⟩ (fun h_7 => ?_) (fun h_7 => ?_)
    · exact absurd h_7 (by omega)--stop
    · refine G_rload_n hk dJ7_fill_53178_10 rfl ?_
      refine G_iload_n hk dJ7_fill_53178_11 rfl ?_
      refine G_iload_n hk dJ7_fill_53178_12 rfl ?_
      refine G_iast hk dJ7_fill_53178_13 hb hy hn (by omega) (by omega) ?_
      refine G_iinc hk dJ7_fill_53178_14 rfl (by decide) rfl ?_
      refine G_goto (tgt := 5) hk dJ7_fill_53178_17 (by decide) ?_
      rw [show ((k : Int)).toNat = k from rfl, fl_s]
      exact ih

theorem c_fillL (l : Launch) (Γ : Ev) (d : Nat) (S : Sx) (b n : Nat) (hb : b < 59) (hy : lay b = .inl (1, n, [])) (hn : n < 1000) (v : Int) : Ctr l Γ d mJ7_fill_d0a16 [rf Γ b, vL v] S (pV (fun S2 => S2 = fl S b v n)) := by
  refine Ctr.ofF (by decide +kernel) rfl rfl (Nat.le_of_ble_eq_true rfl) ?_
  intro κ hl hk hr
  subst hl
  refine G_iconst hk dJ7_fill_d0a16_0 ?_
  refine G_istore_n hk dJ7_fill_d0a16_1 (by decide) rfl ?_
  refine G_rload_n hk dJ7_fill_d0a16_2 rfl ?_
  refine G_alen hk dJ7_fill_d0a16_3 hb hy ?_
  refine G_istore hk dJ7_fill_d0a16_4 (by decide) rfl ?_
  have lp := loop_up (P := fun k => GW κ Γ 6 [some (rf Γ b), some (vL v), none, some (vI k), some (vI (n : Int))] [] (wl Γ (fl S b v k))) n ?_ ?_ 0 (Nat.zero_le _)
  · rw [fl_0] at lp
    exact lp
  · refine G_iload_n hk dJ7_fill_d0a16_6 rfl ?_
    refine G_iload hk dJ7_fill_d0a16_7 rfl ?_
    refine G_icmp_ge (tgt := 22) hk dJ7_fill_d0a16_9 (by decide) ⟨by omega, by omega⟩ ⟨by omega, by omega⟩ (fun h_9 => ?_) (fun h_9 => ?_)
    · exact G_vret hk hr dJ7_fill_d0a16_22 rfl
    · exact absurd h_9 (by omega)--stop
  · intro k hk9 ih
    refine G_iload_n hk dJ7_fill_d0a16_6 rfl ?_
    refine G_iload hk dJ7_fill_d0a16_7 rfl ?_
    refine G_icmp_ge (tgt := 22) hk dJ7_fill_d0a16_9 (by decide) ⟨by omega, by omega⟩ ⟨by omega, by omega⟩ (fun h_9 => ?_) (fun h_9 => ?_)
    · exact absurd h_9 (by omega)--stop
    · refine G_rload_n hk dJ7_fill_d0a16_12 rfl ?_
      refine G_iload_n hk dJ7_fill_d0a16_13 rfl ?_
      refine G_lload_n hk dJ7_fill_d0a16_14 rfl ?_
      refine G_last hk dJ7_fill_d0a16_15 hb hy hn (by omega) (by omega) ?_
      refine G_iinc hk dJ7_fill_d0a16_16 rfl (by decide) rfl ?_
      refine G_goto (tgt := 6) hk dJ7_fill_d0a16_19 (by decide) ?_
      rw [show ((k : Int)).toNat = k from rfl, fl_s]
      exact ih
