/-! contracts, ends, calls -/
def mq (Γ : Ev) (A : Nat → Prop) (post : Option Value → Sx → Prop) : Array Value → State → Outcome → State → Prop := fun _ st oc t => (∃ (v : Option Value) (S : Sx), oc = .returned v ∧ post v S ∧ va_P Γ.1 cls (wl Γ S) t.heap ∧ va_K Γ.1 cls (tys Γ) t ∧ va_D A (wl Γ S)) ∧ va_F A st t
def Aw (Γ : Ev) (sz : Nat) : Nat → Prop := fun q => (∃ c, c < 59 ∧ q = Γ.2.2.2.2 c) ∨ sz ≤ q
def rmd (d : Nat) : Room := { frames := d, cells := 0, slots := 0, locals := 41 * d }
def Ctr (l : Launch) (Γ : Ev) (d : Nat) (M : Mth) (avs : List Value) (S : Sx) (post : Option Value → Sx → Prop) : Prop := ∀ sz : Nat, Met l M.1 (gws M) (rmd d) (va_Pc avs (fun U => U.heap.size = sz ∧ va_P Γ.1 cls (wl Γ S) U.heap ∧ va_K Γ.1 cls (tys Γ) U ∧ va_D (fun _ => True) (wl Γ S))) (mq Γ (Aw Γ sz) post) 0 0 (Aw Γ sz)
def Rt (κ : Kx) (Γ : Ev) (ret : Option FieldType) (post : Option Value → Sx → Prop) : Prop := match κ with
  | (p, l, e, R, s, m, args, below, meth, c, Q, H0, A, n0, c1, c2) => meth.sig.returnType = ret ∧ Q = MQ below (mq Γ A post) args s c1 c2 A ∧ H0 = s.heap
def pI (post : Int → Sx → Prop) : Option Value → Sx → Prop := fun v S => ∃ r : Int, v = some (vI r) ∧ post r S
def pL (post : Int → Sx → Prop) : Option Value → Sx → Prop := fun v S => ∃ r : Int, v = some (vL r) ∧ post r S
def pV (post : Sx → Prop) : Option Value → Sx → Prop := fun v S => v = none ∧ post S
theorem wl_D {Γ : Ev} {S S' : Sx} {A : Nat → Prop} (h : va_D A (wl Γ S)) : va_D A (wl Γ S') := by
  have hl : ∀ {T : Sx} {i : Nat} {q : Nat × va_E}, (wl Γ T)[i]? = some q → i < 59 ∧ q.1 = Γ.2.2.2.2 i := by
    intro T i q hq
    have h1 : i < 59 := by
      have := (List.getElem?_eq_some_iff.mp hq).1
      simpa [wl] using this
    rw [wl_at h1] at hq
    cases hq
    exact ⟨h1, rfl⟩
  refine ⟨fun i j p q hp hq e => ?_, fun k q hq => ?_⟩
  · obtain ⟨h1, e1⟩ := hl hp
    obtain ⟨h2, e2⟩ := hl hq
    exact h.1 i j _ _ (wl_at h1) (wl_at h2) (by simp only; rw [← e1, ← e2]; exact e)
  · obtain ⟨h1, e1⟩ := hl hq
    rw [e1]
    exact h.2 k _ (wl_at h1)
theorem wl_Aw {Γ : Ev} {S : Sx} {A : Nat → Prop} (h : va_D A (wl Γ S)) (sz : Nat) : va_D (Aw Γ sz) (wl Γ S) := by
  refine ⟨h.1, fun k q hq => ?_⟩
  have h1 : k < 59 := by
    have := (List.getElem?_eq_some_iff.mp hq).1
    simpa [wl] using this
  rw [wl_at h1] at hq
  cases hq
  exact Or.inl ⟨k, h1, rfl⟩
theorem Aw_in {Γ : Ev} {S : Sx} {A : Nat → Prop} (h : va_D A (wl Γ S)) {H0 H : Heap} {locs : List Loc} (hS : va_S A H0 H locs) (hA : ∀ q, H0.size ≤ q → A q) : ∀ q, Aw Γ H.size q → A q := by
  rintro q (⟨c, h1, rfl⟩ | h2)
  · exact h.2 c _ (wl_at h1)
  · exact hA q (Nat.le_trans hS.1 h2)
/-- a contract out of a walk -/
theorem Ctr.of {l : Launch} {Γ : Ev} {d : Nat} {y : MethodName} {cc : ByteArray} {nL : Nat} {ret : Option FieldType} {avs : List Value} {S : Sx} {post : Option Value → Sx → Prop} (hy : plainName y.cls = true) {own : String} (ho : y.cls = own) {L : List (Option Value)} (hL : ent avs = L) (hn : (lg_sl avs).length ≤ nL)
    (body : ∀ κ : Kx, κ.2.1 = l → Ok κ Γ own cc nL d → Rt κ Γ ret post → GW κ Γ 0 L [] (wl Γ S)) : Ctr l Γ d (y, cc, nL, ret) avs S post := by
  intro sz
  subst ho
  refine Met.ofW (cc := cc) (maxL := nL) (ret := ret) (ws' := gt) hy rfl ?_
  intro p e s m args below meth c s₁ B hml hv
  obtain ⟨rfl, hsz, hP, hK, hD0⟩ := hv
  have hts := atoms_spec (ws := gws (y, cc, nL, ret)) B.pre
  have hD := wl_Aw hD0 sz
  rw [lg_entry_eq]
  have hl := lv_entry avs hn
  rw [← ent_args, hL] at hl
  refine body (p, l, e, (headSpec (gws (y, cc, nL, ret)) (rmd d)).room, s, m, avs.toArray, below, meth, c, _, s.heap, Aw Γ sz, nL, 0, 0) rfl ?_ ?_ s.heap [] _ hP hD va_S.rf hl
  · exact ⟨B.exec, B.bytes, hml, findClass_of_methodNamed B.named, fun w hw => hts w (List.mem_cons_of_mem _ hw), hK, fun q hq => Or.inr (hsz ▸ hq), B.notSynchronized, Nat.le_refl d, Nat.le_refl _, Nat.zero_le _, Nat.zero_le _, rfl⟩
  · exact ⟨B.returns, rfl, rfl⟩
section ENDS
variable {κ : Kx} {Γ : Ev} {own : String} {cc : ByteArray} {nL d pc : Nat} {L : List (Option Value)} {st : List Value} {S : Sx}
theorem G_iret {post : Int → Sx → Prop} (hk : Ok κ Γ own cc nL d) (hr : Rt κ Γ (some .int) (pI post)) {x : Int} (hd : decode cc pc = .ok (.ireturn, 1)) (h : post x S) : GW κ Γ pc L [vI x] (wl Γ S) := by
  obtain ⟨p, l, e, R, s, m, args, below, meth, c, Q, H0, A, n0, c1, c2⟩ := κ
  intro H locs ls hP hD hS hl
  obtain ⟨r1, r2, r3⟩ := hr
  subst r2
  subst r3
  have hlocks : meth.locks = false := hk.2.2.2.2.2.2.2.1
  exact W.iret hk.1 hk.2.1 r1 (fun t ht hW => ⟨⟨_, S, rfl, ⟨x, rfl, h⟩, by rw [ht]; exact hP, va_K.moved hW.alike hk.2.2.2.2.2.1, hD⟩, hS.F ht⟩) hS.2.2 hd hlocks
theorem narrow_b01 {x : Int} (hx : x = 0 ∨ x = 1) : narrow .boolean (.int (Int32.ofInt x)) = .int (Int32.ofInt x) := by
  rcases hx with rfl | rfl <;> decide
theorem G_zret {post : Int → Sx → Prop} (hk : Ok κ Γ own cc nL d) (hr : Rt κ Γ (some .boolean) (pI post)) {x : Int} (hd : decode cc pc = .ok (.ireturn, 1)) (hx : x = 0 ∨ x = 1) (h : post x S) : GW κ Γ pc L [vI x] (wl Γ S) := by
  obtain ⟨p, l, e, R, s, m, args, below, meth, c, Q, H0, A, n0, c1, c2⟩ := κ
  intro H locs ls hP hD hS hl
  obtain ⟨r1, r2, r3⟩ := hr
  subst r2
  subst r3
  have hlocks : meth.locks = false := hk.2.2.2.2.2.2.2.1
  exact W.zret hk.1 hk.2.1 r1 (narrow_b01 hx) (fun t ht hW => ⟨⟨_, S, rfl, ⟨x, rfl, h⟩, by rw [ht]; exact hP, va_K.moved hW.alike hk.2.2.2.2.2.1, hD⟩, hS.F ht⟩) hS.2.2 hd hlocks
theorem G_lret {post : Int → Sx → Prop} (hk : Ok κ Γ own cc nL d) (hr : Rt κ Γ (some .long) (pL post)) {x : Int} (hd : decode cc pc = .ok (.lreturn, 1)) (h : post x S) : GW κ Γ pc L [vL x] (wl Γ S) := by
  obtain ⟨p, l, e, R, s, m, args, below, meth, c, Q, H0, A, n0, c1, c2⟩ := κ
  intro H locs ls hP hD hS hl
  obtain ⟨r1, r2, r3⟩ := hr
  subst r2
  subst r3
  have hlocks : meth.locks = false := hk.2.2.2.2.2.2.2.1
  exact W.lret hk.1 hk.2.1 r1 (fun t ht hW => ⟨⟨_, S, rfl, ⟨x, rfl, h⟩, by rw [ht]; exact hP, va_K.moved hW.alike hk.2.2.2.2.2.1, hD⟩, hS.F ht⟩) hS.2.2 hd hlocks
theorem G_vret {post : Sx → Prop} (hk : Ok κ Γ own cc nL d) (hr : Rt κ Γ none (pV post)) (hd : decode cc pc = .ok (.return_, 1)) (h : post S) : GW κ Γ pc L [] (wl Γ S) := by
  obtain ⟨p, l, e, R, s, m, args, below, meth, c, Q, H0, A, n0, c1, c2⟩ := κ
  intro H locs ls hP hD hS hl
  obtain ⟨r1, r2, r3⟩ := hr
  subst r2
  subst r3
  have hlocks : meth.locks = false := hk.2.2.2.2.2.2.2.1
  exact W.vret hk.1 hk.2.1 r1 (fun t ht hW => ⟨⟨_, S, rfl, ⟨rfl, h⟩, by rw [ht]; exact hP, va_K.moved hW.alike hk.2.2.2.2.2.1, hD⟩, hS.F ht⟩) hS.2.2 hd hlocks
end ENDS
section VACG
variable {p : Program} {l : Launch} {e : Env} {R : Room} {s : State} {m : MethodId} {args : Array Value} {below : List Frame} {meth : Method} {c : Code} {H : Heap} {locs : List Loc} {cells slots : Nat} {Q : State → Prop}
variable {pc : Nat} {ls : Array Slot} {rest st0 : List Value} {a : Array Value} {A0 A1 : Nat → Prop} {H0 : Heap} {free : Addr → Prop}
theorem va_callg {Γ : Ev} {post : Option Value → Sx → Prop} (hr : va_Run p l e R s m args below meth c H locs cells slots 0 0 (F0 m pc ls st0) rest (mq Γ A1 post a) free) (hS : va_S A0 H0 H locs) (hA : ∀ q, q < H.size → A1 q → A0 q) (hf : ∀ q, free q → A0 q)
    (kk : ∀ (v : Option Value) (S : Sx) (H1 : Heap) (locs1 : List Loc), post v S → va_P Γ.1 cls (wl Γ S) H1 → va_D A1 (wl Γ S) → va_S A0 H0 H1 locs1 → W p l e R s m args below meth c H1 locs1 cells slots Q (F0 m (pc + 3) ls (v.toList ++ rest))) : W p l e R s m args below meth c H locs cells slots Q (F0 m pc ls st0) := by
  intro T hT X
  obtain ⟨v, st₀, t, T', L, h0, X', hL, e1, e2, ⟨⟨v', S, hv, hp, hP1, hK1, hD1⟩, hz, hk⟩, st⟩ := hr T hT X
  cases hv
  rw [h0] at hz hk
  obtain ⟨t2, a1, b1⟩ := kk v S T'.heap (locs ++ L) hp (by rw [e1]; exact hP1) hD1
    ⟨Nat.le_trans hS.1 (by rw [e1]; exact hz), fun q h1 h2 => by rw [e1, hk q (Nat.lt_of_lt_of_le h1 hS.1) (fun z => h2 (hA q (Nat.lt_of_lt_of_le h1 hS.1) z))]; exact hS.2.1 q h1 h2, fun q hq => by
      rcases List.mem_append.mp hq with h | h
      · exact hS.2.2 q h
      · exact hf _ (hL q h)⟩ T' rfl X'
  exact ⟨t2, st t2 a1, b1⟩
end VACG
/-- a method of the tables: what is called, with n parameters; an instance's or a static one -/
def MB (M : Mth) (n : Nat) : Prop := mw M ∈ gt ∧ Cond.initialized M.1.cls ∈ gt ∧ M.2.2.1 ≤ 22 ∧ M.1.cls ≠ "java/lang/invoke/MethodHandle" ∧ M.1.cls ≠ "java/lang/invoke/VarHandle" ∧ (parseMethodDescriptor M.1.desc).map (fun d => d.parameters.length) = some n
def MV (M : Mth) (n : Nat) : Prop := MB M n ∧ Cond.instanceMethod M.1 ∈ gt ∧ Cond.selects M.1.cls M.1 M.1 ∈ gt
def MS (M : Mth) (n : Nat) : Prop := MB M n ∧ Cond.static M.1 ∈ gt
def ML (own : String) (idx : Nat) (M : Mth) : Prop := Cond.methodLink own idx M.1 ∈ gt
theorem call_blind {avs : List Value} {Γ : Ev} {S : Sx} {sz : Nat} : FrameBlind (va_Pc avs (fun U => U.heap.size = sz ∧ va_P Γ.1 cls (wl Γ S) U.heap ∧ va_K Γ.1 cls (tys Γ) U ∧ va_D (fun _ => True) (wl Γ S))) := by
  intro a U g mk q
  obtain ⟨q0, q1, qP, qK, qD⟩ := q
  exact ⟨q0, q1, qP, va_K.moved (u := U) (U := U.calling g mk a) (Vm.Alike.refl U.vm) qK, qD⟩
section CALLS
variable {κ : Kx} {Γ : Ev} {own : String} {cc : ByteArray} {nL d pc idx n : Nat} {L : List (Option Value)} {st rest As : List Value} {S : Sx} {M : Mth} {post : Option Value → Sx → Prop}
theorem G_callV (hk : Ok κ Γ own cc nL (d + 1)) (hd : decode cc pc = .ok (.invokevirtual idx, 3)) (hm : MV M n) (hl : ML own idx M) {b ci : Nat} {ks : List (Nat ⊕ Bool)} (hb : b < 59) (hy : lay b = .inr (ci, ks)) (hcl : (cls[ci]?).map (fun r => r.1) = some M.1.cls)
    (hst : st = As.reverse ++ rf Γ b :: rest) (hn : As.length = n) (h8 : (rest.map fun v => v.category).sum ≤ 8) (hc : Ctr κ.2.1 Γ d M (rf Γ b :: As) S post)
    (k : ∀ (v : Option Value) (S' : Sx), post v S' → GW κ Γ (pc + 3) L (v.toList ++ rest) (wl Γ S')) : GW κ Γ pc L st (wl Γ S) := by
  obtain ⟨p, l, e, R, s, m, args, below, meth, c, Q, H0, A, n0, c1, c2⟩ := κ
  obtain ⟨⟨m1, m2, m3, m4, m5, m6⟩, m7, m8⟩ := hm
  obtain ⟨y, bytes, maxL, ret⟩ := M
  intro H locs ls hP hD hS hls
  subst hst
  obtain ⟨k1, k2, k3, k4, k5, k6, k7, k8, k9, k10, k11, k12, k13⟩ := hk
  subst k13
  obtain ⟨r, hr1, hr2⟩ : ∃ r, cls[ci]? = some r ∧ r.1 = y.cls := by
    cases hq : cls[ci]? with
    | none => rw [hq] at hcl; cases hcl
    | some r => rw [hq] at hcl; exact ⟨r, rfl, Option.some.inj hcl⟩
  have he : (wl Γ S)[b]? = some (Γ.2.2.2.2 b, .inr (ci, fvs Γ (S b) 0 ks)) := by rw [wl_at hb, hy]; rfl
  have hG : GoodIn gt (wsV own idx y.cls y (gws (y, bytes, maxL, ret))) := by
    intro w hw
    unfold wsV at hw
    rcases List.mem_append.mp hw with h | h
    · simp only [List.mem_cons, List.not_mem_nil, or_false] at h
      rcases h with rfl | rfl | rfl | rfl
      · exact ⟨hl, gt_good hl⟩
      · exact ⟨m7, gt_good m7⟩
      · exact ⟨m8, gt_good m8⟩
      · exact ⟨m2, gt_good m2⟩
    · exact gws_in (fun w h => h) m1 w h
  refine va_callg (va_runV (As := As) (rest := rest) (C := y.cls) (b := Γ.2.2.2.2 b) ⟨k1, k2, k3, k4, k5⟩ (hc H.size) (cwV n k5 hG rfl rfl rfl ⟨rfl, m4, m5, m6⟩ ⟨?_, ?_⟩) ⟨call_blind, ?_, fun U hU hW => ⟨rfl, by rw [hU], by rw [hU]; exact hP, va_K.moved hW.alike k6, hD.weaken (fun _ _ _ _ => trivial)⟩⟩ rfl hn hls.1 rfl (lv_room h8) hd ⟨?_, ?_⟩) hS (fun q _ h => Aw_in hD hS k7 q h) (Aw_in hD hS k7) (fun v S' H1 locs1 hp hP1 hD1 hS1 => ?_)
  · exact k9
  · have : maxL ≤ 22 := m3
    show 8 + (maxL + 11) + 41 * d ≤ R.locals
    omega
  · have := va_recv (q := r) k6 hP hr1 he
    rw [hr2] at this
    exact this
  · exact k11
  · exact k12
  · exact k v S' hp H1 locs1 ls hP1 (wl_D hD) hS1 hls
theorem G_callS (hk : Ok κ Γ own cc nL (d + 1)) (hd : decode cc pc = .ok (.invokestatic idx, 3)) (hm : MS M n) (hl : ML own idx M)
    (hst : st = As.reverse ++ rest) (hn : As.length = n) (h8 : (rest.map fun v => v.category).sum ≤ 8) (hc : Ctr κ.2.1 Γ d M As S post)
    (k : ∀ (v : Option Value) (S' : Sx), post v S' → GW κ Γ (pc + 3) L (v.toList ++ rest) (wl Γ S')) : GW κ Γ pc L st (wl Γ S) := by
  obtain ⟨p, l, e, R, s, m, args, below, meth, c, Q, H0, A, n0, c1, c2⟩ := κ
  obtain ⟨⟨m1, m2, m3, m4, m5, m6⟩, m7⟩ := hm
  obtain ⟨y, bytes, maxL, ret⟩ := M
  intro H locs ls hP hD hS hls
  subst hst
  obtain ⟨k1, k2, k3, k4, k5, k6, k7, k8, k9, k10, k11, k12, k13⟩ := hk
  subst k13
  have hcb : CallB R s args own idx y bytes maxL ret (gws (y, bytes, maxL, ret)) (rmd d) 0 0 n := by
    refine callB_of n k5 (gws_in (fun w h => h) m1) rfl rfl rfl (k5 _ m2) (k5 _ hl) ⟨m4, m5, m6⟩ ⟨k9, ?_⟩
    have : maxL ≤ 22 := m3
    show 8 + (maxL + 11) + 41 * d ≤ R.locals
    omega
  refine va_callg (va_runS (As := As) (rest := rest) ⟨k1, k2, k3, k4, k5⟩ (hc H.size) ⟨hcb, k5 _ m7⟩ ⟨call_blind, fun U hU hW => ⟨rfl, by rw [hU], by rw [hU]; exact hP, va_K.moved hW.alike k6, hD.weaken (fun _ _ _ _ => trivial)⟩⟩ rfl hn hls.1 rfl (lv_room h8) hd ⟨?_, ?_⟩) hS (fun q _ h => Aw_in hD hS k7 q h) (Aw_in hD hS k7) (fun v S' H1 locs1 hp hP1 hD1 hS1 => ?_)
  · exact k11
  · exact k12
  · exact k v S' hp H1 locs1 ls hP1 (wl_D hD) hS1 hls
end CALLS
