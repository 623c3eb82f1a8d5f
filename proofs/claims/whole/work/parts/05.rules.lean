section RULES
variable {κ : Kx} {Γ : Ev} {own : String} {cc : ByteArray} {nL d pc : Nat} {L : List (Option Value)} {st : List Value} {ws : va_W}
theorem G_iadd (hk : Ok κ Γ own cc nL d) {x y : Int} (hd : decode cc pc = .ok (.iadd, 1)) (k : GW κ Γ (pc + 1) L (vI (x + y) :: st) ws) : GW κ Γ pc L (vI y :: vI x :: st) ws := by
  obtain ⟨p, l, e, R, s, m, args, below, meth, c, Q, H0, A, n0, c1, c2⟩ := κ
  have hn0 : n0 = nL := hk.2.2.2.2.2.2.2.2.2.2.2.2
  subst hn0
  intro H locs ls hP hD hS hl
  refine lv_iadd hk.1 hk.2.1 hd ?_
  have h := k H locs ls hP hD hS hl
  rw [vI, Int32.ofInt_add] at h
  exact h
theorem G_isub (hk : Ok κ Γ own cc nL d) {x y : Int} (hd : decode cc pc = .ok (.isub, 1)) (k : GW κ Γ (pc + 1) L (vI (x - y) :: st) ws) : GW κ Γ pc L (vI y :: vI x :: st) ws := by
  obtain ⟨p, l, e, R, s, m, args, below, meth, c, Q, H0, A, n0, c1, c2⟩ := κ
  have hn0 : n0 = nL := hk.2.2.2.2.2.2.2.2.2.2.2.2
  subst hn0
  intro H locs ls hP hD hS hl
  refine lv_isub hk.1 hk.2.1 hd ?_
  have h := k H locs ls hP hD hS hl
  rw [vI, Int32.ofInt_sub] at h
  exact h
theorem G_imul (hk : Ok κ Γ own cc nL d) {x y : Int} (hd : decode cc pc = .ok (.imul, 1)) (k : GW κ Γ (pc + 1) L (vI (x * y) :: st) ws) : GW κ Γ pc L (vI y :: vI x :: st) ws := by
  obtain ⟨p, l, e, R, s, m, args, below, meth, c, Q, H0, A, n0, c1, c2⟩ := κ
  have hn0 : n0 = nL := hk.2.2.2.2.2.2.2.2.2.2.2.2
  subst hn0
  intro H locs ls hP hD hS hl
  refine lv_imul hk.1 hk.2.1 hd ?_
  have h := k H locs ls hP hD hS hl
  rw [vI, Int32.ofInt_mul] at h
  exact h
theorem G_ladd (hk : Ok κ Γ own cc nL d) {x y : Int} (hd : decode cc pc = .ok (.ladd, 1)) (k : GW κ Γ (pc + 1) L (vL (x + y) :: st) ws) : GW κ Γ pc L (vL y :: vL x :: st) ws := by
  obtain ⟨p, l, e, R, s, m, args, below, meth, c, Q, H0, A, n0, c1, c2⟩ := κ
  have hn0 : n0 = nL := hk.2.2.2.2.2.2.2.2.2.2.2.2
  subst hn0
  intro H locs ls hP hD hS hl
  refine lv_ladd hk.1 hk.2.1 hd ?_
  have h := k H locs ls hP hD hS hl
  rw [vL, Int64.ofInt_add] at h
  exact h
theorem G_lsub (hk : Ok κ Γ own cc nL d) {x y : Int} (hd : decode cc pc = .ok (.lsub, 1)) (k : GW κ Γ (pc + 1) L (vL (x - y) :: st) ws) : GW κ Γ pc L (vL y :: vL x :: st) ws := by
  obtain ⟨p, l, e, R, s, m, args, below, meth, c, Q, H0, A, n0, c1, c2⟩ := κ
  have hn0 : n0 = nL := hk.2.2.2.2.2.2.2.2.2.2.2.2
  subst hn0
  intro H locs ls hP hD hS hl
  refine lv_lsub hk.1 hk.2.1 hd ?_
  have h := k H locs ls hP hD hS hl
  rw [vL, Int64.ofInt_sub] at h
  exact h
theorem G_lmul (hk : Ok κ Γ own cc nL d) {x y : Int} (hd : decode cc pc = .ok (.lmul, 1)) (k : GW κ Γ (pc + 1) L (vL (x * y) :: st) ws) : GW κ Γ pc L (vL y :: vL x :: st) ws := by
  obtain ⟨p, l, e, R, s, m, args, below, meth, c, Q, H0, A, n0, c1, c2⟩ := κ
  have hn0 : n0 = nL := hk.2.2.2.2.2.2.2.2.2.2.2.2
  subst hn0
  intro H locs ls hP hD hS hl
  refine lv_lmul hk.1 hk.2.1 hd ?_
  have h := k H locs ls hP hD hS hl
  rw [vL, Int64.ofInt_mul] at h
  exact h
theorem G_iconst (hk : Ok κ Γ own cc nL d) {n : Int} (hd : decode cc pc = .ok (.iconst n, 1)) (k : GW κ Γ (pc + 1) L (vI n :: st) ws) : GW κ Γ pc L (st) ws := by
  obtain ⟨p, l, e, R, s, m, args, below, meth, c, Q, H0, A, n0, c1, c2⟩ := κ
  have hn0 : n0 = nL := hk.2.2.2.2.2.2.2.2.2.2.2.2
  subst hn0
  intro H locs ls hP hD hS hl
  exact lv_iconst hk.1 hk.2.1 hd rfl (k H locs ls hP hD hS hl)
theorem G_bipush (hk : Ok κ Γ own cc nL d) {n : Int} (hd : decode cc pc = .ok (.bipush n, 2)) (hn : (Int8.ofInt n).toInt32 = Int32.ofInt n) (k : GW κ Γ (pc + 2) L (vI n :: st) ws) : GW κ Γ pc L (st) ws := by
  obtain ⟨p, l, e, R, s, m, args, below, meth, c, Q, H0, A, n0, c1, c2⟩ := κ
  have hn0 : n0 = nL := hk.2.2.2.2.2.2.2.2.2.2.2.2
  subst hn0
  intro H locs ls hP hD hS hl
  exact lv_bipush hk.1 hk.2.1 hd hn (k H locs ls hP hD hS hl)
theorem G_sipush (hk : Ok κ Γ own cc nL d) {n : Int} (hd : decode cc pc = .ok (.sipush n, 3)) (hn : (Int16.ofInt n).toInt32 = Int32.ofInt n) (k : GW κ Γ (pc + 3) L (vI n :: st) ws) : GW κ Γ pc L (st) ws := by
  obtain ⟨p, l, e, R, s, m, args, below, meth, c, Q, H0, A, n0, c1, c2⟩ := κ
  have hn0 : n0 = nL := hk.2.2.2.2.2.2.2.2.2.2.2.2
  subst hn0
  intro H locs ls hP hD hS hl
  exact lv_sipush hk.1 hk.2.1 hd hn (k H locs ls hP hD hS hl)
theorem G_lconst (hk : Ok κ Γ own cc nL d) {n : Fin 2} {z : Int} (hd : decode cc pc = .ok (.lconst n, 1)) (hz : Int64.ofNat (n : Nat) = Int64.ofInt z) (k : GW κ Γ (pc + 1) L (vL z :: st) ws) : GW κ Γ pc L (st) ws := by
  obtain ⟨p, l, e, R, s, m, args, below, meth, c, Q, H0, A, n0, c1, c2⟩ := κ
  have hn0 : n0 = nL := hk.2.2.2.2.2.2.2.2.2.2.2.2
  subst hn0
  intro H locs ls hP hD hS hl
  exact lv_lconst hk.1 hk.2.1 hd hz (k H locs ls hP hD hS hl)
theorem G_ldc (hk : Ok κ Γ own cc nL d) {i : Nat} {v : Int32} {z : Int} (hd : decode cc pc = .ok (.ldc i, 2)) (hw : Cond.constant own i v ∈ gt) (hz : v = Int32.ofInt z) (k : GW κ Γ (pc + 2) L (vI z :: st) ws) : GW κ Γ pc L (st) ws := by
  obtain ⟨p, l, e, R, s, m, args, below, meth, c, Q, H0, A, n0, c1, c2⟩ := κ
  have hn0 : n0 = nL := hk.2.2.2.2.2.2.2.2.2.2.2.2
  subst hn0
  intro H locs ls hP hD hS hl
  have h := k H locs ls hP hD hS hl
  rw [vI, ← hz] at h
  exact W.ldc hk.1 hk.2.1 hk.2.2.2.1 (hk.2.2.2.2.1 _ hw) rfl hd h
theorem G_ldcw (hk : Ok κ Γ own cc nL d) {i : Nat} {v : Int32} {z : Int} (hd : decode cc pc = .ok (.ldc_w i, 3)) (hw : Cond.constant own i v ∈ gt) (hz : v = Int32.ofInt z) (k : GW κ Γ (pc + 3) L (vI z :: st) ws) : GW κ Γ pc L (st) ws := by
  obtain ⟨p, l, e, R, s, m, args, below, meth, c, Q, H0, A, n0, c1, c2⟩ := κ
  have hn0 : n0 = nL := hk.2.2.2.2.2.2.2.2.2.2.2.2
  subst hn0
  intro H locs ls hP hD hS hl
  have h := k H locs ls hP hD hS hl
  rw [vI, ← hz] at h
  exact lv_ldcw hk.1 hk.2.1 hk.2.2.2.1 (hk.2.2.2.2.1 _ hw) hd h
theorem G_ldc2 (hk : Ok κ Γ own cc nL d) {i : Nat} {v : Int64} {z : Int} (hd : decode cc pc = .ok (.ldc2_w i, 3)) (hw : Cond.constantLong own i v ∈ gt) (hz : v = Int64.ofInt z) (k : GW κ Γ (pc + 3) L (vL z :: st) ws) : GW κ Γ pc L (st) ws := by
  obtain ⟨p, l, e, R, s, m, args, below, meth, c, Q, H0, A, n0, c1, c2⟩ := κ
  have hn0 : n0 = nL := hk.2.2.2.2.2.2.2.2.2.2.2.2
  subst hn0
  intro H locs ls hP hD hS hl
  have h := k H locs ls hP hD hS hl
  rw [vL, ← hz] at h
  exact W.ldc2 hk.1 hk.2.1 hk.2.2.2.1 (hk.2.2.2.2.1 _ hw) rfl hd h
theorem G_iload_n (hk : Ok κ Γ own cc nL d) {n : Fin 4} {x : Int} (hd : decode cc pc = .ok (.iload_n n, 1)) (hL : lk L n = some (vI x)) (k : GW κ Γ (pc + 1) L (vI x :: st) ws) : GW κ Γ pc L (st) ws := by
  obtain ⟨p, l, e, R, s, m, args, below, meth, c, Q, H0, A, n0, c1, c2⟩ := κ
  have hn0 : n0 = nL := hk.2.2.2.2.2.2.2.2.2.2.2.2
  subst hn0
  intro H locs ls hP hD hS hl
  exact lv_iload_n hk.1 hk.2.1 hd rfl (lh_at hl hL) (k H locs ls hP hD hS hl)
theorem G_iload (hk : Ok κ Γ own cc nL d) {i : Nat} {x : Int} (hd : decode cc pc = .ok (.iload i, 2)) (hL : lk L i = some (vI x)) (k : GW κ Γ (pc + 2) L (vI x :: st) ws) : GW κ Γ pc L (st) ws := by
  obtain ⟨p, l, e, R, s, m, args, below, meth, c, Q, H0, A, n0, c1, c2⟩ := κ
  have hn0 : n0 = nL := hk.2.2.2.2.2.2.2.2.2.2.2.2
  subst hn0
  intro H locs ls hP hD hS hl
  exact lv_iload hk.1 hk.2.1 hd (lh_at hl hL) (k H locs ls hP hD hS hl)
theorem G_lload_n (hk : Ok κ Γ own cc nL d) {n : Fin 4} {x : Int} (hd : decode cc pc = .ok (.lload_n n, 1)) (hL : lk L n = some (vL x)) (k : GW κ Γ (pc + 1) L (vL x :: st) ws) : GW κ Γ pc L (st) ws := by
  obtain ⟨p, l, e, R, s, m, args, below, meth, c, Q, H0, A, n0, c1, c2⟩ := κ
  have hn0 : n0 = nL := hk.2.2.2.2.2.2.2.2.2.2.2.2
  subst hn0
  intro H locs ls hP hD hS hl
  exact lv_lload_n hk.1 hk.2.1 hd rfl (lh_at hl hL) (k H locs ls hP hD hS hl)
theorem G_lload (hk : Ok κ Γ own cc nL d) {i : Nat} {x : Int} (hd : decode cc pc = .ok (.lload i, 2)) (hL : lk L i = some (vL x)) (k : GW κ Γ (pc + 2) L (vL x :: st) ws) : GW κ Γ pc L (st) ws := by
  obtain ⟨p, l, e, R, s, m, args, below, meth, c, Q, H0, A, n0, c1, c2⟩ := κ
  have hn0 : n0 = nL := hk.2.2.2.2.2.2.2.2.2.2.2.2
  subst hn0
  intro H locs ls hP hD hS hl
  exact lv_lload hk.1 hk.2.1 hd (lh_at hl hL) (k H locs ls hP hD hS hl)
theorem G_aload_n (hk : Ok κ Γ own cc nL d) {n : Fin 4} {x : Nat} (hd : decode cc pc = .ok (.aload_n n, 1)) (hL : lk L n = some (.ref x)) (k : GW κ Γ (pc + 1) L (.ref x :: st) ws) : GW κ Γ pc L (st) ws := by
  obtain ⟨p, l, e, R, s, m, args, below, meth, c, Q, H0, A, n0, c1, c2⟩ := κ
  have hn0 : n0 = nL := hk.2.2.2.2.2.2.2.2.2.2.2.2
  subst hn0
  intro H locs ls hP hD hS hl
  exact lv_aload_n hk.1 hk.2.1 hd rfl (lh_at hl hL) (k H locs ls hP hD hS hl)
theorem G_aload (hk : Ok κ Γ own cc nL d) {i : Nat} {x : Nat} (hd : decode cc pc = .ok (.aload i, 2)) (hL : lk L i = some (.ref x)) (k : GW κ Γ (pc + 2) L (.ref x :: st) ws) : GW κ Γ pc L (st) ws := by
  obtain ⟨p, l, e, R, s, m, args, below, meth, c, Q, H0, A, n0, c1, c2⟩ := κ
  have hn0 : n0 = nL := hk.2.2.2.2.2.2.2.2.2.2.2.2
  subst hn0
  intro H locs ls hP hD hS hl
  exact lv_aload hk.1 hk.2.1 hd (lh_at hl hL) (k H locs ls hP hD hS hl)
theorem G_rload_n (hk : Ok κ Γ own cc nL d) {n : Fin 4} {x : Nat} (hd : decode cc pc = .ok (.aload_n n, 1)) (hL : lk L n = some (rf Γ x)) (k : GW κ Γ (pc + 1) L (rf Γ x :: st) ws) : GW κ Γ pc L (st) ws := by
  obtain ⟨p, l, e, R, s, m, args, below, meth, c, Q, H0, A, n0, c1, c2⟩ := κ
  have hn0 : n0 = nL := hk.2.2.2.2.2.2.2.2.2.2.2.2
  subst hn0
  intro H locs ls hP hD hS hl
  exact lv_aload_n hk.1 hk.2.1 hd rfl (lh_at hl hL) (k H locs ls hP hD hS hl)
theorem G_rload (hk : Ok κ Γ own cc nL d) {i : Nat} {x : Nat} (hd : decode cc pc = .ok (.aload i, 2)) (hL : lk L i = some (rf Γ x)) (k : GW κ Γ (pc + 2) L (rf Γ x :: st) ws) : GW κ Γ pc L (st) ws := by
  obtain ⟨p, l, e, R, s, m, args, below, meth, c, Q, H0, A, n0, c1, c2⟩ := κ
  have hn0 : n0 = nL := hk.2.2.2.2.2.2.2.2.2.2.2.2
  subst hn0
  intro H locs ls hP hD hS hl
  exact lv_aload hk.1 hk.2.1 hd (lh_at hl hL) (k H locs ls hP hD hS hl)
theorem G_istore_n (hk : Ok κ Γ own cc nL d) {n : Fin 4} {x : Int} (hd : decode cc pc = .ok (.istore_n n, 1)) (hn : (n : Nat) < nL) (ho : okS L n = true) (k : GW κ Γ (pc + 1) (st1 L n (some (vI x))) st ws) : GW κ Γ pc L (vI x :: st) ws := by
  obtain ⟨p, l, e, R, s, m, args, below, meth, c, Q, H0, A, n0, c1, c2⟩ := κ
  have hn0 : n0 = nL := hk.2.2.2.2.2.2.2.2.2.2.2.2
  subst hn0
  intro H locs ls hP hD hS hl
  exact lv_istore_n hk.1 hk.2.1 hd rfl hl hn rfl (fun ls2 hl2 => k H locs ls2 hP hD hS (lh_st1 ho hl2))
theorem G_istore (hk : Ok κ Γ own cc nL d) {i : Nat} {x : Int} (hd : decode cc pc = .ok (.istore i, 2)) (hn : i < nL) (ho : okS L i = true) (k : GW κ Γ (pc + 2) (st1 L i (some (vI x))) st ws) : GW κ Γ pc L (vI x :: st) ws := by
  obtain ⟨p, l, e, R, s, m, args, below, meth, c, Q, H0, A, n0, c1, c2⟩ := κ
  have hn0 : n0 = nL := hk.2.2.2.2.2.2.2.2.2.2.2.2
  subst hn0
  intro H locs ls hP hD hS hl
  exact lv_istore hk.1 hk.2.1 hd hl hn rfl (fun ls2 hl2 => k H locs ls2 hP hD hS (lh_st1 ho hl2))
theorem G_astore_n (hk : Ok κ Γ own cc nL d) {n : Fin 4} {x : Nat} (hd : decode cc pc = .ok (.astore_n n, 1)) (hn : (n : Nat) < nL) (ho : okS L n = true) (k : GW κ Γ (pc + 1) (st1 L n (some (rf Γ x))) st ws) : GW κ Γ pc L (rf Γ x :: st) ws := by
  obtain ⟨p, l, e, R, s, m, args, below, meth, c, Q, H0, A, n0, c1, c2⟩ := κ
  have hn0 : n0 = nL := hk.2.2.2.2.2.2.2.2.2.2.2.2
  subst hn0
  intro H locs ls hP hD hS hl
  exact lv_astore_n hk.1 hk.2.1 hd rfl hl hn rfl (fun ls2 hl2 => k H locs ls2 hP hD hS (lh_st1 ho hl2))
theorem G_astore (hk : Ok κ Γ own cc nL d) {i : Nat} {x : Nat} (hd : decode cc pc = .ok (.astore i, 2)) (hn : i < nL) (ho : okS L i = true) (k : GW κ Γ (pc + 2) (st1 L i (some (rf Γ x))) st ws) : GW κ Γ pc L (rf Γ x :: st) ws := by
  obtain ⟨p, l, e, R, s, m, args, below, meth, c, Q, H0, A, n0, c1, c2⟩ := κ
  have hn0 : n0 = nL := hk.2.2.2.2.2.2.2.2.2.2.2.2
  subst hn0
  intro H locs ls hP hD hS hl
  exact lv_astore hk.1 hk.2.1 hd hl hn rfl (fun ls2 hl2 => k H locs ls2 hP hD hS (lh_st1 ho hl2))
theorem G_lstore_n (hk : Ok κ Γ own cc nL d) {n : Fin 4} {x : Int} (hd : decode cc pc = .ok (.lstore_n n, 1)) (hn : (n : Nat) + 1 < nL) (ho : okS L n = true) (k : GW κ Γ (pc + 1) (st1 (st1 L n (some (vL x))) (n + 1) none) st ws) : GW κ Γ pc L (vL x :: st) ws := by
  obtain ⟨p, l, e, R, s, m, args, below, meth, c, Q, H0, A, n0, c1, c2⟩ := κ
  have hn0 : n0 = nL := hk.2.2.2.2.2.2.2.2.2.2.2.2
  subst hn0
  intro H locs ls hP hD hS hl
  exact lv_lstore_n hk.1 hk.2.1 hd rfl hl hn rfl (fun ls2 hl2 => k H locs ls2 hP hD hS (lh_st2 ho hl2))
theorem G_lstore (hk : Ok κ Γ own cc nL d) {i : Nat} {x : Int} (hd : decode cc pc = .ok (.lstore i, 2)) (hn : i + 1 < nL) (ho : okS L i = true) (k : GW κ Γ (pc + 2) (st1 (st1 L i (some (vL x))) (i + 1) none) st ws) : GW κ Γ pc L (vL x :: st) ws := by
  obtain ⟨p, l, e, R, s, m, args, below, meth, c, Q, H0, A, n0, c1, c2⟩ := κ
  have hn0 : n0 = nL := hk.2.2.2.2.2.2.2.2.2.2.2.2
  subst hn0
  intro H locs ls hP hD hS hl
  exact lv_lstore hk.1 hk.2.1 hd hl hn rfl (fun ls2 hl2 => k H locs ls2 hP hD hS (lh_st2 ho hl2))
theorem G_iinc (hk : Ok κ Γ own cc nL d) {i : Nat} {n x : Int} (hd : decode cc pc = .ok (.iinc i n, 3)) (hL : lk L i = some (vI x)) (hn : i < nL) (ho : okS L i = true) (k : GW κ Γ (pc + 3) (st1 L i (some (vI (x + n)))) st ws) : GW κ Γ pc L (st) ws := by
  obtain ⟨p, l, e, R, s, m, args, below, meth, c, Q, H0, A, n0, c1, c2⟩ := κ
  have hn0 : n0 = nL := hk.2.2.2.2.2.2.2.2.2.2.2.2
  subst hn0
  intro H locs ls hP hD hS hl
  obtain ⟨kk, hkk⟩ := List.getElem?_of_mem ((prs_mem L 0 (i, vI x)).mpr ⟨i, by simp, hL⟩)
  refine lv_iinc (v := Int32.ofInt (x + n)) hk.1 hk.2.1 hd hl hkk (Int32.ofInt_add x n).symm hn rfl (fun ls2 hl2 => k H locs ls2 hP hD hS (lh_st1 ho hl2))
theorem G_dup (hk : Ok κ Γ own cc nL d) {v : Value} (hd : decode cc pc = .ok (.dup, 1)) (hc : v.category = 1) (k : GW κ Γ (pc + 1) L (v :: v :: st) ws) : GW κ Γ pc L (v :: st) ws := by
  obtain ⟨p, l, e, R, s, m, args, below, meth, c, Q, H0, A, n0, c1, c2⟩ := κ
  have hn0 : n0 = nL := hk.2.2.2.2.2.2.2.2.2.2.2.2
  subst hn0
  intro H locs ls hP hD hS hl
  exact lv_dup hk.1 hk.2.1 hd hc (k H locs ls hP hD hS hl)
theorem G_pop (hk : Ok κ Γ own cc nL d) {v : Value} (hd : decode cc pc = .ok (.pop, 1)) (hc : v.category = 1) (k : GW κ Γ (pc + 1) L st ws) : GW κ Γ pc L (v :: st) ws := by
  obtain ⟨p, l, e, R, s, m, args, below, meth, c, Q, H0, A, n0, c1, c2⟩ := κ
  have hn0 : n0 = nL := hk.2.2.2.2.2.2.2.2.2.2.2.2
  subst hn0
  intro H locs ls hP hD hS hl
  exact lv_pop hk.1 hk.2.1 hd hc (k H locs ls hP hD hS hl)
theorem G_dup2 (hk : Ok κ Γ own cc nL d) {v w : Value} (hd : decode cc pc = .ok (.dup2, 1)) (hc : v.category = 1) (hc2 : w.category = 1) (k : GW κ Γ (pc + 1) L (v :: w :: v :: w :: st) ws) : GW κ Γ pc L (v :: w :: st) ws := by
  obtain ⟨p, l, e, R, s, m, args, below, meth, c, Q, H0, A, n0, c1, c2⟩ := κ
  have hn0 : n0 = nL := hk.2.2.2.2.2.2.2.2.2.2.2.2
  subst hn0
  intro H locs ls hP hD hS hl
  exact lv_dup2_11 hk.1 hk.2.1 hd hc hc2 (k H locs ls hP hD hS hl)
theorem G_icmp_eq (hk : Ok κ Γ own cc nL d) {x y : Int} {off : Int} {tgt : Nat} (hd : decode cc pc = .ok (.if_icmp .eq off, 3)) (ht : (pc : Int) + off = (tgt : Int)) (hx : R32 x) (hy : R32 y) (kt : x = y → GW κ Γ tgt L st ws) (kf : ¬ x = y → GW κ Γ (pc + 3) L st ws) : GW κ Γ pc L (vI y :: vI x :: st) ws := by
  obtain ⟨p, l, e, R, s, m, args, below, meth, c, Q, H0, A, n0, c1, c2⟩ := κ
  have hn0 : n0 = nL := hk.2.2.2.2.2.2.2.2.2.2.2.2
  subst hn0
  intro H locs ls hP hD hS hl
  exact lv_icmp_eq hk.1 hk.2.1 hd ht (fun h => kt ((i32_eq hx hy).mp h) H locs ls hP hD hS hl) (fun h => kf (fun q => h ((i32_eq hx hy).mpr q)) H locs ls hP hD hS hl)
theorem G_if_eq (hk : Ok κ Γ own cc nL d) {x : Int} {off : Int} {tgt : Nat} (hd : decode cc pc = .ok (.ifCond .eq off, 3)) (ht : (pc : Int) + off = (tgt : Int)) (hx : R32 x) (kt : x = 0 → GW κ Γ tgt L st ws) (kf : ¬ x = 0 → GW κ Γ (pc + 3) L st ws) : GW κ Γ pc L (vI x :: st) ws := by
  obtain ⟨p, l, e, R, s, m, args, below, meth, c, Q, H0, A, n0, c1, c2⟩ := κ
  have hn0 : n0 = nL := hk.2.2.2.2.2.2.2.2.2.2.2.2
  subst hn0
  intro H locs ls hP hD hS hl
  have hy : R32 0 := by decide
  exact lv_if_eq hk.1 hk.2.1 hd ht (fun h => kt ((i32_eq hx hy).mp h) H locs ls hP hD hS hl) (fun h => kf (fun q => h ((i32_eq hx hy).mpr q)) H locs ls hP hD hS hl)
theorem G_icmp_ne (hk : Ok κ Γ own cc nL d) {x y : Int} {off : Int} {tgt : Nat} (hd : decode cc pc = .ok (.if_icmp .ne off, 3)) (ht : (pc : Int) + off = (tgt : Int)) (hx : R32 x) (hy : R32 y) (kt : ¬ x = y → GW κ Γ tgt L st ws) (kf : x = y → GW κ Γ (pc + 3) L st ws) : GW κ Γ pc L (vI y :: vI x :: st) ws := by
  obtain ⟨p, l, e, R, s, m, args, below, meth, c, Q, H0, A, n0, c1, c2⟩ := κ
  have hn0 : n0 = nL := hk.2.2.2.2.2.2.2.2.2.2.2.2
  subst hn0
  intro H locs ls hP hD hS hl
  exact lv_icmp_ne hk.1 hk.2.1 hd ht (fun h => kt (fun q => h ((i32_eq hx hy).mpr q)) H locs ls hP hD hS hl) (fun h => kf ((i32_eq hx hy).mp h) H locs ls hP hD hS hl)
theorem G_if_ne (hk : Ok κ Γ own cc nL d) {x : Int} {off : Int} {tgt : Nat} (hd : decode cc pc = .ok (.ifCond .ne off, 3)) (ht : (pc : Int) + off = (tgt : Int)) (hx : R32 x) (kt : ¬ x = 0 → GW κ Γ tgt L st ws) (kf : x = 0 → GW κ Γ (pc + 3) L st ws) : GW κ Γ pc L (vI x :: st) ws := by
  obtain ⟨p, l, e, R, s, m, args, below, meth, c, Q, H0, A, n0, c1, c2⟩ := κ
  have hn0 : n0 = nL := hk.2.2.2.2.2.2.2.2.2.2.2.2
  subst hn0
  intro H locs ls hP hD hS hl
  have hy : R32 0 := by decide
  exact lv_if_ne hk.1 hk.2.1 hd ht (fun h => kt (fun q => h ((i32_eq hx hy).mpr q)) H locs ls hP hD hS hl) (fun h => kf ((i32_eq hx hy).mp h) H locs ls hP hD hS hl)
theorem G_icmp_lt (hk : Ok κ Γ own cc nL d) {x y : Int} {off : Int} {tgt : Nat} (hd : decode cc pc = .ok (.if_icmp .lt off, 3)) (ht : (pc : Int) + off = (tgt : Int)) (hx : R32 x) (hy : R32 y) (kt : x < y → GW κ Γ tgt L st ws) (kf : ¬ x < y → GW κ Γ (pc + 3) L st ws) : GW κ Γ pc L (vI y :: vI x :: st) ws := by
  obtain ⟨p, l, e, R, s, m, args, below, meth, c, Q, H0, A, n0, c1, c2⟩ := κ
  have hn0 : n0 = nL := hk.2.2.2.2.2.2.2.2.2.2.2.2
  subst hn0
  intro H locs ls hP hD hS hl
  exact lv_icmp_lt hk.1 hk.2.1 hd ht (fun h => kt ((i32_lt hx hy).mp h) H locs ls hP hD hS hl) (fun h => kf (fun q => h ((i32_lt hx hy).mpr q)) H locs ls hP hD hS hl)
theorem G_if_lt (hk : Ok κ Γ own cc nL d) {x : Int} {off : Int} {tgt : Nat} (hd : decode cc pc = .ok (.ifCond .lt off, 3)) (ht : (pc : Int) + off = (tgt : Int)) (hx : R32 x) (kt : x < 0 → GW κ Γ tgt L st ws) (kf : ¬ x < 0 → GW κ Γ (pc + 3) L st ws) : GW κ Γ pc L (vI x :: st) ws := by
  obtain ⟨p, l, e, R, s, m, args, below, meth, c, Q, H0, A, n0, c1, c2⟩ := κ
  have hn0 : n0 = nL := hk.2.2.2.2.2.2.2.2.2.2.2.2
  subst hn0
  intro H locs ls hP hD hS hl
  have hy : R32 0 := by decide
  exact lv_if_lt hk.1 hk.2.1 hd ht (fun h => kt ((i32_lt hx hy).mp h) H locs ls hP hD hS hl) (fun h => kf (fun q => h ((i32_lt hx hy).mpr q)) H locs ls hP hD hS hl)
theorem G_icmp_ge (hk : Ok κ Γ own cc nL d) {x y : Int} {off : Int} {tgt : Nat} (hd : decode cc pc = .ok (.if_icmp .ge off, 3)) (ht : (pc : Int) + off = (tgt : Int)) (hx : R32 x) (hy : R32 y) (kt : y ≤ x → GW κ Γ tgt L st ws) (kf : ¬ y ≤ x → GW κ Γ (pc + 3) L st ws) : GW κ Γ pc L (vI y :: vI x :: st) ws := by
  obtain ⟨p, l, e, R, s, m, args, below, meth, c, Q, H0, A, n0, c1, c2⟩ := κ
  have hn0 : n0 = nL := hk.2.2.2.2.2.2.2.2.2.2.2.2
  subst hn0
  intro H locs ls hP hD hS hl
  exact lv_icmp_ge hk.1 hk.2.1 hd ht (fun h => kt ((i32_le hy hx).mp h) H locs ls hP hD hS hl) (fun h => kf (fun q => h ((i32_le hy hx).mpr q)) H locs ls hP hD hS hl)
theorem G_if_ge (hk : Ok κ Γ own cc nL d) {x : Int} {off : Int} {tgt : Nat} (hd : decode cc pc = .ok (.ifCond .ge off, 3)) (ht : (pc : Int) + off = (tgt : Int)) (hx : R32 x) (kt : 0 ≤ x → GW κ Γ tgt L st ws) (kf : ¬ 0 ≤ x → GW κ Γ (pc + 3) L st ws) : GW κ Γ pc L (vI x :: st) ws := by
  obtain ⟨p, l, e, R, s, m, args, below, meth, c, Q, H0, A, n0, c1, c2⟩ := κ
  have hn0 : n0 = nL := hk.2.2.2.2.2.2.2.2.2.2.2.2
  subst hn0
  intro H locs ls hP hD hS hl
  have hy : R32 0 := by decide
  exact lv_if_ge hk.1 hk.2.1 hd ht (fun h => kt ((i32_le hy hx).mp h) H locs ls hP hD hS hl) (fun h => kf (fun q => h ((i32_le hy hx).mpr q)) H locs ls hP hD hS hl)
theorem G_icmp_gt (hk : Ok κ Γ own cc nL d) {x y : Int} {off : Int} {tgt : Nat} (hd : decode cc pc = .ok (.if_icmp .gt off, 3)) (ht : (pc : Int) + off = (tgt : Int)) (hx : R32 x) (hy : R32 y) (kt : y < x → GW κ Γ tgt L st ws) (kf : ¬ y < x → GW κ Γ (pc + 3) L st ws) : GW κ Γ pc L (vI y :: vI x :: st) ws := by
  obtain ⟨p, l, e, R, s, m, args, below, meth, c, Q, H0, A, n0, c1, c2⟩ := κ
  have hn0 : n0 = nL := hk.2.2.2.2.2.2.2.2.2.2.2.2
  subst hn0
  intro H locs ls hP hD hS hl
  exact lv_icmp_gt hk.1 hk.2.1 hd ht (fun h => kt ((i32_lt hy hx).mp h) H locs ls hP hD hS hl) (fun h => kf (fun q => h ((i32_lt hy hx).mpr q)) H locs ls hP hD hS hl)
theorem G_if_gt (hk : Ok κ Γ own cc nL d) {x : Int} {off : Int} {tgt : Nat} (hd : decode cc pc = .ok (.ifCond .gt off, 3)) (ht : (pc : Int) + off = (tgt : Int)) (hx : R32 x) (kt : 0 < x → GW κ Γ tgt L st ws) (kf : ¬ 0 < x → GW κ Γ (pc + 3) L st ws) : GW κ Γ pc L (vI x :: st) ws := by
  obtain ⟨p, l, e, R, s, m, args, below, meth, c, Q, H0, A, n0, c1, c2⟩ := κ
  have hn0 : n0 = nL := hk.2.2.2.2.2.2.2.2.2.2.2.2
  subst hn0
  intro H locs ls hP hD hS hl
  have hy : R32 0 := by decide
  exact lv_if_gt hk.1 hk.2.1 hd ht (fun h => kt ((i32_lt hy hx).mp h) H locs ls hP hD hS hl) (fun h => kf (fun q => h ((i32_lt hy hx).mpr q)) H locs ls hP hD hS hl)
theorem G_icmp_le (hk : Ok κ Γ own cc nL d) {x y : Int} {off : Int} {tgt : Nat} (hd : decode cc pc = .ok (.if_icmp .le off, 3)) (ht : (pc : Int) + off = (tgt : Int)) (hx : R32 x) (hy : R32 y) (kt : x ≤ y → GW κ Γ tgt L st ws) (kf : ¬ x ≤ y → GW κ Γ (pc + 3) L st ws) : GW κ Γ pc L (vI y :: vI x :: st) ws := by
  obtain ⟨p, l, e, R, s, m, args, below, meth, c, Q, H0, A, n0, c1, c2⟩ := κ
  have hn0 : n0 = nL := hk.2.2.2.2.2.2.2.2.2.2.2.2
  subst hn0
  intro H locs ls hP hD hS hl
  exact lv_icmp_le hk.1 hk.2.1 hd ht (fun h => kt ((i32_le hx hy).mp h) H locs ls hP hD hS hl) (fun h => kf (fun q => h ((i32_le hx hy).mpr q)) H locs ls hP hD hS hl)
theorem G_if_le (hk : Ok κ Γ own cc nL d) {x : Int} {off : Int} {tgt : Nat} (hd : decode cc pc = .ok (.ifCond .le off, 3)) (ht : (pc : Int) + off = (tgt : Int)) (hx : R32 x) (kt : x ≤ 0 → GW κ Γ tgt L st ws) (kf : ¬ x ≤ 0 → GW κ Γ (pc + 3) L st ws) : GW κ Γ pc L (vI x :: st) ws := by
  obtain ⟨p, l, e, R, s, m, args, below, meth, c, Q, H0, A, n0, c1, c2⟩ := κ
  have hn0 : n0 = nL := hk.2.2.2.2.2.2.2.2.2.2.2.2
  subst hn0
  intro H locs ls hP hD hS hl
  have hy : R32 0 := by decide
  exact lv_if_le hk.1 hk.2.1 hd ht (fun h => kt ((i32_le hx hy).mp h) H locs ls hP hD hS hl) (fun h => kf (fun q => h ((i32_le hx hy).mpr q)) H locs ls hP hD hS hl)
theorem G_goto (hk : Ok κ Γ own cc nL d) {off : Int} {tgt : Nat} (hd : decode cc pc = .ok (.goto off, 3)) (ht : (pc : Int) + off = (tgt : Int)) (k : GW κ Γ tgt L st ws) : GW κ Γ pc L (st) ws := by
  obtain ⟨p, l, e, R, s, m, args, below, meth, c, Q, H0, A, n0, c1, c2⟩ := κ
  have hn0 : n0 = nL := hk.2.2.2.2.2.2.2.2.2.2.2.2
  subst hn0
  intro H locs ls hP hD hS hl
  exact lv_goto hk.1 hk.2.1 hd ht (k H locs ls hP hD hS hl)
end RULES
