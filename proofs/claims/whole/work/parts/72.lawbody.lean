/-! the law from its entry -/
theorem nst_on : ∀ w ∈ nst, w.onTables = true := by
  intro w hw
  simp only [nst, List.mem_cons, List.not_mem_nil, or_false] at hw
  rcases hw with rfl | rfl | rfl | rfl | rfl | rfl | rfl <;> rfl
theorem EN_vm {u U : State} (h : u.vm = U.vm) (hE : EN u) : EN U := ⟨fun w hw => va_Nw.same (nst_on w hw) h (hE.1 w hw), va_AO.moved (h ▸ Vm.Alike.refl _) hE.2⟩
theorem EN_w {s U : State} (hW : s.WarmedH U.vm) (hE : EN s) : EN U := by
  refine ⟨fun w hw => ?_, va_AO.moved hW.alike hE.2⟩
  have h := hE.1 w hw
  simp only [nst, List.mem_cons, List.not_mem_nil, or_false] at hw
  rcases hw with rfl | rfl | rfl | rfl | rfl | rfl | rfl <;> exact va_Nw.warmM hW h
theorem EN_s {s : State} {A : Array Value} (hts : ∀ w ∈ lw_tbl, w.before A s = true) : EN s := by
  refine ⟨fun w hw => va_Nw.of (nst_on w hw) (hts w ?_), va_AO.of (hts _ (tin1 (List.mem_of_getElem? (l := tables_1_1) (i := 220) (by decide +kernel))))⟩
  simp only [nst, List.mem_cons, List.not_mem_nil, or_false] at hw
  rcases hw with rfl | rfl | rfl | rfl | rfl | rfl | rfl
  · exact (tin1 (List.mem_of_getElem? (l := tables_1_1) (i := 26) (by decide +kernel)))
  · exact (tin1 (List.mem_of_getElem? (l := tables_1_1) (i := 52) (by decide +kernel)))
  · exact (tin1 (List.mem_of_getElem? (l := tables_1_1) (i := 94) (by decide +kernel)))
  · exact (tin1 (List.mem_of_getElem? (l := tables_1_1) (i := 154) (by decide +kernel)))
  · exact (tin1 (List.mem_of_getElem? (l := tables_1_1) (i := 186) (by decide +kernel)))
  · exact (tin1 (List.mem_of_getElem? (l := tables_1_1) (i := 204) (by decide +kernel)))
  · exact (tin1 (List.mem_of_getElem? (l := tables_1_1) (i := 222) (by decide +kernel)))
theorem XK_kb {κ : Kx} {b Ln x y : Nat} {xs : Nat → Int32} (h : XK κ b Ln xs) : XK (kb κ x y) b Ln xs := by
  obtain ⟨p, l, e, R, s, m, args, below, meth, c, Q, H0, A, n0, c1, c2⟩ := κ
  exact h
theorem GW_G {κ : Kx} {D : va_G} {cI cJ cS : ClassId} {f g : Nat → Nat} {pc : Nat} {L : List (Option Value)} {st : List Value} {ws : va_W} (h : GW κ (D, cI, cJ, cS, f) pc L st ws) : GW κ (D, cI, cJ, cS, g) pc L st ws := by
  obtain ⟨p, l, e, R, s, m, args, below, meth, c, Q, H0, A, n0, c1, c2⟩ := κ
  exact h
theorem Ok_G {κ : Kx} {D : va_G} {cI cJ cS : ClassId} {f g : Nat → Nat} {own : String} {cc : ByteArray} {nL d : Nat} (h : Ok κ (D, cI, cJ, cS, f) own cc nL d) : Ok κ (D, cI, cJ, cS, g) own cc nL d := by
  obtain ⟨p, l, e, R, s, m, args, below, meth, c, Q, H0, A, n0, c1, c2⟩ := κ
  exact h
theorem known_of {s : State} {A : Array Value} (hts : ∀ w ∈ lw_tbl, w.before A s = true) {ci N : Nat} {fs : List Value} (h : NWd ci N fs) : ∃ y : ClassId × (Nat → Nat), ∀ q : vw_C, cls[ci]? = some q → u_Kn s q.1 q.2.1 q.2.2 y.1 y.2 := by
  obtain ⟨r, ty, w1, w2, w3, w4, w5, w6⟩ := h
  obtain ⟨c0, i0, h0⟩ := u_known (C := r.1) (T := r.2.1) (N := r.2.2) (n := r.2.2) hts (fun w hw => (List.mem_filter.mp (cls_ws (List.mem_of_getElem? w1) w hw)).1) (hts _ (List.mem_filter.mp w5).1)
  refine ⟨(c0, i0), fun q hq => ?_⟩
  cases w1.symm.trans hq
  exact h0
theorem known_all {s : State} {A : Array Value} (hts : ∀ w ∈ lw_tbl, w.before A s = true) : ∀ k : Nat, ∃ y : ClassId × (Nat → Nat), ∀ q : vw_C, cls[k]? = some q → u_Kn s q.1 q.2.1 q.2.2 y.1 y.2
  | 0 => known_of hts nwX0
  | 1 => known_of hts nwX1
  | 2 => known_of hts nwX2
  | 3 => known_of hts nwX3
  | 4 => known_of hts nwX4
  | 5 => known_of hts nwX5
  | 6 => known_of hts nwX6
  | 7 => known_of hts nwX7
  | 8 => known_of hts nwX8
  | 9 => known_of hts nwX9
  | 10 => known_of hts nwX10
  | 11 => known_of hts nwX11
  | k + 12 => ⟨(0, fun _ => 0), fun q hq => by simp [cls] at hq⟩
/-- the tables know the classes and the arrays -/
theorem K_0 {s : State} {A : Array Value} (hts : ∀ w ∈ lw_tbl, w.before A s = true) : ∃ (D : va_G) (cI cJ cS : ClassId), va_K D cls (tys (D, cI, cJ, cS, fun _ => 0)) s := by
  obtain ⟨g, hg⟩ := Classical.axiomOfChoice (known_all hts)
  obtain ⟨cI, kI, compI, i1, i2, i3⟩ := Cond.arrayClass_spec (hts _ (List.mem_filter.mp ar_I).1)
  obtain ⟨cJ, kJ, compJ, j1, j2, j3⟩ := Cond.arrayClass_spec (hts _ (List.mem_filter.mp ar_J).1)
  obtain ⟨comp, cS, kS, o1, o2, o3, o4, o5⟩ := Cond.arrayOver_spec (EN_s hts).2
  refine ⟨(fun k => (g k).1, fun k => (g k).2), cI, cJ, cS, fun c q hq => hg c q hq, fun k q hk => ?_⟩
  match k, hk with
  | 0, hk => cases hk; exact ⟨fun n z => ⟨fun k h => (by cases h), kI, i2, compI, i3⟩, i1⟩
  | 1, hk => cases hk; exact ⟨fun n z => ⟨fun k h => (by cases h), kJ, j2, compJ, j3⟩, j1⟩
  | 2, hk => cases hk; exact ⟨fun n z => ⟨fun k h => (by cases h), kS, o3, comp, o4⟩, kS, comp, o3, o4, o1, o5⟩
  | k + 3, hk => simp [tys] at hk
set_option maxRecDepth 100000 in
theorem law_body {κ : Kx} {D : va_G} {cI cJ cS : ClassId} {b Ln : Nat} {xs : Nat → Int32} (hk : Ok (kb κ 0 0) (D, cI, cJ, cS, fun _ => 0) RL code 4 12) (hR : Rm κ 600000 7302249) (hX : XK κ b Ln xs) (hLn : Ln ≤ 448) (hEs : EN (sK κ)) (he : ∀ (Γ : Ev) (L : List (Option Value)) (ws : va_W), GW (kb κ 59 1201) Γ 1391 L [vI 1] ws) : GW (kb κ 0 0) (D, cI, cJ, cS, fun _ => 0) 0 [some (.ref b)] [] [] := by
  generalize hΓ0 : ((D, cI, cJ, cS, fun _ => 0) : Ev) = Γ0 at hk ⊢
  refine G_newO hk hR dL_law_0 clkRL_7 nwX10 (Nat.le_of_ble_eq_true rfl) (Nat.le_of_ble_eq_true rfl) (fun h0 => ?_)
  have hk := Ok_kb (a2 := 1) (b2 := 11) hk hR (Nat.le_of_ble_eq_true rfl) (Nat.le_of_ble_eq_true rfl)
  refine G_dup hk dL_law_3 rfl ?_
  refine G_callC (ws := []) (q := h0) (e0 := .inr (10, [.null, .null, .null, .null, .null, .null, .null, .null, .null, vI 0, vI 0])) (As := []) (rest := [.ref h0]) (E := EN) hk hR dL_law_4 miX10_init (gt_in (tin1 (List.mem_of_getElem? (l := tables_1_1) (i := 18) (by decide +kernel))) rfl) rfl rfl (Nat.le_of_ble_eq_true rfl) (c_TSI _ Γ0 8 h0) (fun _ _ h hE => EN_vm h hE) (fun U hW => EN_w hW hEs) (Nat.le_of_ble_eq_true rfl) (Nat.le_of_ble_eq_true rfl) (fun w1 hw => ?_)
  obtain ⟨h1, h2, h3, h4, h5, h6, h7, h8, h9, h10, h11, h12, h13, h14, h15, h16, h17, h18, h19, h20, h21, h22, h23, h24, h25, h26, h27, h28, h29, h30, h31, h32, h33, h34, h35, h36, h37, h38, h39, h40, h41, h42, h43, rfl⟩ := hw
  have hk := Ok_kb (a2 := 44) (b2 := 657) hk hR (Nat.le_of_ble_eq_true rfl) (Nat.le_of_ble_eq_true rfl)
  refine G_qstore_n hk dL_law_7 (by decide) rfl ?_
  refine G_newO hk hR dL_law_8 clkRL_10 nwX11 (Nat.le_of_ble_eq_true rfl) (Nat.le_of_ble_eq_true rfl) (fun h44 => ?_)
  have hk := Ok_kb (a2 := 45) (b2 := 690) hk hR (Nat.le_of_ble_eq_true rfl) (Nat.le_of_ble_eq_true rfl)
  refine G_dup hk dL_law_11 rfl ?_
  refine G_callC (ws := [(h0, .inr (10, [.ref h1, .ref h5, .ref h12, .ref h17, .ref h21, .ref h23, .ref h27, .ref h33, .ref h35, vI 10, vI 0])), (h1, .inr (4, [.ref h2, .ref h3, .ref h4, vI 0, vI (-1), vI 0])), (h2, zI Γ0 31), (h3, zI Γ0 8), (h4, zI Γ0 8), (h5, .inr (5, [.ref h6, .ref h9, .ref h10, .ref h11])), (h6, .inr (7, [.ref h7, .ref h8, vI 0])), (h7, zI Γ0 12), (h8, zI Γ0 12), (h9, zI Γ0 12), (h10, zI Γ0 12), (h11, zI Γ0 12), (h12, .inr (0, [.ref h13, .ref h16])), (h13, .inr (7, [.ref h14, .ref h15, vI 0])), (h14, zI Γ0 12), (h15, zI Γ0 12), (h16, zI Γ0 12), (h17, .inr (3, [.ref h1, .ref h5, .ref h12, .ref h18, .ref h19, .ref h20, vI 0, vI 0, vI 0, vI 0, vI (-1), vI 0])), (h18, zI Γ0 8), (h19, zI Γ0 12), (h20, zI Γ0 12), (h21, .inr (6, [.ref h22, vI 0])), (h22, zI Γ0 100), (h23, .inr (2, [.ref h24, .ref h25, .ref h26])), (h24, aI Γ0 4 (fun j => if j < 4 then (-1) else 0)), (h25, zI Γ0 12), (h26, zI Γ0 12), (h27, .inr (9, [.ref h28, .ref h31, .ref h32])), (h28, .inr (7, [.ref h29, .ref h30, vI 0])), (h29, zI Γ0 8), (h30, zI Γ0 8), (h31, zI Γ0 8), (h32, zI Γ0 8), (h33, .inr (1, [.ref h34, vL 0, vL 1])), (h34, zJ Γ0 11), (h35, aR Γ0 4 (va_up (va_up (va_up (va_up (fun _ => none) 0 (some h36)) 1 (some h38)) 2 (some h40)) 3 (some h42))), (h36, .inr (8, [.ref h37, vI (-1), vI 0])), (h37, zI Γ0 60), (h38, .inr (8, [.ref h39, vI (-1), vI 0])), (h39, zI Γ0 60), (h40, .inr (8, [.ref h41, vI (-1), vI 0])), (h41, zI Γ0 60), (h42, .inr (8, [.ref h43, vI (-1), vI 0])), (h43, zI Γ0 60)]) (q := h44) (e0 := .inr (11, [.null, .null, .null, .null, vI 0, .null, vI 0, vI 0, vI 0, .null, vI 0, .null, vI 0, .null, vI 0, .null, .null, .null, .null, vI 0, vI 0, vI 0, vI 0, vI 0, vI 0, vI 0, vI 0, vI 0, .null, vI 0, vI 0, vI 0, .null])) (As := []) (rest := [.ref h44]) (E := fun _ => True) hk hR dL_law_12 miX11_init (gt_in (tin4 (List.mem_of_getElem? (l := tables_1_4) (i := 151) (by decide +kernel))) rfl) rfl rfl (Nat.le_of_ble_eq_true rfl) (c_MoI _ Γ0 10 h44) (fun _ _ _ h => h) (fun _ _ => trivial) (Nat.le_of_ble_eq_true rfl) (Nat.le_of_ble_eq_true rfl) (fun w1 hw => ?_)
  obtain ⟨h45, h46, h47, h48, h49, h50, h51, h52, h53, h54, h55, h56, h57, h58, rfl⟩ := hw
  have hk := Ok_kb (a2 := 59) (b2 := 1201) hk hR (Nat.le_of_ble_eq_true rfl) (Nat.le_of_ble_eq_true rfl)
  refine G_qstore_n hk dL_law_15 (by decide) rfl ?_
  refine G_iconst hk dL_law_16 ?_
  refine G_istore_n hk dL_law_17 (by decide) rfl ?_
  subst hΓ0
  have hk := Ok_G (g := adr h0 h1 h2 h3 h4 h5 h6 h7 h8 h9 h10 h11 h12 h13 h14 h15 h16 h17 h18 h19 h20 h21 h22 h23 h24 h25 h26 h27 h28 h29 h30 h31 h32 h33 h34 h35 h36 h37 h38 h39 h40 h41 h42 h43 h44 h45 h46 h47 h48 h49 h50 h51 h52 h53 h54 h55 h56 h57 h58) hk
  refine GW_G (f := adr h0 h1 h2 h3 h4 h5 h6 h7 h8 h9 h10 h11 h12 h13 h14 h15 h16 h17 h18 h19 h20 h21 h22 h23 h24 h25 h26 h27 h28 h29 h30 h31 h32 h33 h34 h35 h36 h37 h38 h39 h40 h41 h42 h43 h44 h45 h46 h47 h48 h49 h50 h51 h52 h53 h54 h55 h56 h57 h58) ?_
  have e := wl_0 D cI cJ cS h0 h1 h2 h3 h4 h5 h6 h7 h8 h9 h10 h11 h12 h13 h14 h15 h16 h17 h18 h19 h20 h21 h22 h23 h24 h25 h26 h27 h28 h29 h30 h31 h32 h33 h34 h35 h36 h37 h38 h39 h40 h41 h42 h43 h44 h45 h46 h47 h48 h49 h50 h51 h52 h53 h54 h55 h56 h57 h58 _ rfl
  have lp := law_loop hk (XK_kb hX) hLn (fun L S => by
    refine G_iconst hk dL_law_1390 ?_
    exact he _ L _) Ln 0 S0 (by omega) (Nat.zero_le _) cr_0 inv_0
  rw [← e] at lp
  exact lp

