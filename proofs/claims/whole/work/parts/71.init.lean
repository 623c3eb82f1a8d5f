/-! how it begins -/
def ufm : Nat → Int := (upf (upf (upf (upf (fun _ => 0) 0 (-1)) 1 (-1)) 2 (-1)) 3 (-1))
def S0 : Sx := fun c k => match c with
  | 0 => if k = 9 then 10 else 0
  | 1 => if k = 4 then -1 else 0
  | 17 => if k = 10 then -1 else 0
  | 24 => if k < 4 then -1 else 0
  | 33 => if k = 2 then 1 else 0
  | 36 => if k = 1 then -1 else 0
  | 38 => if k = 1 then -1 else 0
  | 40 => if k = 1 then -1 else 0
  | 42 => if k = 1 then -1 else 0
  | 44 => if k = 14 then 10 else if k = 19 then -1 else if k = 21 then -1 else 0
  | 45 => ufm k
  | 53 => ufm k
  | _ => 0
theorem ufm_4 : ∀ k, k < 4 → ufm k = -1
  | 0, _ => rfl
  | 1, _ => rfl
  | 2, _ => rfl
  | 3, _ => rfl
  | k + 4, h => absurd h (by omega)
theorem inv_0 : InvM S0 := by
  refine ⟨⟨by decide, fun j _ => ?_, by decide, fun k hk => absurd hk (by show ¬ k < 0; omega), by decide, fun k hk => absurd hk (by show ¬ k < 0; omega), by decide, fun w hw => ?_, by decide, fun k hk => absurd hk (by show ¬ k < 0; omega)⟩, ⟨by decide, by decide, by decide, by decide⟩, ⟨fun k hk => ?_, fun k _ => ?_, fun k _ => ?_, by decide⟩, by decide, by decide, by decide, by decide, by decide⟩
  · show (0 : Int) ≤ 0 ∧ (0 : Int) ≤ 255
    decide
  · show -1 ≤ ufm w ∧ ufm w ≤ 7
    rw [ufm_4 w hw]; decide
  · show -1 ≤ ufm k ∧ ufm k ≤ 2
    rw [ufm_4 k hk]; decide
  · show (0 : Int) ≤ 0 ∧ (0 : Int) ≤ 60
    decide
  · show R32 0
    decide
theorem ord_0 (Y q : Nat → Int) : Ord 0 Y q := ⟨fun i hi => absurd hi (by omega), fun k hk => absurd hk (by omega), fun i j _ hj => absurd hj (by omega)⟩
theorem cr_0 : CR S0 S0 := by
  have hw := flt_well (n := 0) (t := S0 49) (fun j hj => absurd hj (by omega)) (Or.inl rfl)
  refine CR_mk inv_0 ?_ ?_ ?_ ?_ ?_ rfl rfl ?_
  · show PeR S0 0 (S0 49)
    refine ⟨⟨rfl, by decide, fun j hj => absurd hj (by omega), fun j hj => absurd hj (by omega)⟩, ?_, ?_, fun p hp => ?_⟩
    · rw [hw.1]; rfl
    · rw [hw.2]; rfl
    · rw [hw.2] at hp
      exact absurd hp (by omega)
  · show PiR S0 0 (S0 51)
    exact ⟨⟨rfl, by decide, fun j hj => absurd hj (by omega), fun j hj => absurd hj (by omega), ord_0 _ _⟩, fun k hk => absurd hk (by omega)⟩
  · show BuR S0 0 (S0 52)
    exact ⟨⟨rfl, by decide, fun j hj => absurd hj (by omega), fun j hj => absurd hj (by omega), ord_0 _ _⟩, fun k hk => absurd hk (by omega)⟩
  · show WiR S0 0 (S0 58)
    exact ⟨⟨rfl, by decide, fun j hj => absurd hj (by omega), fun j hj => absurd hj (by omega), ord_0 _ _⟩, fun k hk => absurd hk (by omega)⟩
  · intro w hw9
    show (if w < 4 then (-1 : Int) else 0) = ufm w
    rw [if_pos hw9, ufm_4 w hw9]
  · intro s hs
    match s, hs with
    | 0, _ => exact ⟨rfl, rfl, fun i hi => absurd hi (by show ¬ (i : Int) < 0; omega)⟩
    | 1, _ => exact ⟨rfl, rfl, fun i hi => absurd hi (by show ¬ (i : Int) < 0; omega)⟩
    | 2, _ => exact ⟨rfl, rfl, fun i hi => absurd hi (by show ¬ (i : Int) < 0; omega)⟩
    | 3, _ => exact ⟨rfl, rfl, fun i hi => absurd hi (by show ¬ (i : Int) < 0; omega)⟩
    | s + 4, h => exact absurd h (by omega)
def adr (h0 h1 h2 h3 h4 h5 h6 h7 h8 h9 h10 h11 h12 h13 h14 h15 h16 h17 h18 h19 h20 h21 h22 h23 h24 h25 h26 h27 h28 h29 h30 h31 h32 h33 h34 h35 h36 h37 h38 h39 h40 h41 h42 h43 h44 h45 h46 h47 h48 h49 h50 h51 h52 h53 h54 h55 h56 h57 h58 : Nat) : Nat → Nat := fun i => match i with
  | 0 => h0
  | 1 => h1
  | 2 => h2
  | 3 => h3
  | 4 => h4
  | 5 => h5
  | 6 => h6
  | 7 => h7
  | 8 => h8
  | 9 => h9
  | 10 => h10
  | 11 => h11
  | 12 => h12
  | 13 => h13
  | 14 => h14
  | 15 => h15
  | 16 => h16
  | 17 => h17
  | 18 => h18
  | 19 => h19
  | 20 => h20
  | 21 => h21
  | 22 => h22
  | 23 => h23
  | 24 => h24
  | 25 => h25
  | 26 => h26
  | 27 => h27
  | 28 => h28
  | 29 => h29
  | 30 => h30
  | 31 => h31
  | 32 => h32
  | 33 => h33
  | 34 => h34
  | 35 => h35
  | 36 => h36
  | 37 => h37
  | 38 => h38
  | 39 => h39
  | 40 => h40
  | 41 => h41
  | 42 => h42
  | 43 => h43
  | 44 => h44
  | 45 => h45
  | 46 => h46
  | 47 => h47
  | 48 => h48
  | 49 => h49
  | 50 => h50
  | 51 => h51
  | 52 => h52
  | 53 => h53
  | 54 => h54
  | 55 => h55
  | 56 => h56
  | 57 => h57
  | 58 => h58
  | _ => 0
theorem shs (h0 h1 h2 h3 h4 h5 h6 h7 h8 h9 h10 h11 h12 h13 h14 h15 h16 h17 h18 h19 h20 h21 h22 h23 h24 h25 h26 h27 h28 h29 h30 h31 h32 h33 h34 h35 h36 h37 h38 h39 h40 h41 h42 h43 h44 h45 h46 h47 h48 h49 h50 h51 h52 h53 h54 h55 h56 h57 h58 : Nat) : (va_up (va_up (va_up (va_up (fun _ => none) 0 (some h36)) 1 (some h38)) 2 (some h40)) 3 (some h42)) = fun j => (([36, 38, 40, 42] : List Nat)[j]?).map (adr h0 h1 h2 h3 h4 h5 h6 h7 h8 h9 h10 h11 h12 h13 h14 h15 h16 h17 h18 h19 h20 h21 h22 h23 h24 h25 h26 h27 h28 h29 h30 h31 h32 h33 h34 h35 h36 h37 h38 h39 h40 h41 h42 h43 h44 h45 h46 h47 h48 h49 h50 h51 h52 h53 h54 h55 h56 h57 h58) := by
  funext j
  match j with
  | 0 => rfl
  | 1 => rfl
  | 2 => rfl
  | 3 => rfl
  | j + 4 => simp [va_up]
set_option maxRecDepth 100000 in
theorem wl_0 (D : va_G) (cI cJ cS : ClassId) (h0 h1 h2 h3 h4 h5 h6 h7 h8 h9 h10 h11 h12 h13 h14 h15 h16 h17 h18 h19 h20 h21 h22 h23 h24 h25 h26 h27 h28 h29 h30 h31 h32 h33 h34 h35 h36 h37 h38 h39 h40 h41 h42 h43 h44 h45 h46 h47 h48 h49 h50 h51 h52 h53 h54 h55 h56 h57 h58 : Nat) (Γ : Ev) (hΓ : Γ = (D, cI, cJ, cS, adr h0 h1 h2 h3 h4 h5 h6 h7 h8 h9 h10 h11 h12 h13 h14 h15 h16 h17 h18 h19 h20 h21 h22 h23 h24 h25 h26 h27 h28 h29 h30 h31 h32 h33 h34 h35 h36 h37 h38 h39 h40 h41 h42 h43 h44 h45 h46 h47 h48 h49 h50 h51 h52 h53 h54 h55 h56 h57 h58)) : [(h0, .inr (10, [.ref h1, .ref h5, .ref h12, .ref h17, .ref h21, .ref h23, .ref h27, .ref h33, .ref h35, vI 10, vI 0])), (h1, .inr (4, [.ref h2, .ref h3, .ref h4, vI 0, vI (-1), vI 0])), (h2, zI Γ 31), (h3, zI Γ 8), (h4, zI Γ 8), (h5, .inr (5, [.ref h6, .ref h9, .ref h10, .ref h11])), (h6, .inr (7, [.ref h7, .ref h8, vI 0])), (h7, zI Γ 12), (h8, zI Γ 12), (h9, zI Γ 12), (h10, zI Γ 12), (h11, zI Γ 12), (h12, .inr (0, [.ref h13, .ref h16])), (h13, .inr (7, [.ref h14, .ref h15, vI 0])), (h14, zI Γ 12), (h15, zI Γ 12), (h16, zI Γ 12), (h17, .inr (3, [.ref h1, .ref h5, .ref h12, .ref h18, .ref h19, .ref h20, vI 0, vI 0, vI 0, vI 0, vI (-1), vI 0])), (h18, zI Γ 8), (h19, zI Γ 12), (h20, zI Γ 12), (h21, .inr (6, [.ref h22, vI 0])), (h22, zI Γ 100), (h23, .inr (2, [.ref h24, .ref h25, .ref h26])), (h24, aI Γ 4 (fun j => if j < 4 then (-1) else 0)), (h25, zI Γ 12), (h26, zI Γ 12), (h27, .inr (9, [.ref h28, .ref h31, .ref h32])), (h28, .inr (7, [.ref h29, .ref h30, vI 0])), (h29, zI Γ 8), (h30, zI Γ 8), (h31, zI Γ 8), (h32, zI Γ 8), (h33, .inr (1, [.ref h34, vL 0, vL 1])), (h34, zJ Γ 11), (h35, aR Γ 4 (va_up (va_up (va_up (va_up (fun _ => none) 0 (some h36)) 1 (some h38)) 2 (some h40)) 3 (some h42))), (h36, .inr (8, [.ref h37, vI (-1), vI 0])), (h37, zI Γ 60), (h38, .inr (8, [.ref h39, vI (-1), vI 0])), (h39, zI Γ 60), (h40, .inr (8, [.ref h41, vI (-1), vI 0])), (h41, zI Γ 60), (h42, .inr (8, [.ref h43, vI (-1), vI 0])), (h43, zI Γ 60), (h44, .inr (11, [.ref h45, .ref h46, .ref h47, .ref h48, vI 0, .ref h49, vI 0, vI 0, vI 0, .ref h50, vI 0, .ref h51, vI 0, .ref h52, vI 10, .ref h53, .ref h54, .ref h55, .ref h56, vI (-1), vI 0, vI (-1), vI 0, vI 0, vI 0, vI 0, vI 0, vI 0, .ref h57, vI 0, vI 0, vI 0, .ref h58])), (h45, aI Γ 4 (upf (upf (upf (upf (fun _ => 0) 0 (-1)) 1 (-1)) 2 (-1)) 3 (-1))), (h46, zI Γ 4), (h47, zI Γ 240), (h48, zI Γ 60), (h49, zI Γ 31), (h50, zI Γ 16), (h51, zI Γ 48), (h52, zI Γ 24), (h53, aI Γ 4 (upf (upf (upf (upf (fun _ => 0) 0 (-1)) 1 (-1)) 2 (-1)) 3 (-1))), (h54, zI Γ 8), (h55, zI Γ 24), (h56, zI Γ 12), (h57, zI Γ 12), (h58, zI Γ 24)] = wl Γ S0 := by
  subst hΓ
  rw [shs h0 h1 h2 h3 h4 h5 h6 h7 h8 h9 h10 h11 h12 h13 h14 h15 h16 h17 h18 h19 h20 h21 h22 h23 h24 h25 h26 h27 h28 h29 h30 h31 h32 h33 h34 h35 h36 h37 h38 h39 h40 h41 h42 h43 h44 h45 h46 h47 h48 h49 h50 h51 h52 h53 h54 h55 h56 h57 h58]
  rfl

