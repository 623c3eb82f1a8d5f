def bz (c : Prop) [Decidable c] : Int := if c then 1 else 0
theorem bz_t {c : Prop} [Decidable c] (h : c) : (1 : Int) = bz c := by simp [bz, h]
theorem bz_f {c : Prop} [Decidable c] (h : ¬ c) : (0 : Int) = bz c := by simp [bz, h]
theorem bz_01 (c : Prop) [Decidable c] : bz c = 0 ∨ bz c = 1 := by by_cases h : c <;> simp [bz, h]
theorem bz_0 {c : Prop} [Decidable c] : bz c = 0 ↔ ¬ c := by by_cases h : c <;> simp [bz, h]
theorem bz_r (c : Prop) [Decidable c] : R32 (bz c) := by rcases bz_01 c with h | h <;> rw [h] <;> decide
def pP (S : Sx) (E : Int) : Option Value → Sx → Prop := pI (fun r S2 => r = E ∧ S2 = S)
section CALLS2
variable {κ : Kx} {Γ : Ev} {own : String} {cc : ByteArray} {nL d pc idx : Nat} {L : List (Option Value)} {rest : List Value} {S : Sx} {M : Mth}
theorem G_cV0I {post : Int → Sx → Prop} (hk : Ok κ Γ own cc nL (d + 1)) (hd : decode cc pc = .ok (.invokevirtual idx, 3)) (hm : MV M 0) (hl : ML own idx M) {b ci : Nat} {ks : List (Nat ⊕ Bool)} (hb : b < 59) (hy : lay b = .inr (ci, ks)) (hcl : (cls[ci]?).map (fun r => r.1) = some M.1.cls) (h8 : (rest.map fun v => v.category).sum ≤ 8) (hc : Ctr κ.2.1 Γ d M [rf Γ b] S (pI post)) (k : ∀ (r : Int) (S2 : Sx), post r S2 → GW κ Γ (pc + 3) L (vI r :: rest) (wl Γ S2)) : GW κ Γ pc L (rf Γ b :: rest) (wl Γ S) := G_callV (As := []) hk hd hm hl hb hy hcl rfl rfl h8 hc (by
  rintro v S2 ⟨r, rfl, h⟩
  exact k r S2 h)
theorem G_cS0I {post : Int → Sx → Prop} (hk : Ok κ Γ own cc nL (d + 1)) (hd : decode cc pc = .ok (.invokestatic idx, 3)) (hm : MS M 0) (hl : ML own idx M) (h8 : (rest.map fun v => v.category).sum ≤ 8) (hc : Ctr κ.2.1 Γ d M [] S (pI post)) (k : ∀ (r : Int) (S2 : Sx), post r S2 → GW κ Γ (pc + 3) L (vI r :: rest) (wl Γ S2)) : GW κ Γ pc L (rest) (wl Γ S) := G_callS (As := []) hk hd hm hl rfl rfl h8 hc (by
  rintro v S2 ⟨r, rfl, h⟩
  exact k r S2 h)
theorem G_cV0J {post : Int → Sx → Prop} (hk : Ok κ Γ own cc nL (d + 1)) (hd : decode cc pc = .ok (.invokevirtual idx, 3)) (hm : MV M 0) (hl : ML own idx M) {b ci : Nat} {ks : List (Nat ⊕ Bool)} (hb : b < 59) (hy : lay b = .inr (ci, ks)) (hcl : (cls[ci]?).map (fun r => r.1) = some M.1.cls) (h8 : (rest.map fun v => v.category).sum ≤ 8) (hc : Ctr κ.2.1 Γ d M [rf Γ b] S (pL post)) (k : ∀ (r : Int) (S2 : Sx), post r S2 → GW κ Γ (pc + 3) L (vL r :: rest) (wl Γ S2)) : GW κ Γ pc L (rf Γ b :: rest) (wl Γ S) := G_callV (As := []) hk hd hm hl hb hy hcl rfl rfl h8 hc (by
  rintro v S2 ⟨r, rfl, h⟩
  exact k r S2 h)
theorem G_cS0J {post : Int → Sx → Prop} (hk : Ok κ Γ own cc nL (d + 1)) (hd : decode cc pc = .ok (.invokestatic idx, 3)) (hm : MS M 0) (hl : ML own idx M) (h8 : (rest.map fun v => v.category).sum ≤ 8) (hc : Ctr κ.2.1 Γ d M [] S (pL post)) (k : ∀ (r : Int) (S2 : Sx), post r S2 → GW κ Γ (pc + 3) L (vL r :: rest) (wl Γ S2)) : GW κ Γ pc L (rest) (wl Γ S) := G_callS (As := []) hk hd hm hl rfl rfl h8 hc (by
  rintro v S2 ⟨r, rfl, h⟩
  exact k r S2 h)
theorem G_cV0V {post : Sx → Prop} (hk : Ok κ Γ own cc nL (d + 1)) (hd : decode cc pc = .ok (.invokevirtual idx, 3)) (hm : MV M 0) (hl : ML own idx M) {b ci : Nat} {ks : List (Nat ⊕ Bool)} (hb : b < 59) (hy : lay b = .inr (ci, ks)) (hcl : (cls[ci]?).map (fun r => r.1) = some M.1.cls) (h8 : (rest.map fun v => v.category).sum ≤ 8) (hc : Ctr κ.2.1 Γ d M [rf Γ b] S (pV post)) (k : ∀ (S2 : Sx), post S2 → GW κ Γ (pc + 3) L rest (wl Γ S2)) : GW κ Γ pc L (rf Γ b :: rest) (wl Γ S) := G_callV (As := []) hk hd hm hl hb hy hcl rfl rfl h8 hc (by
  rintro v S2 ⟨rfl, h⟩
  exact k S2 h)
theorem G_cS0V {post : Sx → Prop} (hk : Ok κ Γ own cc nL (d + 1)) (hd : decode cc pc = .ok (.invokestatic idx, 3)) (hm : MS M 0) (hl : ML own idx M) (h8 : (rest.map fun v => v.category).sum ≤ 8) (hc : Ctr κ.2.1 Γ d M [] S (pV post)) (k : ∀ (S2 : Sx), post S2 → GW κ Γ (pc + 3) L rest (wl Γ S2)) : GW κ Γ pc L (rest) (wl Γ S) := G_callS (As := []) hk hd hm hl rfl rfl h8 hc (by
  rintro v S2 ⟨rfl, h⟩
  exact k S2 h)
theorem G_cV0P {E : Int} (hk : Ok κ Γ own cc nL (d + 1)) (hd : decode cc pc = .ok (.invokevirtual idx, 3)) (hm : MV M 0) (hl : ML own idx M) {b ci : Nat} {ks : List (Nat ⊕ Bool)} (hb : b < 59) (hy : lay b = .inr (ci, ks)) (hcl : (cls[ci]?).map (fun r => r.1) = some M.1.cls) (h8 : (rest.map fun v => v.category).sum ≤ 8) (hc : Ctr κ.2.1 Γ d M [rf Γ b] S (pP S E)) (k : GW κ Γ (pc + 3) L (vI E :: rest) (wl Γ S)) : GW κ Γ pc L (rf Γ b :: rest) (wl Γ S) := G_callV (As := []) hk hd hm hl hb hy hcl rfl rfl h8 hc (by
  rintro v S2 ⟨r, rfl, rfl, rfl⟩
  exact k)
theorem G_cS0P {E : Int} (hk : Ok κ Γ own cc nL (d + 1)) (hd : decode cc pc = .ok (.invokestatic idx, 3)) (hm : MS M 0) (hl : ML own idx M) (h8 : (rest.map fun v => v.category).sum ≤ 8) (hc : Ctr κ.2.1 Γ d M [] S (pP S E)) (k : GW κ Γ (pc + 3) L (vI E :: rest) (wl Γ S)) : GW κ Γ pc L (rest) (wl Γ S) := G_callS (As := []) hk hd hm hl rfl rfl h8 hc (by
  rintro v S2 ⟨r, rfl, rfl, rfl⟩
  exact k)
theorem G_cV1I {a1 : Value} {post : Int → Sx → Prop} (hk : Ok κ Γ own cc nL (d + 1)) (hd : decode cc pc = .ok (.invokevirtual idx, 3)) (hm : MV M 1) (hl : ML own idx M) {b ci : Nat} {ks : List (Nat ⊕ Bool)} (hb : b < 59) (hy : lay b = .inr (ci, ks)) (hcl : (cls[ci]?).map (fun r => r.1) = some M.1.cls) (h8 : (rest.map fun v => v.category).sum ≤ 8) (hc : Ctr κ.2.1 Γ d M [rf Γ b, a1] S (pI post)) (k : ∀ (r : Int) (S2 : Sx), post r S2 → GW κ Γ (pc + 3) L (vI r :: rest) (wl Γ S2)) : GW κ Γ pc L (a1 :: rf Γ b :: rest) (wl Γ S) := G_callV (As := [a1]) hk hd hm hl hb hy hcl rfl rfl h8 hc (by
  rintro v S2 ⟨r, rfl, h⟩
  exact k r S2 h)
theorem G_cS1I {a1 : Value} {post : Int → Sx → Prop} (hk : Ok κ Γ own cc nL (d + 1)) (hd : decode cc pc = .ok (.invokestatic idx, 3)) (hm : MS M 1) (hl : ML own idx M) (h8 : (rest.map fun v => v.category).sum ≤ 8) (hc : Ctr κ.2.1 Γ d M [a1] S (pI post)) (k : ∀ (r : Int) (S2 : Sx), post r S2 → GW κ Γ (pc + 3) L (vI r :: rest) (wl Γ S2)) : GW κ Γ pc L (a1 :: rest) (wl Γ S) := G_callS (As := [a1]) hk hd hm hl rfl rfl h8 hc (by
  rintro v S2 ⟨r, rfl, h⟩
  exact k r S2 h)
theorem G_cV1J {a1 : Value} {post : Int → Sx → Prop} (hk : Ok κ Γ own cc nL (d + 1)) (hd : decode cc pc = .ok (.invokevirtual idx, 3)) (hm : MV M 1) (hl : ML own idx M) {b ci : Nat} {ks : List (Nat ⊕ Bool)} (hb : b < 59) (hy : lay b = .inr (ci, ks)) (hcl : (cls[ci]?).map (fun r => r.1) = some M.1.cls) (h8 : (rest.map fun v => v.category).sum ≤ 8) (hc : Ctr κ.2.1 Γ d M [rf Γ b, a1] S (pL post)) (k : ∀ (r : Int) (S2 : Sx), post r S2 → GW κ Γ (pc + 3) L (vL r :: rest) (wl Γ S2)) : GW κ Γ pc L (a1 :: rf Γ b :: rest) (wl Γ S) := G_callV (As := [a1]) hk hd hm hl hb hy hcl rfl rfl h8 hc (by
  rintro v S2 ⟨r, rfl, h⟩
  exact k r S2 h)
theorem G_cS1J {a1 : Value} {post : Int → Sx → Prop} (hk : Ok κ Γ own cc nL (d + 1)) (hd : decode cc pc = .ok (.invokestatic idx, 3)) (hm : MS M 1) (hl : ML own idx M) (h8 : (rest.map fun v => v.category).sum ≤ 8) (hc : Ctr κ.2.1 Γ d M [a1] S (pL post)) (k : ∀ (r : Int) (S2 : Sx), post r S2 → GW κ Γ (pc + 3) L (vL r :: rest) (wl Γ S2)) : GW κ Γ pc L (a1 :: rest) (wl Γ S) := G_callS (As := [a1]) hk hd hm hl rfl rfl h8 hc (by
  rintro v S2 ⟨r, rfl, h⟩
  exact k r S2 h)
theorem G_cV1V {a1 : Value} {post : Sx → Prop} (hk : Ok κ Γ own cc nL (d + 1)) (hd : decode cc pc = .ok (.invokevirtual idx, 3)) (hm : MV M 1) (hl : ML own idx M) {b ci : Nat} {ks : List (Nat ⊕ Bool)} (hb : b < 59) (hy : lay b = .inr (ci, ks)) (hcl : (cls[ci]?).map (fun r => r.1) = some M.1.cls) (h8 : (rest.map fun v => v.category).sum ≤ 8) (hc : Ctr κ.2.1 Γ d M [rf Γ b, a1] S (pV post)) (k : ∀ (S2 : Sx), post S2 → GW κ Γ (pc + 3) L rest (wl Γ S2)) : GW κ Γ pc L (a1 :: rf Γ b :: rest) (wl Γ S) := G_callV (As := [a1]) hk hd hm hl hb hy hcl rfl rfl h8 hc (by
  rintro v S2 ⟨rfl, h⟩
  exact k S2 h)
theorem G_cS1V {a1 : Value} {post : Sx → Prop} (hk : Ok κ Γ own cc nL (d + 1)) (hd : decode cc pc = .ok (.invokestatic idx, 3)) (hm : MS M 1) (hl : ML own idx M) (h8 : (rest.map fun v => v.category).sum ≤ 8) (hc : Ctr κ.2.1 Γ d M [a1] S (pV post)) (k : ∀ (S2 : Sx), post S2 → GW κ Γ (pc + 3) L rest (wl Γ S2)) : GW κ Γ pc L (a1 :: rest) (wl Γ S) := G_callS (As := [a1]) hk hd hm hl rfl rfl h8 hc (by
  rintro v S2 ⟨rfl, h⟩
  exact k S2 h)
theorem G_cV1P {a1 : Value} {E : Int} (hk : Ok κ Γ own cc nL (d + 1)) (hd : decode cc pc = .ok (.invokevirtual idx, 3)) (hm : MV M 1) (hl : ML own idx M) {b ci : Nat} {ks : List (Nat ⊕ Bool)} (hb : b < 59) (hy : lay b = .inr (ci, ks)) (hcl : (cls[ci]?).map (fun r => r.1) = some M.1.cls) (h8 : (rest.map fun v => v.category).sum ≤ 8) (hc : Ctr κ.2.1 Γ d M [rf Γ b, a1] S (pP S E)) (k : GW κ Γ (pc + 3) L (vI E :: rest) (wl Γ S)) : GW κ Γ pc L (a1 :: rf Γ b :: rest) (wl Γ S) := G_callV (As := [a1]) hk hd hm hl hb hy hcl rfl rfl h8 hc (by
  rintro v S2 ⟨r, rfl, rfl, rfl⟩
  exact k)
theorem G_cS1P {a1 : Value} {E : Int} (hk : Ok κ Γ own cc nL (d + 1)) (hd : decode cc pc = .ok (.invokestatic idx, 3)) (hm : MS M 1) (hl : ML own idx M) (h8 : (rest.map fun v => v.category).sum ≤ 8) (hc : Ctr κ.2.1 Γ d M [a1] S (pP S E)) (k : GW κ Γ (pc + 3) L (vI E :: rest) (wl Γ S)) : GW κ Γ pc L (a1 :: rest) (wl Γ S) := G_callS (As := [a1]) hk hd hm hl rfl rfl h8 hc (by
  rintro v S2 ⟨r, rfl, rfl, rfl⟩
  exact k)
theorem G_cV2I {a1 a2 : Value} {post : Int → Sx → Prop} (hk : Ok κ Γ own cc nL (d + 1)) (hd : decode cc pc = .ok (.invokevirtual idx, 3)) (hm : MV M 2) (hl : ML own idx M) {b ci : Nat} {ks : List (Nat ⊕ Bool)} (hb : b < 59) (hy : lay b = .inr (ci, ks)) (hcl : (cls[ci]?).map (fun r => r.1) = some M.1.cls) (h8 : (rest.map fun v => v.category).sum ≤ 8) (hc : Ctr κ.2.1 Γ d M [rf Γ b, a1, a2] S (pI post)) (k : ∀ (r : Int) (S2 : Sx), post r S2 → GW κ Γ (pc + 3) L (vI r :: rest) (wl Γ S2)) : GW κ Γ pc L (a2 :: a1 :: rf Γ b :: rest) (wl Γ S) := G_callV (As := [a1, a2]) hk hd hm hl hb hy hcl rfl rfl h8 hc (by
  rintro v S2 ⟨r, rfl, h⟩
  exact k r S2 h)
theorem G_cS2I {a1 a2 : Value} {post : Int → Sx → Prop} (hk : Ok κ Γ own cc nL (d + 1)) (hd : decode cc pc = .ok (.invokestatic idx, 3)) (hm : MS M 2) (hl : ML own idx M) (h8 : (rest.map fun v => v.category).sum ≤ 8) (hc : Ctr κ.2.1 Γ d M [a1, a2] S (pI post)) (k : ∀ (r : Int) (S2 : Sx), post r S2 → GW κ Γ (pc + 3) L (vI r :: rest) (wl Γ S2)) : GW κ Γ pc L (a2 :: a1 :: rest) (wl Γ S) := G_callS (As := [a1, a2]) hk hd hm hl rfl rfl h8 hc (by
  rintro v S2 ⟨r, rfl, h⟩
  exact k r S2 h)
theorem G_cV2J {a1 a2 : Value} {post : Int → Sx → Prop} (hk : Ok κ Γ own cc nL (d + 1)) (hd : decode cc pc = .ok (.invokevirtual idx, 3)) (hm : MV M 2) (hl : ML own idx M) {b ci : Nat} {ks : List (Nat ⊕ Bool)} (hb : b < 59) (hy : lay b = .inr (ci, ks)) (hcl : (cls[ci]?).map (fun r => r.1) = some M.1.cls) (h8 : (rest.map fun v => v.category).sum ≤ 8) (hc : Ctr κ.2.1 Γ d M [rf Γ b, a1, a2] S (pL post)) (k : ∀ (r : Int) (S2 : Sx), post r S2 → GW κ Γ (pc + 3) L (vL r :: rest) (wl Γ S2)) : GW κ Γ pc L (a2 :: a1 :: rf Γ b :: rest) (wl Γ S) := G_callV (As := [a1, a2]) hk hd hm hl hb hy hcl rfl rfl h8 hc (by
  rintro v S2 ⟨r, rfl, h⟩
  exact k r S2 h)
theorem G_cS2J {a1 a2 : Value} {post : Int → Sx → Prop} (hk : Ok κ Γ own cc nL (d + 1)) (hd : decode cc pc = .ok (.invokestatic idx, 3)) (hm : MS M 2) (hl : ML own idx M) (h8 : (rest.map fun v => v.category).sum ≤ 8) (hc : Ctr κ.2.1 Γ d M [a1, a2] S (pL post)) (k : ∀ (r : Int) (S2 : Sx), post r S2 → GW κ Γ (pc + 3) L (vL r :: rest) (wl Γ S2)) : GW κ Γ pc L (a2 :: a1 :: rest) (wl Γ S) := G_callS (As := [a1, a2]) hk hd hm hl rfl rfl h8 hc (by
  rintro v S2 ⟨r, rfl, h⟩
  exact k r S2 h)
theorem G_cV2V {a1 a2 : Value} {post : Sx → Prop} (hk : Ok κ Γ own cc nL (d + 1)) (hd : decode cc pc = .ok (.invokevirtual idx, 3)) (hm : MV M 2) (hl : ML own idx M) {b ci : Nat} {ks : List (Nat ⊕ Bool)} (hb : b < 59) (hy : lay b = .inr (ci, ks)) (hcl : (cls[ci]?).map (fun r => r.1) = some M.1.cls) (h8 : (rest.map fun v => v.category).sum ≤ 8) (hc : Ctr κ.2.1 Γ d M [rf Γ b, a1, a2] S (pV post)) (k : ∀ (S2 : Sx), post S2 → GW κ Γ (pc + 3) L rest (wl Γ S2)) : GW κ Γ pc L (a2 :: a1 :: rf Γ b :: rest) (wl Γ S) := G_callV (As := [a1, a2]) hk hd hm hl hb hy hcl rfl rfl h8 hc (by
  rintro v S2 ⟨rfl, h⟩
  exact k S2 h)
theorem G_cS2V {a1 a2 : Value} {post : Sx → Prop} (hk : Ok κ Γ own cc nL (d + 1)) (hd : decode cc pc = .ok (.invokestatic idx, 3)) (hm : MS M 2) (hl : ML own idx M) (h8 : (rest.map fun v => v.category).sum ≤ 8) (hc : Ctr κ.2.1 Γ d M [a1, a2] S (pV post)) (k : ∀ (S2 : Sx), post S2 → GW κ Γ (pc + 3) L rest (wl Γ S2)) : GW κ Γ pc L (a2 :: a1 :: rest) (wl Γ S) := G_callS (As := [a1, a2]) hk hd hm hl rfl rfl h8 hc (by
  rintro v S2 ⟨rfl, h⟩
  exact k S2 h)
theorem G_cV2P {a1 a2 : Value} {E : Int} (hk : Ok κ Γ own cc nL (d + 1)) (hd : decode cc pc = .ok (.invokevirtual idx, 3)) (hm : MV M 2) (hl : ML own idx M) {b ci : Nat} {ks : List (Nat ⊕ Bool)} (hb : b < 59) (hy : lay b = .inr (ci, ks)) (hcl : (cls[ci]?).map (fun r => r.1) = some M.1.cls) (h8 : (rest.map fun v => v.category).sum ≤ 8) (hc : Ctr κ.2.1 Γ d M [rf Γ b, a1, a2] S (pP S E)) (k : GW κ Γ (pc + 3) L (vI E :: rest) (wl Γ S)) : GW κ Γ pc L (a2 :: a1 :: rf Γ b :: rest) (wl Γ S) := G_callV (As := [a1, a2]) hk hd hm hl hb hy hcl rfl rfl h8 hc (by
  rintro v S2 ⟨r, rfl, rfl, rfl⟩
  exact k)
theorem G_cS2P {a1 a2 : Value} {E : Int} (hk : Ok κ Γ own cc nL (d + 1)) (hd : decode cc pc = .ok (.invokestatic idx, 3)) (hm : MS M 2) (hl : ML own idx M) (h8 : (rest.map fun v => v.category).sum ≤ 8) (hc : Ctr κ.2.1 Γ d M [a1, a2] S (pP S E)) (k : GW κ Γ (pc + 3) L (vI E :: rest) (wl Γ S)) : GW κ Γ pc L (a2 :: a1 :: rest) (wl Γ S) := G_callS (As := [a1, a2]) hk hd hm hl rfl rfl h8 hc (by
  rintro v S2 ⟨r, rfl, rfl, rfl⟩
  exact k)
theorem G_cV3I {a1 a2 a3 : Value} {post : Int → Sx → Prop} (hk : Ok κ Γ own cc nL (d + 1)) (hd : decode cc pc = .ok (.invokevirtual idx, 3)) (hm : MV M 3) (hl : ML own idx M) {b ci : Nat} {ks : List (Nat ⊕ Bool)} (hb : b < 59) (hy : lay b = .inr (ci, ks)) (hcl : (cls[ci]?).map (fun r => r.1) = some M.1.cls) (h8 : (rest.map fun v => v.category).sum ≤ 8) (hc : Ctr κ.2.1 Γ d M [rf Γ b, a1, a2, a3] S (pI post)) (k : ∀ (r : Int) (S2 : Sx), post r S2 → GW κ Γ (pc + 3) L (vI r :: rest) (wl Γ S2)) : GW κ Γ pc L (a3 :: a2 :: a1 :: rf Γ b :: rest) (wl Γ S) := G_callV (As := [a1, a2, a3]) hk hd hm hl hb hy hcl rfl rfl h8 hc (by
  rintro v S2 ⟨r, rfl, h⟩
  exact k r S2 h)
theorem G_cS3I {a1 a2 a3 : Value} {post : Int → Sx → Prop} (hk : Ok κ Γ own cc nL (d + 1)) (hd : decode cc pc = .ok (.invokestatic idx, 3)) (hm : MS M 3) (hl : ML own idx M) (h8 : (rest.map fun v => v.category).sum ≤ 8) (hc : Ctr κ.2.1 Γ d M [a1, a2, a3] S (pI post)) (k : ∀ (r : Int) (S2 : Sx), post r S2 → GW κ Γ (pc + 3) L (vI r :: rest) (wl Γ S2)) : GW κ Γ pc L (a3 :: a2 :: a1 :: rest) (wl Γ S) := G_callS (As := [a1, a2, a3]) hk hd hm hl rfl rfl h8 hc (by
  rintro v S2 ⟨r, rfl, h⟩
  exact k r S2 h)
theorem G_cV3J {a1 a2 a3 : Value} {post : Int → Sx → Prop} (hk : Ok κ Γ own cc nL (d + 1)) (hd : decode cc pc = .ok (.invokevirtual idx, 3)) (hm : MV M 3) (hl : ML own idx M) {b ci : Nat} {ks : List (Nat ⊕ Bool)} (hb : b < 59) (hy : lay b = .inr (ci, ks)) (hcl : (cls[ci]?).map (fun r => r.1) = some M.1.cls) (h8 : (rest.map fun v => v.category).sum ≤ 8) (hc : Ctr κ.2.1 Γ d M [rf Γ b, a1, a2, a3] S (pL post)) (k : ∀ (r : Int) (S2 : Sx), post r S2 → GW κ Γ (pc + 3) L (vL r :: rest) (wl Γ S2)) : GW κ Γ pc L (a3 :: a2 :: a1 :: rf Γ b :: rest) (wl Γ S) := G_callV (As := [a1, a2, a3]) hk hd hm hl hb hy hcl rfl rfl h8 hc (by
  rintro v S2 ⟨r, rfl, h⟩
  exact k r S2 h)
theorem G_cS3J {a1 a2 a3 : Value} {post : Int → Sx → Prop} (hk : Ok κ Γ own cc nL (d + 1)) (hd : decode cc pc = .ok (.invokestatic idx, 3)) (hm : MS M 3) (hl : ML own idx M) (h8 : (rest.map fun v => v.category).sum ≤ 8) (hc : Ctr κ.2.1 Γ d M [a1, a2, a3] S (pL post)) (k : ∀ (r : Int) (S2 : Sx), post r S2 → GW κ Γ (pc + 3) L (vL r :: rest) (wl Γ S2)) : GW κ Γ pc L (a3 :: a2 :: a1 :: rest) (wl Γ S) := G_callS (As := [a1, a2, a3]) hk hd hm hl rfl rfl h8 hc (by
  rintro v S2 ⟨r, rfl, h⟩
  exact k r S2 h)
theorem G_cV3V {a1 a2 a3 : Value} {post : Sx → Prop} (hk : Ok κ Γ own cc nL (d + 1)) (hd : decode cc pc = .ok (.invokevirtual idx, 3)) (hm : MV M 3) (hl : ML own idx M) {b ci : Nat} {ks : List (Nat ⊕ Bool)} (hb : b < 59) (hy : lay b = .inr (ci, ks)) (hcl : (cls[ci]?).map (fun r => r.1) = some M.1.cls) (h8 : (rest.map fun v => v.category).sum ≤ 8) (hc : Ctr κ.2.1 Γ d M [rf Γ b, a1, a2, a3] S (pV post)) (k : ∀ (S2 : Sx), post S2 → GW κ Γ (pc + 3) L rest (wl Γ S2)) : GW κ Γ pc L (a3 :: a2 :: a1 :: rf Γ b :: rest) (wl Γ S) := G_callV (As := [a1, a2, a3]) hk hd hm hl hb hy hcl rfl rfl h8 hc (by
  rintro v S2 ⟨rfl, h⟩
  exact k S2 h)
theorem G_cS3V {a1 a2 a3 : Value} {post : Sx → Prop} (hk : Ok κ Γ own cc nL (d + 1)) (hd : decode cc pc = .ok (.invokestatic idx, 3)) (hm : MS M 3) (hl : ML own idx M) (h8 : (rest.map fun v => v.category).sum ≤ 8) (hc : Ctr κ.2.1 Γ d M [a1, a2, a3] S (pV post)) (k : ∀ (S2 : Sx), post S2 → GW κ Γ (pc + 3) L rest (wl Γ S2)) : GW κ Γ pc L (a3 :: a2 :: a1 :: rest) (wl Γ S) := G_callS (As := [a1, a2, a3]) hk hd hm hl rfl rfl h8 hc (by
  rintro v S2 ⟨rfl, h⟩
  exact k S2 h)
theorem G_cV3P {a1 a2 a3 : Value} {E : Int} (hk : Ok κ Γ own cc nL (d + 1)) (hd : decode cc pc = .ok (.invokevirtual idx, 3)) (hm : MV M 3) (hl : ML own idx M) {b ci : Nat} {ks : List (Nat ⊕ Bool)} (hb : b < 59) (hy : lay b = .inr (ci, ks)) (hcl : (cls[ci]?).map (fun r => r.1) = some M.1.cls) (h8 : (rest.map fun v => v.category).sum ≤ 8) (hc : Ctr κ.2.1 Γ d M [rf Γ b, a1, a2, a3] S (pP S E)) (k : GW κ Γ (pc + 3) L (vI E :: rest) (wl Γ S)) : GW κ Γ pc L (a3 :: a2 :: a1 :: rf Γ b :: rest) (wl Γ S) := G_callV (As := [a1, a2, a3]) hk hd hm hl hb hy hcl rfl rfl h8 hc (by
  rintro v S2 ⟨r, rfl, rfl, rfl⟩
  exact k)
theorem G_cS3P {a1 a2 a3 : Value} {E : Int} (hk : Ok κ Γ own cc nL (d + 1)) (hd : decode cc pc = .ok (.invokestatic idx, 3)) (hm : MS M 3) (hl : ML own idx M) (h8 : (rest.map fun v => v.category).sum ≤ 8) (hc : Ctr κ.2.1 Γ d M [a1, a2, a3] S (pP S E)) (k : GW κ Γ (pc + 3) L (vI E :: rest) (wl Γ S)) : GW κ Γ pc L (a3 :: a2 :: a1 :: rest) (wl Γ S) := G_callS (As := [a1, a2, a3]) hk hd hm hl rfl rfl h8 hc (by
  rintro v S2 ⟨r, rfl, rfl, rfl⟩
  exact k)
theorem G_cV4I {a1 a2 a3 a4 : Value} {post : Int → Sx → Prop} (hk : Ok κ Γ own cc nL (d + 1)) (hd : decode cc pc = .ok (.invokevirtual idx, 3)) (hm : MV M 4) (hl : ML own idx M) {b ci : Nat} {ks : List (Nat ⊕ Bool)} (hb : b < 59) (hy : lay b = .inr (ci, ks)) (hcl : (cls[ci]?).map (fun r => r.1) = some M.1.cls) (h8 : (rest.map fun v => v.category).sum ≤ 8) (hc : Ctr κ.2.1 Γ d M [rf Γ b, a1, a2, a3, a4] S (pI post)) (k : ∀ (r : Int) (S2 : Sx), post r S2 → GW κ Γ (pc + 3) L (vI r :: rest) (wl Γ S2)) : GW κ Γ pc L (a4 :: a3 :: a2 :: a1 :: rf Γ b :: rest) (wl Γ S) := G_callV (As := [a1, a2, a3, a4]) hk hd hm hl hb hy hcl rfl rfl h8 hc (by
  rintro v S2 ⟨r, rfl, h⟩
  exact k r S2 h)
theorem G_cS4I {a1 a2 a3 a4 : Value} {post : Int → Sx → Prop} (hk : Ok κ Γ own cc nL (d + 1)) (hd : decode cc pc = .ok (.invokestatic idx, 3)) (hm : MS M 4) (hl : ML own idx M) (h8 : (rest.map fun v => v.category).sum ≤ 8) (hc : Ctr κ.2.1 Γ d M [a1, a2, a3, a4] S (pI post)) (k : ∀ (r : Int) (S2 : Sx), post r S2 → GW κ Γ (pc + 3) L (vI r :: rest) (wl Γ S2)) : GW κ Γ pc L (a4 :: a3 :: a2 :: a1 :: rest) (wl Γ S) := G_callS (As := [a1, a2, a3, a4]) hk hd hm hl rfl rfl h8 hc (by
  rintro v S2 ⟨r, rfl, h⟩
  exact k r S2 h)
theorem G_cV4J {a1 a2 a3 a4 : Value} {post : Int → Sx → Prop} (hk : Ok κ Γ own cc nL (d + 1)) (hd : decode cc pc = .ok (.invokevirtual idx, 3)) (hm : MV M 4) (hl : ML own idx M) {b ci : Nat} {ks : List (Nat ⊕ Bool)} (hb : b < 59) (hy : lay b = .inr (ci, ks)) (hcl : (cls[ci]?).map (fun r => r.1) = some M.1.cls) (h8 : (rest.map fun v => v.category).sum ≤ 8) (hc : Ctr κ.2.1 Γ d M [rf Γ b, a1, a2, a3, a4] S (pL post)) (k : ∀ (r : Int) (S2 : Sx), post r S2 → GW κ Γ (pc + 3) L (vL r :: rest) (wl Γ S2)) : GW κ Γ pc L (a4 :: a3 :: a2 :: a1 :: rf Γ b :: rest) (wl Γ S) := G_callV (As := [a1, a2, a3, a4]) hk hd hm hl hb hy hcl rfl rfl h8 hc (by
  rintro v S2 ⟨r, rfl, h⟩
  exact k r S2 h)
theorem G_cS4J {a1 a2 a3 a4 : Value} {post : Int → Sx → Prop} (hk : Ok κ Γ own cc nL (d + 1)) (hd : decode cc pc = .ok (.invokestatic idx, 3)) (hm : MS M 4) (hl : ML own idx M) (h8 : (rest.map fun v => v.category).sum ≤ 8) (hc : Ctr κ.2.1 Γ d M [a1, a2, a3, a4] S (pL post)) (k : ∀ (r : Int) (S2 : Sx), post r S2 → GW κ Γ (pc + 3) L (vL r :: rest) (wl Γ S2)) : GW κ Γ pc L (a4 :: a3 :: a2 :: a1 :: rest) (wl Γ S) := G_callS (As := [a1, a2, a3, a4]) hk hd hm hl rfl rfl h8 hc (by
  rintro v S2 ⟨r, rfl, h⟩
  exact k r S2 h)
theorem G_cV4V {a1 a2 a3 a4 : Value} {post : Sx → Prop} (hk : Ok κ Γ own cc nL (d + 1)) (hd : decode cc pc = .ok (.invokevirtual idx, 3)) (hm : MV M 4) (hl : ML own idx M) {b ci : Nat} {ks : List (Nat ⊕ Bool)} (hb : b < 59) (hy : lay b = .inr (ci, ks)) (hcl : (cls[ci]?).map (fun r => r.1) = some M.1.cls) (h8 : (rest.map fun v => v.category).sum ≤ 8) (hc : Ctr κ.2.1 Γ d M [rf Γ b, a1, a2, a3, a4] S (pV post)) (k : ∀ (S2 : Sx), post S2 → GW κ Γ (pc + 3) L rest (wl Γ S2)) : GW κ Γ pc L (a4 :: a3 :: a2 :: a1 :: rf Γ b :: rest) (wl Γ S) := G_callV (As := [a1, a2, a3, a4]) hk hd hm hl hb hy hcl rfl rfl h8 hc (by
  rintro v S2 ⟨rfl, h⟩
  exact k S2 h)
theorem G_cS4V {a1 a2 a3 a4 : Value} {post : Sx → Prop} (hk : Ok κ Γ own cc nL (d + 1)) (hd : decode cc pc = .ok (.invokestatic idx, 3)) (hm : MS M 4) (hl : ML own idx M) (h8 : (rest.map fun v => v.category).sum ≤ 8) (hc : Ctr κ.2.1 Γ d M [a1, a2, a3, a4] S (pV post)) (k : ∀ (S2 : Sx), post S2 → GW κ Γ (pc + 3) L rest (wl Γ S2)) : GW κ Γ pc L (a4 :: a3 :: a2 :: a1 :: rest) (wl Γ S) := G_callS (As := [a1, a2, a3, a4]) hk hd hm hl rfl rfl h8 hc (by
  rintro v S2 ⟨rfl, h⟩
  exact k S2 h)
theorem G_cV4P {a1 a2 a3 a4 : Value} {E : Int} (hk : Ok κ Γ own cc nL (d + 1)) (hd : decode cc pc = .ok (.invokevirtual idx, 3)) (hm : MV M 4) (hl : ML own idx M) {b ci : Nat} {ks : List (Nat ⊕ Bool)} (hb : b < 59) (hy : lay b = .inr (ci, ks)) (hcl : (cls[ci]?).map (fun r => r.1) = some M.1.cls) (h8 : (rest.map fun v => v.category).sum ≤ 8) (hc : Ctr κ.2.1 Γ d M [rf Γ b, a1, a2, a3, a4] S (pP S E)) (k : GW κ Γ (pc + 3) L (vI E :: rest) (wl Γ S)) : GW κ Γ pc L (a4 :: a3 :: a2 :: a1 :: rf Γ b :: rest) (wl Γ S) := G_callV (As := [a1, a2, a3, a4]) hk hd hm hl hb hy hcl rfl rfl h8 hc (by
  rintro v S2 ⟨r, rfl, rfl, rfl⟩
  exact k)
theorem G_cS4P {a1 a2 a3 a4 : Value} {E : Int} (hk : Ok κ Γ own cc nL (d + 1)) (hd : decode cc pc = .ok (.invokestatic idx, 3)) (hm : MS M 4) (hl : ML own idx M) (h8 : (rest.map fun v => v.category).sum ≤ 8) (hc : Ctr κ.2.1 Γ d M [a1, a2, a3, a4] S (pP S E)) (k : GW κ Γ (pc + 3) L (vI E :: rest) (wl Γ S)) : GW κ Γ pc L (a4 :: a3 :: a2 :: a1 :: rest) (wl Γ S) := G_callS (As := [a1, a2, a3, a4]) hk hd hm hl rfl rfl h8 hc (by
  rintro v S2 ⟨r, rfl, rfl, rfl⟩
  exact k)
theorem G_cV5I {a1 a2 a3 a4 a5 : Value} {post : Int → Sx → Prop} (hk : Ok κ Γ own cc nL (d + 1)) (hd : decode cc pc = .ok (.invokevirtual idx, 3)) (hm : MV M 5) (hl : ML own idx M) {b ci : Nat} {ks : List (Nat ⊕ Bool)} (hb : b < 59) (hy : lay b = .inr (ci, ks)) (hcl : (cls[ci]?).map (fun r => r.1) = some M.1.cls) (h8 : (rest.map fun v => v.category).sum ≤ 8) (hc : Ctr κ.2.1 Γ d M [rf Γ b, a1, a2, a3, a4, a5] S (pI post)) (k : ∀ (r : Int) (S2 : Sx), post r S2 → GW κ Γ (pc + 3) L (vI r :: rest) (wl Γ S2)) : GW κ Γ pc L (a5 :: a4 :: a3 :: a2 :: a1 :: rf Γ b :: rest) (wl Γ S) := G_callV (As := [a1, a2, a3, a4, a5]) hk hd hm hl hb hy hcl rfl rfl h8 hc (by
  rintro v S2 ⟨r, rfl, h⟩
  exact k r S2 h)
theorem G_cS5I {a1 a2 a3 a4 a5 : Value} {post : Int → Sx → Prop} (hk : Ok κ Γ own cc nL (d + 1)) (hd : decode cc pc = .ok (.invokestatic idx, 3)) (hm : MS M 5) (hl : ML own idx M) (h8 : (rest.map fun v => v.category).sum ≤ 8) (hc : Ctr κ.2.1 Γ d M [a1, a2, a3, a4, a5] S (pI post)) (k : ∀ (r : Int) (S2 : Sx), post r S2 → GW κ Γ (pc + 3) L (vI r :: rest) (wl Γ S2)) : GW κ Γ pc L (a5 :: a4 :: a3 :: a2 :: a1 :: rest) (wl Γ S) := G_callS (As := [a1, a2, a3, a4, a5]) hk hd hm hl rfl rfl h8 hc (by
  rintro v S2 ⟨r, rfl, h⟩
  exact k r S2 h)
theorem G_cV5J {a1 a2 a3 a4 a5 : Value} {post : Int → Sx → Prop} (hk : Ok κ Γ own cc nL (d + 1)) (hd : decode cc pc = .ok (.invokevirtual idx, 3)) (hm : MV M 5) (hl : ML own idx M) {b ci : Nat} {ks : List (Nat ⊕ Bool)} (hb : b < 59) (hy : lay b = .inr (ci, ks)) (hcl : (cls[ci]?).map (fun r => r.1) = some M.1.cls) (h8 : (rest.map fun v => v.category).sum ≤ 8) (hc : Ctr κ.2.1 Γ d M [rf Γ b, a1, a2, a3, a4, a5] S (pL post)) (k : ∀ (r : Int) (S2 : Sx), post r S2 → GW κ Γ (pc + 3) L (vL r :: rest) (wl Γ S2)) : GW κ Γ pc L (a5 :: a4 :: a3 :: a2 :: a1 :: rf Γ b :: rest) (wl Γ S) := G_callV (As := [a1, a2, a3, a4, a5]) hk hd hm hl hb hy hcl rfl rfl h8 hc (by
  rintro v S2 ⟨r, rfl, h⟩
  exact k r S2 h)
theorem G_cS5J {a1 a2 a3 a4 a5 : Value} {post : Int → Sx → Prop} (hk : Ok κ Γ own cc nL (d + 1)) (hd : decode cc pc = .ok (.invokestatic idx, 3)) (hm : MS M 5) (hl : ML own idx M) (h8 : (rest.map fun v => v.category).sum ≤ 8) (hc : Ctr κ.2.1 Γ d M [a1, a2, a3, a4, a5] S (pL post)) (k : ∀ (r : Int) (S2 : Sx), post r S2 → GW κ Γ (pc + 3) L (vL r :: rest) (wl Γ S2)) : GW κ Γ pc L (a5 :: a4 :: a3 :: a2 :: a1 :: rest) (wl Γ S) := G_callS (As := [a1, a2, a3, a4, a5]) hk hd hm hl rfl rfl h8 hc (by
  rintro v S2 ⟨r, rfl, h⟩
  exact k r S2 h)
theorem G_cV5V {a1 a2 a3 a4 a5 : Value} {post : Sx → Prop} (hk : Ok κ Γ own cc nL (d + 1)) (hd : decode cc pc = .ok (.invokevirtual idx, 3)) (hm : MV M 5) (hl : ML own idx M) {b ci : Nat} {ks : List (Nat ⊕ Bool)} (hb : b < 59) (hy : lay b = .inr (ci, ks)) (hcl : (cls[ci]?).map (fun r => r.1) = some M.1.cls) (h8 : (rest.map fun v => v.category).sum ≤ 8) (hc : Ctr κ.2.1 Γ d M [rf Γ b, a1, a2, a3, a4, a5] S (pV post)) (k : ∀ (S2 : Sx), post S2 → GW κ Γ (pc + 3) L rest (wl Γ S2)) : GW κ Γ pc L (a5 :: a4 :: a3 :: a2 :: a1 :: rf Γ b :: rest) (wl Γ S) := G_callV (As := [a1, a2, a3, a4, a5]) hk hd hm hl hb hy hcl rfl rfl h8 hc (by
  rintro v S2 ⟨rfl, h⟩
  exact k S2 h)
theorem G_cS5V {a1 a2 a3 a4 a5 : Value} {post : Sx → Prop} (hk : Ok κ Γ own cc nL (d + 1)) (hd : decode cc pc = .ok (.invokestatic idx, 3)) (hm : MS M 5) (hl : ML own idx M) (h8 : (rest.map fun v => v.category).sum ≤ 8) (hc : Ctr κ.2.1 Γ d M [a1, a2, a3, a4, a5] S (pV post)) (k : ∀ (S2 : Sx), post S2 → GW κ Γ (pc + 3) L rest (wl Γ S2)) : GW κ Γ pc L (a5 :: a4 :: a3 :: a2 :: a1 :: rest) (wl Γ S) := G_callS (As := [a1, a2, a3, a4, a5]) hk hd hm hl rfl rfl h8 hc (by
  rintro v S2 ⟨rfl, h⟩
  exact k S2 h)
theorem G_cV5P {a1 a2 a3 a4 a5 : Value} {E : Int} (hk : Ok κ Γ own cc nL (d + 1)) (hd : decode cc pc = .ok (.invokevirtual idx, 3)) (hm : MV M 5) (hl : ML own idx M) {b ci : Nat} {ks : List (Nat ⊕ Bool)} (hb : b < 59) (hy : lay b = .inr (ci, ks)) (hcl : (cls[ci]?).map (fun r => r.1) = some M.1.cls) (h8 : (rest.map fun v => v.category).sum ≤ 8) (hc : Ctr κ.2.1 Γ d M [rf Γ b, a1, a2, a3, a4, a5] S (pP S E)) (k : GW κ Γ (pc + 3) L (vI E :: rest) (wl Γ S)) : GW κ Γ pc L (a5 :: a4 :: a3 :: a2 :: a1 :: rf Γ b :: rest) (wl Γ S) := G_callV (As := [a1, a2, a3, a4, a5]) hk hd hm hl hb hy hcl rfl rfl h8 hc (by
  rintro v S2 ⟨r, rfl, rfl, rfl⟩
  exact k)
theorem G_cS5P {a1 a2 a3 a4 a5 : Value} {E : Int} (hk : Ok κ Γ own cc nL (d + 1)) (hd : decode cc pc = .ok (.invokestatic idx, 3)) (hm : MS M 5) (hl : ML own idx M) (h8 : (rest.map fun v => v.category).sum ≤ 8) (hc : Ctr κ.2.1 Γ d M [a1, a2, a3, a4, a5] S (pP S E)) (k : GW κ Γ (pc + 3) L (vI E :: rest) (wl Γ S)) : GW κ Γ pc L (a5 :: a4 :: a3 :: a2 :: a1 :: rest) (wl Γ S) := G_callS (As := [a1, a2, a3, a4, a5]) hk hd hm hl rfl rfl h8 hc (by
  rintro v S2 ⟨r, rfl, rfl, rfl⟩
  exact k)
theorem G_cV6I {a1 a2 a3 a4 a5 a6 : Value} {post : Int → Sx → Prop} (hk : Ok κ Γ own cc nL (d + 1)) (hd : decode cc pc = .ok (.invokevirtual idx, 3)) (hm : MV M 6) (hl : ML own idx M) {b ci : Nat} {ks : List (Nat ⊕ Bool)} (hb : b < 59) (hy : lay b = .inr (ci, ks)) (hcl : (cls[ci]?).map (fun r => r.1) = some M.1.cls) (h8 : (rest.map fun v => v.category).sum ≤ 8) (hc : Ctr κ.2.1 Γ d M [rf Γ b, a1, a2, a3, a4, a5, a6] S (pI post)) (k : ∀ (r : Int) (S2 : Sx), post r S2 → GW κ Γ (pc + 3) L (vI r :: rest) (wl Γ S2)) : GW κ Γ pc L (a6 :: a5 :: a4 :: a3 :: a2 :: a1 :: rf Γ b :: rest) (wl Γ S) := G_callV (As := [a1, a2, a3, a4, a5, a6]) hk hd hm hl hb hy hcl rfl rfl h8 hc (by
  rintro v S2 ⟨r, rfl, h⟩
  exact k r S2 h)
theorem G_cS6I {a1 a2 a3 a4 a5 a6 : Value} {post : Int → Sx → Prop} (hk : Ok κ Γ own cc nL (d + 1)) (hd : decode cc pc = .ok (.invokestatic idx, 3)) (hm : MS M 6) (hl : ML own idx M) (h8 : (rest.map fun v => v.category).sum ≤ 8) (hc : Ctr κ.2.1 Γ d M [a1, a2, a3, a4, a5, a6] S (pI post)) (k : ∀ (r : Int) (S2 : Sx), post r S2 → GW κ Γ (pc + 3) L (vI r :: rest) (wl Γ S2)) : GW κ Γ pc L (a6 :: a5 :: a4 :: a3 :: a2 :: a1 :: rest) (wl Γ S) := G_callS (As := [a1, a2, a3, a4, a5, a6]) hk hd hm hl rfl rfl h8 hc (by
  rintro v S2 ⟨r, rfl, h⟩
  exact k r S2 h)
theorem G_cV6J {a1 a2 a3 a4 a5 a6 : Value} {post : Int → Sx → Prop} (hk : Ok κ Γ own cc nL (d + 1)) (hd : decode cc pc = .ok (.invokevirtual idx, 3)) (hm : MV M 6) (hl : ML own idx M) {b ci : Nat} {ks : List (Nat ⊕ Bool)} (hb : b < 59) (hy : lay b = .inr (ci, ks)) (hcl : (cls[ci]?).map (fun r => r.1) = some M.1.cls) (h8 : (rest.map fun v => v.category).sum ≤ 8) (hc : Ctr κ.2.1 Γ d M [rf Γ b, a1, a2, a3, a4, a5, a6] S (pL post)) (k : ∀ (r : Int) (S2 : Sx), post r S2 → GW κ Γ (pc + 3) L (vL r :: rest) (wl Γ S2)) : GW κ Γ pc L (a6 :: a5 :: a4 :: a3 :: a2 :: a1 :: rf Γ b :: rest) (wl Γ S) := G_callV (As := [a1, a2, a3, a4, a5, a6]) hk hd hm hl hb hy hcl rfl rfl h8 hc (by
  rintro v S2 ⟨r, rfl, h⟩
  exact k r S2 h)
theorem G_cS6J {a1 a2 a3 a4 a5 a6 : Value} {post : Int → Sx → Prop} (hk : Ok κ Γ own cc nL (d + 1)) (hd : decode cc pc = .ok (.invokestatic idx, 3)) (hm : MS M 6) (hl : ML own idx M) (h8 : (rest.map fun v => v.category).sum ≤ 8) (hc : Ctr κ.2.1 Γ d M [a1, a2, a3, a4, a5, a6] S (pL post)) (k : ∀ (r : Int) (S2 : Sx), post r S2 → GW κ Γ (pc + 3) L (vL r :: rest) (wl Γ S2)) : GW κ Γ pc L (a6 :: a5 :: a4 :: a3 :: a2 :: a1 :: rest) (wl Γ S) := G_callS (As := [a1, a2, a3, a4, a5, a6]) hk hd hm hl rfl rfl h8 hc (by
  rintro v S2 ⟨r, rfl, h⟩
  exact k r S2 h)
theorem G_cV6V {a1 a2 a3 a4 a5 a6 : Value} {post : Sx → Prop} (hk : Ok κ Γ own cc nL (d + 1)) (hd : decode cc pc = .ok (.invokevirtual idx, 3)) (hm : MV M 6) (hl : ML own idx M) {b ci : Nat} {ks : List (Nat ⊕ Bool)} (hb : b < 59) (hy : lay b = .inr (ci, ks)) (hcl : (cls[ci]?).map (fun r => r.1) = some M.1.cls) (h8 : (rest.map fun v => v.category).sum ≤ 8) (hc : Ctr κ.2.1 Γ d M [rf Γ b, a1, a2, a3, a4, a5, a6] S (pV post)) (k : ∀ (S2 : Sx), post S2 → GW κ Γ (pc + 3) L rest (wl Γ S2)) : GW κ Γ pc L (a6 :: a5 :: a4 :: a3 :: a2 :: a1 :: rf Γ b :: rest) (wl Γ S) := G_callV (As := [a1, a2, a3, a4, a5, a6]) hk hd hm hl hb hy hcl rfl rfl h8 hc (by
  rintro v S2 ⟨rfl, h⟩
  exact k S2 h)
theorem G_cS6V {a1 a2 a3 a4 a5 a6 : Value} {post : Sx → Prop} (hk : Ok κ Γ own cc nL (d + 1)) (hd : decode cc pc = .ok (.invokestatic idx, 3)) (hm : MS M 6) (hl : ML own idx M) (h8 : (rest.map fun v => v.category).sum ≤ 8) (hc : Ctr κ.2.1 Γ d M [a1, a2, a3, a4, a5, a6] S (pV post)) (k : ∀ (S2 : Sx), post S2 → GW κ Γ (pc + 3) L rest (wl Γ S2)) : GW κ Γ pc L (a6 :: a5 :: a4 :: a3 :: a2 :: a1 :: rest) (wl Γ S) := G_callS (As := [a1, a2, a3, a4, a5, a6]) hk hd hm hl rfl rfl h8 hc (by
  rintro v S2 ⟨rfl, h⟩
  exact k S2 h)
theorem G_cV6P {a1 a2 a3 a4 a5 a6 : Value} {E : Int} (hk : Ok κ Γ own cc nL (d + 1)) (hd : decode cc pc = .ok (.invokevirtual idx, 3)) (hm : MV M 6) (hl : ML own idx M) {b ci : Nat} {ks : List (Nat ⊕ Bool)} (hb : b < 59) (hy : lay b = .inr (ci, ks)) (hcl : (cls[ci]?).map (fun r => r.1) = some M.1.cls) (h8 : (rest.map fun v => v.category).sum ≤ 8) (hc : Ctr κ.2.1 Γ d M [rf Γ b, a1, a2, a3, a4, a5, a6] S (pP S E)) (k : GW κ Γ (pc + 3) L (vI E :: rest) (wl Γ S)) : GW κ Γ pc L (a6 :: a5 :: a4 :: a3 :: a2 :: a1 :: rf Γ b :: rest) (wl Γ S) := G_callV (As := [a1, a2, a3, a4, a5, a6]) hk hd hm hl hb hy hcl rfl rfl h8 hc (by
  rintro v S2 ⟨r, rfl, rfl, rfl⟩
  exact k)
theorem G_cS6P {a1 a2 a3 a4 a5 a6 : Value} {E : Int} (hk : Ok κ Γ own cc nL (d + 1)) (hd : decode cc pc = .ok (.invokestatic idx, 3)) (hm : MS M 6) (hl : ML own idx M) (h8 : (rest.map fun v => v.category).sum ≤ 8) (hc : Ctr κ.2.1 Γ d M [a1, a2, a3, a4, a5, a6] S (pP S E)) (k : GW κ Γ (pc + 3) L (vI E :: rest) (wl Γ S)) : GW κ Γ pc L (a6 :: a5 :: a4 :: a3 :: a2 :: a1 :: rest) (wl Γ S) := G_callS (As := [a1, a2, a3, a4, a5, a6]) hk hd hm hl rfl rfl h8 hc (by
  rintro v S2 ⟨r, rfl, rfl, rfl⟩
  exact k)
variable {ws : va_W} {st : List Value}
theorem G_bif_eq {c : Prop} [Decidable c] {off : Int} {tgt : Nat} (hk : Ok κ Γ own cc nL d) (hd : decode cc pc = .ok (.ifCond .eq off, 3)) (ht : (pc : Int) + off = (tgt : Int)) (kt : ¬ c → GW κ Γ tgt L st ws) (kf : c → GW κ Γ (pc + 3) L st ws) : GW κ Γ pc L (vI (bz c) :: st) ws := G_if_eq hk hd ht (bz_r c) (fun h => kt (bz_0.mp h)) (fun h => kf (Decidable.not_not.mp (fun q => h (bz_0.mpr q))))
theorem G_bif_ne {c : Prop} [Decidable c] {off : Int} {tgt : Nat} (hk : Ok κ Γ own cc nL d) (hd : decode cc pc = .ok (.ifCond .ne off, 3)) (ht : (pc : Int) + off = (tgt : Int)) (kt : c → GW κ Γ tgt L st ws) (kf : ¬ c → GW κ Γ (pc + 3) L st ws) : GW κ Γ pc L (vI (bz c) :: st) ws := G_if_ne hk hd ht (bz_r c) (fun h => kt (Decidable.not_not.mp (fun q => h (bz_0.mpr q)))) (fun h => kf (bz_0.mp h))
end CALLS2
