/-! making: a world that grows -/
def kb (κ : Kx) (a b : Nat) : Kx := match κ with
  | (p, l, e, R, s, m, args, below, meth, c, Q, H0, A, n0, _, _) => (p, l, e, R, s, m, args, below, meth, c, Q, H0, A, n0, a, b)
def Rm (κ : Kx) (mc ms : Nat) : Prop := κ.2.2.2.1.cells = mc ∧ κ.2.2.2.1.slots = ms
def InK (κ : Kx) : Prop := κ.2.2.2.2.2.2.2.2.1.name = "<init>"
def sK (κ : Kx) : State := κ.2.2.2.2.1
theorem Ok_kb {κ : Kx} {Γ : Ev} {own : String} {cc : ByteArray} {nL d a b a2 b2 mc ms : Nat} (hk : Ok (kb κ a b) Γ own cc nL d) (hR : Rm κ mc ms) (ha : a2 ≤ mc) (hb : b2 ≤ ms) : Ok (kb κ a2 b2) Γ own cc nL d := by
  obtain ⟨p, l, e, R, s, m, args, below, meth, c, Q, H0, A, n0, c1, c2⟩ := κ
  obtain ⟨k1, k2, k3, k4, k5, k6, k7, k8, k9, k10, k11, k12, k13⟩ := hk
  obtain ⟨r1, r2⟩ := hR
  exact ⟨k1, k2, k3, k4, k5, k6, k7, k8, k9, k10, by rw [show R.cells = mc from r1]; exact ha, by rw [show R.slots = ms from r2]; exact hb, k13⟩
def aI (Γ : Ev) (n : Nat) (f : Nat → Int) : va_E := .inl (Γ.2.1, n, .inl (fun j => Int32.ofInt (f j)))
def aJ (Γ : Ev) (n : Nat) (f : Nat → Int) : va_E := .inl (Γ.2.2.1, n, .inr (.inl (fun j => Int64.ofInt (f j))))
def aR (Γ : Ev) (n : Nat) (f : Nat → Option Nat) : va_E := .inl (Γ.2.2.2.1, n, .inr (.inr (.inr (.inr f))))
def zI (Γ : Ev) (n : Nat) : va_E := aI Γ n (fun _ => 0)
def zJ (Γ : Ev) (n : Nat) : va_E := aJ Γ n (fun _ => 0)
def rmc (d mc ms : Nat) : Room := { frames := d, cells := mc, slots := ms, locals := 41 * d }
def mqW (Γ : Ev) (A : Nat → Prop) (post : va_W → Prop) : Array Value → State → Outcome → State → Prop := fun _ st oc t => (∃ w : va_W, oc = .returned none ∧ post w ∧ va_P Γ.1 cls w t.heap ∧ va_K Γ.1 cls (tys Γ) t ∧ va_D A w) ∧ va_F A st t
def Cst (l : Launch) (Γ : Ev) (d mc ms : Nat) (M : Mth) (avs : List Value) (E : State → Prop) (w0 : va_W) (post : va_W → Prop) : Prop := ∀ sz : Nat, Met l M.1 (gws M) (rmc d mc ms) (va_Pc avs (fun U => U.heap.size = sz ∧ va_P Γ.1 cls w0 U.heap ∧ va_K Γ.1 cls (tys Γ) U ∧ va_D (fun _ => True) w0 ∧ E U)) (mqW Γ (va_A w0 sz) post) mc ms (va_A w0 sz)
def RtW (κ : Kx) (Γ : Ev) (mc ms : Nat) (post : va_W → Prop) : Prop := match κ with
  | (p, l, e, R, s, m, args, below, meth, c, Q, H0, A, n0, c1, c2) => meth.sig.returnType = none ∧ Q = MQ below (mqW Γ A post) args s mc ms A ∧ H0 = s.heap
/-- a contract of a constructor out of a walk -/
theorem Cst.of {l : Launch} {Γ : Ev} {d mc ms : Nat} {y : MethodName} {cc : ByteArray} {nL : Nat} {avs : List Value} {E : State → Prop} {w0 : va_W} {post : va_W → Prop} (hy : plainName y.cls = true) {own : String} (ho : y.cls = own) {L : List (Option Value)} (hL : ent avs = L) (hn : (lg_sl avs).length ≤ nL) (hnm : y.name = "<init>")
    (body : ∀ κ : Kx, κ.2.1 = l → Ok (kb κ 0 0) Γ own cc nL d → RtW κ Γ mc ms post → Rm κ mc ms → InK κ → E (sK κ) → GW (kb κ 0 0) Γ 0 L [] w0) : Cst l Γ d mc ms (y, cc, nL, none) avs E w0 post := by
  intro sz
  subst ho
  refine Met.ofW (cc := cc) (maxL := nL) (ret := none) (ws' := gt) hy rfl ?_
  intro p e s m args below meth c s₁ B hml hv
  obtain ⟨rfl, hsz, hP, hK, hD0, hE⟩ := hv
  have hts := atoms_spec (ws := gws (y, cc, nL, none)) B.pre
  have hD : va_D (va_A w0 sz) w0 := hD0.self (sz := sz)
  rw [lg_entry_eq]
  have hl := lv_entry avs hn
  rw [← ent_args, hL] at hl
  refine body (p, l, e, (headSpec (gws (y, cc, nL, none)) (rmc d mc ms)).room, s, m, avs.toArray, below, meth, c, _, s.heap, va_A w0 sz, nL, 0, 0) rfl ?_ ?_ ?_ ?_ hE s.heap [] _ hP hD va_S.rf hl
  · exact ⟨B.exec, B.bytes, hml, findClass_of_methodNamed B.named, fun w hw => hts w (List.mem_cons_of_mem _ hw), hK, fun q hq => Or.inr (hsz ▸ hq), B.notSynchronized, Nat.le_refl d, Nat.le_refl _, Nat.zero_le _, Nat.zero_le _, rfl⟩
  · exact ⟨B.returns, rfl, rfl⟩
  · exact ⟨rfl, rfl⟩
  · exact (name_of_methodNamed B.named B.method).1.trans hnm
/-- .. of the JDK's own static members -/
theorem Cst.ofF {l : Launch} {Γ : Ev} {d mc ms : Nat} {y : MethodName} {cc : ByteArray} {nL : Nat} {avs : List Value} {E : State → Prop} {w0 : va_W} {post : va_W → Prop} (hy : plainFor y = true) {own : String} (ho : y.cls = own) {L : List (Option Value)} (hL : ent avs = L) (hn : (lg_sl avs).length ≤ nL)
    (body : ∀ κ : Kx, κ.2.1 = l → Ok (kb κ 0 0) Γ own cc nL d → RtW κ Γ mc ms post → Rm κ mc ms → GW (kb κ 0 0) Γ 0 L [] w0) : Cst l Γ d mc ms (y, cc, nL, none) avs E w0 post := by
  intro sz
  subst ho
  refine va_MetF (cc := cc) (maxL := nL) (ret := none) (ws' := gt) hy rfl ?_
  intro p e s m args below meth c s₁ B hml hv
  obtain ⟨rfl, hsz, hP, hK, hD0, hE⟩ := hv
  have hts := atoms_spec (ws := gws (y, cc, nL, none)) B.pre
  have hD : va_D (va_A w0 sz) w0 := hD0.self (sz := sz)
  rw [lg_entry_eq]
  have hl := lv_entry avs hn
  rw [← ent_args, hL] at hl
  refine body (p, l, e, (headSpec (gws (y, cc, nL, none)) (rmc d mc ms)).room, s, m, avs.toArray, below, meth, c, _, s.heap, va_A w0 sz, nL, 0, 0) rfl ?_ ?_ ?_ s.heap [] _ hP hD va_S.rf hl
  · exact ⟨B.exec, B.bytes, hml, findClass_of_methodNamed B.named, fun w hw => hts w (List.mem_cons_of_mem _ hw), hK, fun q hq => Or.inr (hsz ▸ hq), B.notSynchronized, Nat.le_refl d, Nat.le_refl _, Nat.zero_le _, Nat.zero_le _, rfl⟩
  · exact ⟨B.returns, rfl, rfl⟩
  · exact ⟨rfl, rfl⟩
def FF (own : String) (ci k : Nat) : Prop := ∃ r : vw_C, cls[ci]? = some r ∧ (r.2.1 k).2.2.2 = true ∧ (r.2.1 k).1 = own ∧ ∃ ty, parseFieldDescriptor (r.2.1 k).2.2.1 = some ty ∧ (∀ v, narrow ty (.ref v) = .ref v) ∧ (∀ v, fits ty (.ref v) = true)
/-- an object of a class, as it is made -/
def NWd (ci N : Nat) (fs : List Value) : Prop := ∃ (r : vw_C) (ty : Nat → FieldType), cls[ci]? = some r ∧ r.2.2 = N ∧ (∀ k, k < r.2.2 → parseFieldDescriptor (r.2.1 k).2.2.1 = some (ty k)) ∧ (∀ j, j < r.2.2 → defaultValue (ty j) = vp_V fs j) ∧ Cond.instantiable r.1 r.2.2 ∈ gt ∧ Cond.initialized r.1 ∈ gt
def CLk (own : String) (idx ci : Nat) : Prop := ∃ r : vw_C, cls[ci]? = some r ∧ Cond.classLink own idx r.1 ∈ gt
/-- a constructor of the tables, with n parameters -/
def MI (M : Mth) (n : Nat) : Prop := MB M n ∧ Cond.instanceMethod M.1 ∈ gt ∧ M.1.name = "<init>" ∧ M.2.2.2 = none
section MAKE
variable {κ : Kx} {Γ : Ev} {own : String} {cc : ByteArray} {nL d pc : Nat} {L : List (Option Value)} {st : List Value} {ws : va_W}
theorem G_qload_n (hk : Ok κ Γ own cc nL d) {n : Fin 4} {q : Nat} (hd : decode cc pc = .ok (.aload_n n, 1)) (hL : lk L n = some (.ref q)) (k : GW κ Γ (pc + 1) L (.ref q :: st) ws) : GW κ Γ pc L (st) ws := by
  obtain ⟨p, l, e, R, s, m, args, below, meth, c, Q, H0, A, n0, c1, c2⟩ := κ
  have hn0 : n0 = nL := hk.2.2.2.2.2.2.2.2.2.2.2.2
  subst hn0
  intro H locs ls hP hD hS hl
  exact lv_aload_n hk.1 hk.2.1 hd rfl (lh_at hl hL) (k H locs ls hP hD hS hl)
theorem G_qstore_n (hk : Ok κ Γ own cc nL d) {n : Fin 4} {q : Nat} (hd : decode cc pc = .ok (.astore_n n, 1)) (hn : (n : Nat) < nL) (ho : okS L n = true) (k : GW κ Γ (pc + 1) (st1 L n (some (.ref q))) st ws) : GW κ Γ pc L (.ref q :: st) ws := by
  obtain ⟨p, l, e, R, s, m, args, below, meth, c, Q, H0, A, n0, c1, c2⟩ := κ
  have hn0 : n0 = nL := hk.2.2.2.2.2.2.2.2.2.2.2.2
  subst hn0
  intro H locs ls hP hD hS hl
  exact lv_astore_n hk.1 hk.2.1 hd rfl hl hn rfl (fun ls2 hl2 => k H locs ls2 hP hD hS (lh_st1 ho hl2))
theorem G_re (is : List Nat) {ws2 : va_W} (hn : va_nd is = true) (hs : is.map (fun i => ws[i]?) = ws2.map some) (hs2 : is.filterMap (fun i => ws[i]?) = ws2) (k : GW κ Γ pc L st ws2) : GW κ Γ pc L st ws := by
  obtain ⟨p, l, e, R, s, m, args, below, meth, c, Q, H0, A, n0, c1, c2⟩ := κ
  intro H locs ls hP hD hS hl
  exact k H locs ls (hP.sub is hs2) (hD.sub is hn hs) hS hl
theorem G_obj {oi : Cond} (hk : Ok κ Γ own cc nL (d + 1)) {idx q : Nat} (hd : decode cc pc = .ok (.invokespecial idx, 3)) (hl0 : Cond.methodLink own idx Lib.objectInit ∈ gt) (h1 : Cond.instanceMethod Lib.objectInit ∈ gt) (h2 : Cond.code Lib.objectInit ⟨#[0xb1]⟩ 1 none ∈ gt) (h8 : (st.map fun v => v.category).sum ≤ 8) (k : GW κ Γ (pc + 3) L st ws) : GW κ Γ pc L (.ref q :: st) ws := by
  obtain ⟨p, l, e, R, s, m, args, below, meth, c, Q, H0, A, n0, c1, c2⟩ := κ
  obtain ⟨k1, k2, k3, k4, k5, k6, k7, k8, k9, k10, k11, k12, k13⟩ := hk
  subst k13
  intro H locs ls hP hD hS hl
  refine W.objInit k1 k2 k4 (k5 _ hl0) (k5 _ h1) (k5 _ h2) rfl (by rw [k3]; exact hl.1) rfl hd (by omega) (by show 2 * 0 + _ + 12 ≤ R.locals; omega) ?_
  exact W.eq (g2 := F0 m (pc + 3) ls st) rfl (k H locs ls hP hD hS hl)
theorem G_newI {a b mc ms : Nat} (hk : Ok (kb κ a b) Γ own cc nL d) (hR : Rm κ mc ms) (n : Nat) (hd : decode cc pc = .ok (.newarray .int, 2)) (harr : Cond.arrayClass .int ∈ gt) (h9 : n < 1000) (ha : a + 1 ≤ mc) (hb : b + n ≤ ms) (k : ∀ q, GW (kb κ (a + 1) (b + n)) Γ (pc + 2) L (.ref q :: st) (ws ++ [(q, zI Γ n)])) : GW (kb κ a b) Γ pc L (vI (n : Int) :: st) ws := by
  obtain ⟨p, l, e, R, s, m, args, below, meth, c, Q, H0, A, n0, c1, c2⟩ := κ
  obtain ⟨k1, k2, k3, k4, k5, k6, k7, k8, k9, k10, k11, k12, k13⟩ := hk
  obtain ⟨r1, r2⟩ := hR
  have r1 : R.cells = mc := r1
  have r2 : R.slots = ms := r2
  subst k13
  intro H locs ls hP hD hS hl
  have rr : R32 (n : Int) := ⟨by omega, by omega⟩
  refine va_newa (D := Γ.1) (cl := cls) (tys := tys Γ) (atype := .int) (ty := .int) (a0 := (n, .inl (fun _ => Int32.ofInt 0))) k1 k2 (k5 _ harr) rfl k6 hP hD hS k7 (fun cA => rfl) (fun h => by have := (i32_lt rr (show R32 0 by decide)).mp h; omega) (by rw [i32_cl rr (by omega)]; rfl) (by show n * 4 ≤ 536870912; omega) (by rw [r1]; exact ha) (by rw [r2]; exact hb) hd (fun q cA H1 hK1 hP1 hD1 hS1 => ?_)
  have e1 : s.vm.findClass ("[" ++ FieldType.int.toString) = some cA := (hK1.2 3 _ rfl).2
  have e2 : s.vm.findClass ("[" ++ FieldType.int.toString) = some Γ.2.1 := (k6.2 0 _ rfl).2
  have e3 : cA = Γ.2.1 := Option.some.inj (e1.symm.trans e2)
  rw [e3] at hP1 hD1
  exact k q H1 locs ls hP1 hD1 hS1 hl
theorem G_newJ {a b mc ms : Nat} (hk : Ok (kb κ a b) Γ own cc nL d) (hR : Rm κ mc ms) (n : Nat) (hd : decode cc pc = .ok (.newarray .long, 2)) (harr : Cond.arrayClass .long ∈ gt) (h9 : n < 1000) (ha : a + 1 ≤ mc) (hb : b + n ≤ ms) (k : ∀ q, GW (kb κ (a + 1) (b + n)) Γ (pc + 2) L (.ref q :: st) (ws ++ [(q, zJ Γ n)])) : GW (kb κ a b) Γ pc L (vI (n : Int) :: st) ws := by
  obtain ⟨p, l, e, R, s, m, args, below, meth, c, Q, H0, A, n0, c1, c2⟩ := κ
  obtain ⟨k1, k2, k3, k4, k5, k6, k7, k8, k9, k10, k11, k12, k13⟩ := hk
  obtain ⟨r1, r2⟩ := hR
  have r1 : R.cells = mc := r1
  have r2 : R.slots = ms := r2
  subst k13
  intro H locs ls hP hD hS hl
  have rr : R32 (n : Int) := ⟨by omega, by omega⟩
  refine va_newa (D := Γ.1) (cl := cls) (tys := tys Γ) (atype := .long) (ty := .long) (a0 := (n, .inr (.inl (fun _ => Int64.ofInt 0)))) k1 k2 (k5 _ harr) rfl k6 hP hD hS k7 (fun cA => rfl) (fun h => by have := (i32_lt rr (show R32 0 by decide)).mp h; omega) (by rw [i32_cl rr (by omega)]; rfl) (by show n * 8 ≤ 536870912; omega) (by rw [r1]; exact ha) (by rw [r2]; exact hb) hd (fun q cA H1 hK1 hP1 hD1 hS1 => ?_)
  have e1 : s.vm.findClass ("[" ++ FieldType.long.toString) = some cA := (hK1.2 3 _ rfl).2
  have e2 : s.vm.findClass ("[" ++ FieldType.long.toString) = some Γ.2.2.1 := (k6.2 1 _ rfl).2
  have e3 : cA = Γ.2.2.1 := Option.some.inj (e1.symm.trans e2)
  rw [e3] at hP1 hD1
  exact k q H1 locs ls hP1 hD1 hS1 hl
theorem G_anew {a b mc ms idx : Nat} (hk : Ok (kb κ a b) Γ own cc nL d) (hR : Rm κ mc ms) (n : Nat) (hd : decode cc pc = .ok (.anewarray idx, 3)) (hcl : Cond.classLink own idx RX8 ∈ gt) (hao : va_AO RX8 (sK κ)) (h9 : n < 1000) (ha : a + 1 ≤ mc) (hb : b + n ≤ ms) (k : ∀ q, GW (kb κ (a + 1) (b + n)) Γ (pc + 3) L (.ref q :: st) (ws ++ [(q, aR Γ n (fun _ => none))])) : GW (kb κ a b) Γ pc L (vI (n : Int) :: st) ws := by
  obtain ⟨p, l, e, R, s, m, args, below, meth, c, Q, H0, A, n0, c1, c2⟩ := κ
  obtain ⟨k1, k2, k3, k4, k5, k6, k7, k8, k9, k10, k11, k12, k13⟩ := hk
  obtain ⟨r1, r2⟩ := hR
  have r1 : R.cells = mc := r1
  have r2 : R.slots = ms := r2
  subst k13
  intro H locs ls hP hD hS hl
  have rr : R32 (n : Int) := ⟨by omega, by omega⟩
  refine va_newq (D := Γ.1) (cl := cls) (tys := tys Γ) (C := RX8) (N' := n) k1 k2 k4 (k5 _ hcl) hao k6 hP hD hS k7 (fun h => by have := (i32_lt rr (show R32 0 by decide)).mp h; omega) (by rw [i32_cl rr (by omega)]; rfl) (by omega) (by rw [r1]; exact ha) (by rw [r2]; exact hb) hd (fun q cA H1 hK1 hP1 hD1 hS1 => ?_)
  obtain ⟨_, _, _, _, _, e1⟩ := (hK1.2 3 _ rfl).2
  obtain ⟨_, _, _, _, _, e2⟩ := (k6.2 2 _ rfl).2
  have e3 : cA = Γ.2.2.2.1 := Option.some.inj (e1.symm.trans e2)
  rw [e3] at hP1 hD1
  exact k q H1 locs ls hP1 hD1 hS1 hl
theorem G_newO {a b mc ms idx ci N : Nat} {fs : List Value} (hk : Ok (kb κ a b) Γ own cc nL d) (hR : Rm κ mc ms) (hd : decode cc pc = .ok (.new idx, 3)) (hcl : CLk own idx ci) (hnw : NWd ci N fs) (ha : a + 1 ≤ mc) (hb : b + N ≤ ms) (k : ∀ q, GW (kb κ (a + 1) (b + N)) Γ (pc + 3) L (.ref q :: st) (ws ++ [(q, .inr (ci, fs))])) : GW (kb κ a b) Γ pc L st ws := by
  obtain ⟨p, l, e, R, s, m, args, below, meth, c, Q, H0, A, n0, c1, c2⟩ := κ
  obtain ⟨k1, k2, k3, k4, k5, k6, k7, k8, k9, k10, k11, k12, k13⟩ := hk
  obtain ⟨r1, r2⟩ := hR
  have r1 : R.cells = mc := r1
  have r2 : R.slots = ms := r2
  obtain ⟨r, ty, w1, w2, w3, w4, w5, w6⟩ := hnw
  obtain ⟨r', v1, v2⟩ := hcl
  cases w1.symm.trans v1
  subst k13
  subst w2
  intro H locs ls hP hD hS hl
  refine va_new (D := Γ.1) (cl := cls) (tys := tys Γ) (C := r.1) (T := r.2.1) (N := r.2.2) (ci := ci) (fs := fs) k1 k2 k5 (cls_ws (List.mem_of_getElem? w1)) ty w3 k4 (k5 _ v2) (k5 _ w5) (k5 _ w6) k6 hP hD hS k7 w1 w4 (by rw [r1]; exact ha) (by rw [r2]; exact hb) hd (fun q H1 hP1 hD1 hS1 => ?_)
  exact k q H1 locs ls hP1 hD1 hS1 hl
theorem G_putFr (hk : Ok κ Γ own cc nL d) (hin : InK κ) {idx ci k q0 a v : Nat} {fs : List Value} (hd : decode cc pc = .ok (.putfield idx, 3)) (hf : FL own idx ci k) (hp : FF own ci k) (he : ws[q0]? = some (a, .inr (ci, fs))) (hlt : k < fs.length) (kk : GW κ Γ (pc + 3) L st (ws.set q0 (a, .inr (ci, fs.set k (.ref v))))) : GW κ Γ pc L (.ref v :: .ref a :: st) ws := by
  obtain ⟨p, l, e, R, s, m, args, below, meth, c, Q, H0, A, n0, c1, c2⟩ := κ
  have hn0 : n0 = nL := hk.2.2.2.2.2.2.2.2.2.2.2.2
  subst hn0
  intro H locs ls hP hD hS hl
  obtain ⟨r, h1, h2, h3⟩ := hf
  obtain ⟨r2, g1, g2, g3, ty, g4, g5, g6⟩ := hp
  cases h1.symm.trans g1
  obtain ⟨ty0, t1, t2⟩ := cls_ty h1
  refine va_putF (D := Γ.1) (cl := cls) (tys := tys Γ) (C := r.1) (T := r.2.1) (N := r.2.2) (ci := ci) (ty := ty) (v := .ref v) hk.1 hk.2.1 hk.2.2.2.2.1 (cls_ws (List.mem_of_getElem? h1)) ty0 t1 t2 hk.2.2.2.1 hk.2.2.2.2.2.1 hP hD hS q0 he h1 k h2 (hk.2.2.2.2.1 _ h3) (fun _ h => h) g2 hin g3 g4 (g5 v) (g6 v) hlt hd (fun H1 locs1 hP1 hD1 hS1 => ?_)
  exact kk H1 locs1 ls hP1 hD1 hS1 hl
theorem G_putIw (hk : Ok κ Γ own cc nL d) {idx ci k q0 a : Nat} {z : Int} {fs : List Value} (hd : decode cc pc = .ok (.putfield idx, 3)) (hf : FL own idx ci k) (hp : FP ci k .int) (he : ws[q0]? = some (a, .inr (ci, fs))) (hlt : k < fs.length) (kk : GW κ Γ (pc + 3) L st (ws.set q0 (a, .inr (ci, fs.set k (vI z))))) : GW κ Γ pc L (vI z :: .ref a :: st) ws := by
  obtain ⟨p, l, e, R, s, m, args, below, meth, c, Q, H0, A, n0, c1, c2⟩ := κ
  have hn0 : n0 = nL := hk.2.2.2.2.2.2.2.2.2.2.2.2
  subst hn0
  intro H locs ls hP hD hS hl
  obtain ⟨r, h1, h2, h3⟩ := hf
  obtain ⟨r2, g1, g2, g3⟩ := hp
  cases h1.symm.trans g1
  obtain ⟨ty0, t1, t2⟩ := cls_ty h1
  refine va_put (D := Γ.1) (cl := cls) (tys := tys Γ) (C := r.1) (T := r.2.1) (N := r.2.2) (ci := ci) (ty := .int) (v := vI z) hk.1 hk.2.1 hk.2.2.2.2.1 (cls_ws (List.mem_of_getElem? h1)) ty0 t1 t2 hk.2.2.2.1 hk.2.2.2.2.2.1 hP hD hS q0 he h1 k h2 (hk.2.2.2.2.1 _ h3) (fun _ h => h) g2 g3 rfl rfl hlt hd (fun H1 locs1 hP1 hD1 hS1 => ?_)
  exact kk H1 locs1 ls hP1 hD1 hS1 hl
theorem G_putJw (hk : Ok κ Γ own cc nL d) {idx ci k q0 a : Nat} {z : Int} {fs : List Value} (hd : decode cc pc = .ok (.putfield idx, 3)) (hf : FL own idx ci k) (hp : FP ci k .long) (he : ws[q0]? = some (a, .inr (ci, fs))) (hlt : k < fs.length) (kk : GW κ Γ (pc + 3) L st (ws.set q0 (a, .inr (ci, fs.set k (vL z))))) : GW κ Γ pc L (vL z :: .ref a :: st) ws := by
  obtain ⟨p, l, e, R, s, m, args, below, meth, c, Q, H0, A, n0, c1, c2⟩ := κ
  have hn0 : n0 = nL := hk.2.2.2.2.2.2.2.2.2.2.2.2
  subst hn0
  intro H locs ls hP hD hS hl
  obtain ⟨r, h1, h2, h3⟩ := hf
  obtain ⟨r2, g1, g2, g3⟩ := hp
  cases h1.symm.trans g1
  obtain ⟨ty0, t1, t2⟩ := cls_ty h1
  refine va_put (D := Γ.1) (cl := cls) (tys := tys Γ) (C := r.1) (T := r.2.1) (N := r.2.2) (ci := ci) (ty := .long) (v := vL z) hk.1 hk.2.1 hk.2.2.2.2.1 (cls_ws (List.mem_of_getElem? h1)) ty0 t1 t2 hk.2.2.2.1 hk.2.2.2.2.2.1 hP hD hS q0 he h1 k h2 (hk.2.2.2.2.1 _ h3) (fun _ h => h) g2 g3 rfl rfl hlt hd (fun H1 locs1 hP1 hD1 hS1 => ?_)
  exact kk H1 locs1 ls hP1 hD1 hS1 hl
theorem G_getw (hk : Ok κ Γ own cc nL d) {idx ci k q0 a : Nat} {fs : List Value} {v : Value} (hd : decode cc pc = .ok (.getfield idx, 3)) (hf : FL own idx ci k) (he : ws[q0]? = some (a, .inr (ci, fs))) (hv : fs[k]? = some v) (kk : GW κ Γ (pc + 3) L (v :: st) ws) : GW κ Γ pc L (.ref a :: st) ws := by
  obtain ⟨p, l, e, R, s, m, args, below, meth, c, Q, H0, A, n0, c1, c2⟩ := κ
  have hn0 : n0 = nL := hk.2.2.2.2.2.2.2.2.2.2.2.2
  subst hn0
  intro H locs ls hP hD hS hl
  obtain ⟨r, h1, h2, h3⟩ := hf
  exact va_get (D := Γ.1) (cl := cls) (tys := tys Γ) (C := r.1) (T := r.2.1) (N := r.2.2) (ci := ci) hk.1 hk.2.1 hk.2.2.2.2.1 (cls_ws (List.mem_of_getElem? h1)) hk.2.2.2.1 hk.2.2.2.2.2.1 hP q0 he h1 k h2 (hk.2.2.2.2.1 _ h3) (fun _ h => h) hv hd (kk H locs ls hP hD hS hl)
theorem G_alenw (hk : Ok κ Γ own cc nL d) {q0 a n : Nat} {f : Nat → Int} (hd : decode cc pc = .ok (.arraylength, 1)) (he : ws[q0]? = some (a, aI Γ n f)) (kk : GW κ Γ (pc + 1) L (vI (n : Int) :: st) ws) : GW κ Γ pc L (.ref a :: st) ws := by
  obtain ⟨p, l, e, R, s, m, args, below, meth, c, Q, H0, A, n0, c1, c2⟩ := κ
  have hn0 : n0 = nL := hk.2.2.2.2.2.2.2.2.2.2.2.2
  subst hn0
  intro H locs ls hP hD hS hl
  exact va_alen (D := Γ.1) (cl := cls) (tys := tys Γ) hk.1 hk.2.1 hk.2.2.2.2.2.1 hP q0 0 he rfl (ofInt_nI n).symm hd (kk H locs ls hP hD hS hl)
theorem G_iastw (hk : Ok κ Γ own cc nL d) {q0 a n k : Nat} {x : Int} {f : Nat → Int} (hd : decode cc pc = .ok (.iastore, 1)) (he : ws[q0]? = some (a, aI Γ n f)) (hn : n < 1000) (h1 : k < n) (kk : GW κ Γ (pc + 1) L st (ws.set q0 (a, aI Γ n (upf f k x)))) : GW κ Γ pc L (vI x :: vI (k : Int) :: .ref a :: st) ws := by
  obtain ⟨p, l, e, R, s, m, args, below, meth, c, Q, H0, A, n0, c1, c2⟩ := κ
  have hn0 : n0 = nL := hk.2.2.2.2.2.2.2.2.2.2.2.2
  subst hn0
  intro H locs ls hP hD hS hl
  have hr : R32 (k : Int) := ⟨by omega, by omega⟩
  refine va_iast (D := Γ.1) (cl := cls) (tys := tys Γ) hk.1 hk.2.1 hk.2.2.2.2.2.1 hP hD hS q0 0 he rfl (i32_in (by omega) (by omega) hr) hd (fun H1 locs1 hP1 hD1 hS1 => ?_)
  rw [i32_cl hr (by omega), Int.toNat_natCast] at hP1 hD1
  have e2 : upd (fun j => Int32.ofInt (f j)) k (Int32.ofInt x) = fun j => Int32.ofInt (upf f k x j) := by
    funext j
    by_cases hj : j = k <;> simp [upd, upf, hj]
  rw [e2] at hP1 hD1
  exact kk H1 locs1 ls hP1 hD1 hS1 hl
theorem G_aastw (hk : Ok κ Γ own cc nL d) {q0 qk a v n k : Nat} {vs : List Value} {f : Nat → Option Nat} (hd : decode cc pc = .ok (.aastore, 1)) (he : ws[q0]? = some (a, aR Γ n f)) (hv : ws[qk]? = some (v, .inr (8, vs))) (hn : n < 1000) (h1 : k < n) (kk : GW κ Γ (pc + 1) L st (ws.set q0 (a, aR Γ n (va_up f k (some v))))) : GW κ Γ pc L (.ref v :: vI (k : Int) :: .ref a :: st) ws := by
  obtain ⟨p, l, e, R, s, m, args, below, meth, c, Q, H0, A, n0, c1, c2⟩ := κ
  have hn0 : n0 = nL := hk.2.2.2.2.2.2.2.2.2.2.2.2
  subst hn0
  intro H locs ls hP hD hS hl
  have hr : R32 (k : Int) := ⟨by omega, by omega⟩
  refine va_astq (D := Γ.1) (cl := cls) (tys := tys Γ) (r := (RX8, TX8, 3)) hk.1 hk.2.1 hk.2.2.2.2.2.1 hP hD hS q0 2 qk 8 he rfl hv rfl (i32_in (by omega) (by omega) hr) hd (fun H1 locs1 hP1 hD1 hS1 => ?_)
  rw [i32_cl hr (by omega), Int.toNat_natCast] at hP1 hD1
  exact kk H1 locs1 ls hP1 hD1 hS1 hl
theorem G_vretW {post : va_W → Prop} {a b mc ms : Nat} (hk : Ok (kb κ a b) Γ own cc nL d) (hr : RtW κ Γ mc ms post) (hd : decode cc pc = .ok (.return_, 1)) (ha : a ≤ mc) (hb : b ≤ ms) (h : post ws) : GW (kb κ a b) Γ pc L [] ws := by
  obtain ⟨p, l, e, R, s, m, args, below, meth, c, Q, H0, A, n0, c1, c2⟩ := κ
  intro H locs ls hP hD hS hl
  obtain ⟨r1, r2, r3⟩ := hr
  subst r2
  subst r3
  obtain ⟨k1, k2, k3, k4, k5, k6, k7, k8, k9, k10, k11, k12, k13⟩ := hk
  refine W.widen (k := mc) (n := ms) ha hb ?_
  exact W.vret k1 k2 r1 (fun t ht hW => ⟨⟨ws, rfl, h, by rw [ht]; exact hP, va_K.moved hW.alike k6, hD⟩, hS.F ht⟩) hS.2.2 hd k8
end MAKE
theorem join1 {A0 : Nat → Prop} {D : va_G} {cl : List vw_C} {ws w1 : va_W} {q : Nat} {e0 : va_E} {H H1 : Heap} (hP : va_P D cl (ws ++ [(q, e0)]) H) (hD : va_D A0 (ws ++ [(q, e0)])) (hk : ∀ x : Nat, x < H.size → ¬ va_A [(q, e0)] H.size x → H1[x]? = H[x]?) (hF : ∀ x, va_A [(q, e0)] H.size x → A0 x) (hP1 : va_P D cl w1 H1) (hD1 : va_D (va_A [(q, e0)] H.size) w1) : va_P D cl (ws ++ w1) H1 ∧ va_D A0 (ws ++ w1) := by
  have hl : ∀ (k : Nat) (x : Nat × va_E), ws[k]? = some x → (ws ++ [(q, e0)])[k]? = some x := fun k x hx => by
    rw [List.getElem?_append_left (List.getElem?_eq_some_iff.mp hx).1]; exact hx
  have hlast : (ws ++ [(q, e0)])[ws.length]? = some (q, e0) := by simp
  have apart : ∀ (k : Nat) (x : Nat × va_E), ws[k]? = some x → x.1 < H.size ∧ ¬ va_A [(q, e0)] H.size x.1 := by
    intro k x hx
    have h1 := (hP k x (hl k x hx)).lt
    refine ⟨h1, ?_⟩
    rintro (⟨j, e, hj⟩ | h)
    · have hj0 : j = 0 := by
        have := (List.getElem?_eq_some_iff.mp hj).1
        simp at this
        exact this
      subst hj0
      simp at hj
      have hkk := hD.1 k ws.length x (q, e0) (hl k x hx) hlast hj.1.symm
      have := (List.getElem?_eq_some_iff.mp hx).1
      omega
    · omega
  refine ⟨va_P.app (va_P.kept (fun k x hx => hP k x (hl k x hx)) (fun k x hx => hk _ (apart k x hx).1 (apart k x hx).2)) hP1, va_D.app ⟨fun i j x y hi hj e => hD.1 i j x y (hl i x hi) (hl j y hj) e, fun k x hx => hD.2 k x (hl k x hx)⟩ ⟨hD1.1, fun k x hx => hF _ (hD1.2 k x hx)⟩ (fun i j x y hi hj e => (apart i x hi).2 (by rw [e]; exact hD1.2 j y hj))⟩
section CALLW
variable {p : Program} {l : Launch} {e : Env} {R : Room} {s : State} {m : MethodId} {args : Array Value} {below : List Frame} {meth : Method} {c : Code} {H : Heap} {locs : List Loc} {cells slots mc ms : Nat} {Q : State → Prop}
variable {pc : Nat} {ls : Array Slot} {rest st0 : List Value} {a : Array Value} {A0 A1 : Nat → Prop} {H0 : Heap} {free : Addr → Prop}
theorem va_callW {Γ : Ev} {post : va_W → Prop} (hr : va_Run p l e R s m args below meth c H locs cells slots mc ms (F0 m pc ls st0) rest (mqW Γ A1 post a) free) (hS : va_S A0 H0 H locs) (hA : ∀ q, q < H.size → A1 q → A0 q) (hf : ∀ q, free q → A0 q)
    (kk : ∀ (w : va_W) (H1 : Heap) (locs1 : List Loc), post w → va_P Γ.1 cls w H1 → va_D A1 w → (∀ q : Nat, q < H.size → ¬ A1 q → H1[q]? = H[q]?) → va_S A0 H0 H1 locs1 → W p l e R s m args below meth c H1 locs1 (cells + mc) (slots + ms) Q (F0 m (pc + 3) ls rest)) : W p l e R s m args below meth c H locs cells slots Q (F0 m pc ls st0) := by
  intro T hT X
  obtain ⟨v, st₀, t, T', L, h0, X', hL, e1, e2, ⟨⟨w, hv, hp, hP1, hK1, hD1⟩, hz, hk⟩, st⟩ := hr T hT X
  cases hv
  rw [h0] at hz hk
  obtain ⟨t2, a1, b1⟩ := kk w T'.heap (locs ++ L) hp (by rw [e1]; exact hP1) hD1 (fun q h1 h2 => by rw [e1]; exact hk q h1 h2)
    ⟨Nat.le_trans hS.1 (by rw [e1]; exact hz), fun q h1 h2 => by rw [e1, hk q (Nat.lt_of_lt_of_le h1 hS.1) (fun z => h2 (hA q (Nat.lt_of_lt_of_le h1 hS.1) z))]; exact hS.2.1 q h1 h2, fun q hq => by
      rcases List.mem_append.mp hq with h | h
      · exact hS.2.2 q h
      · exact hf _ (hL q h)⟩ T' rfl X'
  exact ⟨t2, st t2 a1, b1⟩
end CALLW
theorem free1 {Γ : Ev} {A : Nat → Prop} {ws : va_W} {q : Nat} {e0 : va_E} {H0 H : Heap} {locs : List Loc} (hD : va_D A (ws ++ [(q, e0)])) (hS : va_S A H0 H locs) (hA : ∀ x, H0.size ≤ x → A x) : ∀ x, va_A [(q, e0)] H.size x → A x := by
  rintro x (⟨j, e, hj⟩ | h)
  · have hj0 : j = 0 := by
      have := (List.getElem?_eq_some_iff.mp hj).1
      simp at this
      exact this
    subst hj0
    simp at hj
    rw [← hj.1]
    exact hD.2 ws.length (q, e0) (by simp)
  · exact hA x (Nat.le_trans hS.1 h)
theorem callW_blind {Γ : Ev} {avs : List Value} {w0 : va_W} {sz : Nat} {E : State → Prop} (hE : ∀ u U : State, u.vm = U.vm → E u → E U) : FrameBlind (va_Pc avs (fun U => U.heap.size = sz ∧ va_P Γ.1 cls w0 U.heap ∧ va_K Γ.1 cls (tys Γ) U ∧ va_D (fun _ => True) w0 ∧ E U)) := by
  intro a U g mk q
  obtain ⟨q0, q1, qP, qK, qD, qE⟩ := q
  exact ⟨q0, q1, qP, va_K.moved (u := U) (U := U.calling g mk a) (Vm.Alike.refl U.vm) qK, qD, hE U _ rfl qE⟩
section CALLC
variable {κ : Kx} {Γ : Ev} {own : String} {cc : ByteArray} {nL d pc idx n a b mc ms mc2 ms2 : Nat} {L : List (Option Value)} {st rest As : List Value} {ws : va_W} {q : Nat} {e0 : va_E} {M : Mth} {post : va_W → Prop} {E : State → Prop}
theorem tl1 {ws : va_W} {q : Nat} {e0 : va_E} {A : Nat → Prop} (hD : va_D A (ws ++ [(q, e0)])) : va_D A [(q, e0)] := by
  refine ⟨fun i j x y hi hj _ => ?_, fun k x hx => ?_⟩
  · have h1 := (List.getElem?_eq_some_iff.mp hi).1
    have h2 := (List.getElem?_eq_some_iff.mp hj).1
    simp at h1 h2
    omega
  · have h1 := (List.getElem?_eq_some_iff.mp hx).1
    simp at h1
    subst h1
    simp at hx
    rw [← hx]
    exact hD.2 ws.length (q, e0) (by simp)
theorem tlP {ws : va_W} {q : Nat} {e0 : va_E} {D : va_G} {cl : List vw_C} {H : Heap} (hP : va_P D cl (ws ++ [(q, e0)]) H) : va_P D cl [(q, e0)] H := by
  intro k x hx
  have h1 := (List.getElem?_eq_some_iff.mp hx).1
  simp at h1
  subst h1
  simp at hx
  rw [← hx]
  exact hP ws.length (q, e0) (by simp)
/-- a constructor is called on the world's last cell -/
theorem G_callC (hk : Ok (kb κ a b) Γ own cc nL (d + 1)) (hR : Rm κ mc ms) (hd : decode cc pc = .ok (.invokespecial idx, 3)) (hm : MI M n) (hlk : Cond.methodLink own idx M.1 ∈ gt) (hst : st = As.reverse ++ .ref q :: rest) (hn : As.length = n) (h8 : (rest.map fun v => v.category).sum ≤ 8) (hc : Cst κ.2.1 Γ d mc2 ms2 M (.ref q :: As) E [(q, e0)] post) (hE : ∀ u U : State, u.vm = U.vm → E u → E U) (hEs : ∀ U : State, (sK κ).WarmedH U.vm → E U) (ha : a + mc2 ≤ mc) (hb : b + ms2 ≤ ms)
    (k : ∀ w1 : va_W, post w1 → GW (kb κ (a + mc2) (b + ms2)) Γ (pc + 3) L rest (ws ++ w1)) : GW (kb κ a b) Γ pc L st (ws ++ [(q, e0)]) := by
  obtain ⟨p, l, e, R, s, m, args, below, meth, c, Q, H0, A, n0, c1, c2⟩ := κ
  obtain ⟨⟨m1, m2, m3, m4, m5, m6⟩, m7, m8, m9⟩ := hm
  obtain ⟨y, bytes, maxL, ret⟩ := M
  obtain ⟨r1, r2⟩ := hR
  have r1 : R.cells = mc := r1
  have r2 : R.slots = ms := r2
  have m9 : ret = none := m9
  subst m9
  intro H locs ls hP hD hS hls
  subst hst
  obtain ⟨k1, k2, k3, k4, k5, k6, k7, k8, k9, k10, k11, k12, k13⟩ := hk
  subst k13
  have hF := free1 (Γ := Γ) hD hS k7
  refine va_callW (Γ := Γ) (va_runI (As := As) (rest := rest) (b := q) ⟨k1, k2, k3, k4, k5⟩ (hc H.size) (cwI n k5 (gws_in (fun w h => h) m1) rfl rfl rfl (k5 _ m2) (k5 _ hlk) (k5 _ m7) m8 ⟨m4, m5, m6⟩ ⟨k9, ?_⟩) ⟨callW_blind hE, fun U hU hW => ⟨rfl, by rw [hU], by rw [hU]; exact tlP hP, va_K.moved hW.alike k6, (tl1 hD).weaken (fun _ _ _ _ => trivial), hEs U hW⟩⟩ rfl hn hls.1 rfl (lv_room h8) hd ⟨by show a + mc2 ≤ R.cells; rw [r1]; exact ha, by show b + ms2 ≤ R.slots; rw [r2]; exact hb⟩) hS (fun x _ h => hF x h) hF (fun w H1 locs1 hp hP1 hD1 hk1 hS1 => ?_)
  · have : maxL ≤ 22 := m3
    show 8 + (maxL + 11) + 41 * d ≤ R.locals
    omega
  · obtain ⟨j1, j2⟩ := join1 hP hD hk1 hF hP1 hD1
    exact k w hp H1 locs1 ls j1 j2 hS1 hls
/-- .. a private one of a nest mate -/
theorem G_callN {host : String} (hk : Ok (kb κ a b) Γ own cc nL (d + 1)) (hR : Rm κ mc ms) (hd : decode cc pc = .ok (.invokespecial idx, 3)) (hm : MI M n) (hlk : va_Nw (.methodLinkNest own idx M.1 host) (sK κ)) (hst : st = As.reverse ++ .ref q :: rest) (hn : As.length = n) (h8 : (rest.map fun v => v.category).sum ≤ 8) (hc : Cst κ.2.1 Γ d mc2 ms2 M (.ref q :: As) E [(q, e0)] post) (hE : ∀ u U : State, u.vm = U.vm → E u → E U) (hEs : ∀ U : State, (sK κ).WarmedH U.vm → E U) (ha : a + mc2 ≤ mc) (hb : b + ms2 ≤ ms)
    (k : ∀ w1 : va_W, post w1 → GW (kb κ (a + mc2) (b + ms2)) Γ (pc + 3) L rest (ws ++ w1)) : GW (kb κ a b) Γ pc L st (ws ++ [(q, e0)]) := by
  obtain ⟨p, l, e, R, s, m, args, below, meth, c, Q, H0, A, n0, c1, c2⟩ := κ
  obtain ⟨⟨m1, m2, m3, m4, m5, m6⟩, m7, m8, m9⟩ := hm
  obtain ⟨y, bytes, maxL, ret⟩ := M
  obtain ⟨r1, r2⟩ := hR
  have r1 : R.cells = mc := r1
  have r2 : R.slots = ms := r2
  have m9 : ret = none := m9
  subst m9
  intro H locs ls hP hD hS hls
  subst hst
  obtain ⟨k1, k2, k3, k4, k5, k6, k7, k8, k9, k10, k11, k12, k13⟩ := hk
  subst k13
  have hF := free1 (Γ := Γ) hD hS k7
  refine va_callW (Γ := Γ) (va_runIN (host := host) (As := As) (rest := rest) (b := q) ⟨k1, k2, k3, k4, k5⟩ (hc H.size) ⟨va_cnB n k5 (gws_in (fun w h => h) m1) rfl rfl rfl hlk (k5 _ m2) ⟨m4, m5, m6⟩ ⟨k9, ?_⟩, m8, k5 _ m7⟩ ⟨callW_blind hE, fun U hU hW => ⟨rfl, by rw [hU], by rw [hU]; exact tlP hP, va_K.moved hW.alike k6, (tl1 hD).weaken (fun _ _ _ _ => trivial), hEs U hW⟩⟩ rfl hn hls.1 rfl (lv_room h8) hd ⟨by show a + mc2 ≤ R.cells; rw [r1]; exact ha, by show b + ms2 ≤ R.slots; rw [r2]; exact hb⟩) hS (fun x _ h => hF x h) hF (fun w H1 locs1 hp hP1 hD1 hk1 hS1 => ?_)
  · have : maxL ≤ 22 := m3
    show 8 + (maxL + 11) + 41 * d ≤ R.locals
    omega
  · obtain ⟨j1, j2⟩ := join1 hP hD hk1 hF hP1 hD1
    exact k w hp H1 locs1 ls j1 j2 hS1 hls
/-- a static method that works on the world's last cell -/
theorem G_callT (hk : Ok (kb κ a b) Γ own cc nL (d + 1)) (hR : Rm κ mc ms) (hd : decode cc pc = .ok (.invokestatic idx, 3)) (hm : MS M n) (hret : M.2.2.2 = none) (hlk : ML own idx M) (hst : st = As.reverse ++ rest) (hn : As.length = n) (h8 : (rest.map fun v => v.category).sum ≤ 8) (hc : Cst κ.2.1 Γ d mc2 ms2 M As (fun _ => True) [(q, e0)] post) (ha : a + mc2 ≤ mc) (hb : b + ms2 ≤ ms)
    (k : ∀ w1 : va_W, post w1 → GW (kb κ (a + mc2) (b + ms2)) Γ (pc + 3) L rest (ws ++ w1)) : GW (kb κ a b) Γ pc L st (ws ++ [(q, e0)]) := by
  obtain ⟨p, l, e, R, s, m, args, below, meth, c, Q, H0, A, n0, c1, c2⟩ := κ
  obtain ⟨⟨m1, m2, m3, m4, m5, m6⟩, m7⟩ := hm
  obtain ⟨y, bytes, maxL, ret⟩ := M
  obtain ⟨r1, r2⟩ := hR
  have r1 : R.cells = mc := r1
  have r2 : R.slots = ms := r2
  have hret : ret = none := hret
  subst hret
  intro H locs ls hP hD hS hls
  subst hst
  obtain ⟨k1, k2, k3, k4, k5, k6, k7, k8, k9, k10, k11, k12, k13⟩ := hk
  subst k13
  have hF := free1 (Γ := Γ) hD hS k7
  have hcb : CallB R s args own idx y bytes maxL none (gws (y, bytes, maxL, none)) (rmc d mc2 ms2) mc2 ms2 n := by
    refine callB_of n k5 (gws_in (fun w h => h) m1) rfl rfl rfl (k5 _ m2) (k5 _ hlk) ⟨m4, m5, m6⟩ ⟨k9, ?_⟩
    have : maxL ≤ 22 := m3
    show 8 + (maxL + 11) + 41 * d ≤ R.locals
    omega
  refine va_callW (Γ := Γ) (va_runS (As := As) (rest := rest) ⟨k1, k2, k3, k4, k5⟩ (hc H.size) ⟨hcb, k5 _ m7⟩ ⟨callW_blind (fun _ _ _ h => h), fun U hU hW => ⟨rfl, by rw [hU], by rw [hU]; exact tlP hP, va_K.moved hW.alike k6, (tl1 hD).weaken (fun _ _ _ _ => trivial), trivial⟩⟩ rfl hn hls.1 rfl (lv_room h8) hd ⟨by show a + mc2 ≤ R.cells; rw [r1]; exact ha, by show b + ms2 ≤ R.slots; rw [r2]; exact hb⟩) hS (fun x _ h => hF x h) hF (fun w H1 locs1 hp hP1 hD1 hk1 hS1 => ?_)
  obtain ⟨j1, j2⟩ := join1 hP hD hk1 hF hP1 hD1
  exact k w hp H1 locs1 ls j1 j2 hS1 hls
end CALLC
