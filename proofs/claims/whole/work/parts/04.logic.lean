/-! THE LOGIC: the world of the whole claim as one table of whole numbers S (cell, place); locals and stack as lists; one rule an instruction -/
-- words that go along with every method
def gt : List Cond := lw_tbl.filter goodWord
theorem gt_in {w : Cond} (h : w ∈ lw_tbl) (hg : goodWord w = true) : w ∈ gt := List.mem_filter.mpr ⟨h, hg⟩
theorem gt_good {w : Cond} (h : w ∈ gt) : (w.onTables && w.keeps) = true ∨ ∃ ty, w = .arrayClass ty := good_of_word (List.mem_filter.mp h).2
abbrev Mth : Type := MethodName × ByteArray × Nat × Option FieldType
def mw (M : Mth) : Cond := .code M.1 M.2.1 M.2.2.1 M.2.2.2
def gws (M : Mth) : List Cond := mw M :: gt
theorem gws_in {M : Mth} {big : List Cond} (hb : ∀ w ∈ gt, w ∈ big) (hM : mw M ∈ gt) : GoodIn big (gws M) := by
  intro w hw
  rcases List.mem_cons.mp hw with rfl | h
  · exact ⟨hb _ hM, gt_good hM⟩
  · exact ⟨hb _ h, gt_good h⟩
-- values
def vI (z : Int) : Value := .int (Int32.ofInt z)
def vL (z : Int) : Value := .long (Int64.ofInt z)
abbrev R32 (z : Int) : Prop := -2147483648 ≤ z ∧ z < 2147483648
abbrev R64 (z : Int) : Prop := -9223372036854775808 ≤ z ∧ z < 9223372036854775808
-- the environment: classes and slots, the array classes of int, long, Sheet, the addresses of the cells
abbrev Ev : Type := va_G × ClassId × ClassId × ClassId × (Nat → Nat)
def rf (Γ : Ev) (i : Nat) : Value := .ref (Γ.2.2.2.2 i)
def tys (Γ : Ev) : List (ClassId × FieldType) := [(Γ.2.1, .int), (Γ.2.2.1, .long), (Γ.2.2.2.1, .object RX8)]
-- the layout of the cells: arrays (kind 0 int, 1 long, 2 references; length; targets), objects (class; fields: a cell, an int, a long)
abbrev Ly : Type := (Nat × Nat × List Nat) ⊕ (Nat × List (Nat ⊕ Bool))
-- locals
def lk : List (Option Value) → Nat → Option Value
  | [], _ => none
  | a :: _, 0 => a
  | _ :: t, n + 1 => lk t n
def st1 : List (Option Value) → Nat → Option Value → List (Option Value)
  | [], 0, v => [v]
  | [], n + 1, v => none :: st1 [] n v
  | _ :: t, 0, v => v :: t
  | a :: t, n + 1, v => a :: st1 t n v
def prs : Nat → List (Option Value) → List (Nat × Value)
  | _, [] => []
  | i, none :: t => prs (i + 1) t
  | i, some v :: t => (i, v) :: prs (i + 1) t
def okS (L : List (Option Value)) : Nat → Bool
  | 0 => true
  | i + 1 => match lk L i with
    | none => true
    | some v => v.category == 1
def ent : List Value → List (Option Value)
  | [] => []
  | v :: vs => if v.category = 2 then some v :: none :: ent vs else some v :: ent vs
theorem lk_st1 (v : Option Value) : ∀ (L : List (Option Value)) (i j : Nat), lk (st1 L i v) j = if j = i then v else lk L j
  | [], 0, 0 => by simp [st1, lk]
  | [], 0, j + 1 => by simp [st1, lk]
  | [], i + 1, 0 => by simp [st1, lk]
  | [], i + 1, j + 1 => by
    have h := lk_st1 v [] i j
    simp only [st1, lk, h, Nat.add_right_cancel_iff]
  | a :: t, 0, 0 => by simp [st1, lk]
  | a :: t, 0, j + 1 => by simp [st1, lk]
  | a :: t, i + 1, 0 => by simp [st1, lk]
  | a :: t, i + 1, j + 1 => by
    have h := lk_st1 v t i j
    simp only [st1, lk, h, Nat.add_right_cancel_iff]
theorem prs_mem : ∀ (L : List (Option Value)) (i : Nat) (q : Nat × Value), q ∈ prs i L ↔ ∃ j, q.1 = i + j ∧ lk L j = some q.2
  | [], i, q => by simp [prs, lk]
  | none :: t, i, q => by
    rw [prs, prs_mem t (i + 1) q]
    constructor
    · rintro ⟨j, h1, h2⟩
      exact ⟨j + 1, by omega, h2⟩
    · rintro ⟨j, h1, h2⟩
      cases j with
      | zero => cases h2
      | succ j => exact ⟨j, by omega, h2⟩
  | some v :: t, i, q => by
    rw [prs, List.mem_cons, prs_mem t (i + 1) q]
    constructor
    · rintro (rfl | ⟨j, h1, h2⟩)
      · exact ⟨0, rfl, rfl⟩
      · exact ⟨j + 1, by omega, h2⟩
    · rintro ⟨j, h1, h2⟩
      cases j with
      | zero =>
        obtain ⟨q1, q2⟩ := q
        simp only [lk, Option.some.injEq] at h2
        exact Or.inl (by rw [h2]; simp only at h1; rw [h1]; rfl)
      | succ j => exact Or.inr ⟨j, by omega, h2⟩
theorem lh_at {ls : Array Slot} {nL : Nat} {L : List (Option Value)} (h : lv_has ls nL (prs 0 L)) {i : Nat} {v : Value} (hk : lk L i = some v) : ls[i]? = some (.val v) :=
  h.2.2 (i, v) ((prs_mem L 0 (i, v)).mpr ⟨i, by simp, hk⟩)
theorem lh_st1 {ls' : Array Slot} {nL : Nat} {L : List (Option Value)} {i : Nat} {v : Value} (hok : okS L i = true)
    (h : lv_has ls' nL ((i, v) :: (prs 0 L).filter (fun q => !(q.1 == i) && !(q.1 + 1 == i && q.2.category == 2)))) : lv_has ls' nL (prs 0 (st1 L i (some v))) := by
  refine ⟨h.1, h.2.1, fun q hq => h.2.2 q ?_⟩
  obtain ⟨j, h1, h2⟩ := (prs_mem _ 0 q).mp hq
  rw [lk_st1] at h2
  by_cases hj : j = i
  · rw [if_pos hj] at h2
    have e : q = (i, v) := by
      obtain ⟨q1, q2⟩ := q
      simp only [Nat.zero_add] at h1
      cases h2
      (try simp only at h1)
      rw [h1, hj]
    rw [e]
    exact List.mem_cons_self
  · rw [if_neg hj] at h2
    refine List.mem_cons_of_mem _ (List.mem_filter.mpr ⟨(prs_mem L 0 q).mpr ⟨j, h1, h2⟩, ?_⟩)
    have hq1 : q.1 = j := by omega
    have n1 : (q.1 == i) = false := by simp [hq1, hj]
    by_cases hi : q.1 + 1 = i
    · subst hi
      rw [hq1] at hok
      simp only [okS, h2] at hok
      have hc : q.2.category = 1 := by simpa using hok
      simp [hc]
    · simp [n1, hi]
theorem lh_st2 {ls' : Array Slot} {nL : Nat} {L : List (Option Value)} {i : Nat} {v : Value} (hok : okS L i = true)
    (h : lv_has ls' nL ((i, v) :: (prs 0 L).filter (fun q => !(q.1 == i) && (!(q.1 == i + 1) && !(q.1 + 1 == i && q.2.category == 2))))) : lv_has ls' nL (prs 0 (st1 (st1 L i (some v)) (i + 1) none)) := by
  refine ⟨h.1, h.2.1, fun q hq => h.2.2 q ?_⟩
  obtain ⟨j, h1, h2⟩ := (prs_mem _ 0 q).mp hq
  rw [lk_st1, lk_st1] at h2
  by_cases hj2 : j = i + 1
  · rw [if_pos hj2] at h2
    cases h2
  rw [if_neg hj2] at h2
  by_cases hj : j = i
  · rw [if_pos hj] at h2
    have e : q = (i, v) := by
      obtain ⟨q1, q2⟩ := q
      simp only [Nat.zero_add] at h1
      cases h2
      (try simp only at h1)
      rw [h1, hj]
    rw [e]
    exact List.mem_cons_self
  · rw [if_neg hj] at h2
    refine List.mem_cons_of_mem _ (List.mem_filter.mpr ⟨(prs_mem L 0 q).mpr ⟨j, h1, h2⟩, ?_⟩)
    have hq1 : q.1 = j := by omega
    have n1 : (q.1 == i) = false := by simp [hq1, hj]
    have n2 : (q.1 == i + 1) = false := by simp [hq1, hj2]
    by_cases hi : q.1 + 1 = i
    · subst hi
      rw [hq1] at hok
      simp only [okS, h2] at hok
      have hc : q.2.category = 1 := by simpa using hok
      simp [hc]
      try omega
    · simp [n1, n2, hi]
theorem ent_args : ∀ (vs : List Value) (i : Nat), prs i (ent vs) = lv_args i vs
  | [], i => rfl
  | v :: vs, i => by
    by_cases hc : v.category = 2
    · simp only [ent, hc, if_true, prs, lv_args]
      rw [ent_args vs (i + 1 + 1)]
    · simp only [ent, hc, if_false, prs, lv_args]
      rw [ent_args vs (i + 1)]
-- a running method: program .. Q, the heap at its start, the cells that are its own, its locals' room, cells and slots made
abbrev Kx : Type := Program × Launch × Env × Room × State × MethodId × Array Value × List Frame × Method × Code × (State → Prop) × Heap × (Nat → Prop) × Nat × Nat × Nat
def GW (κ : Kx) (Γ : Ev) (pc : Nat) (L : List (Option Value)) (st : List Value) (ws : va_W) : Prop := match κ with
  | (p, l, e, R, s, m, args, below, meth, c, Q, H0, A, nL, c1, c2) => ∀ (H : Heap) (locs : List Loc) (ls : Array Slot), va_P Γ.1 cls ws H → va_D A ws → va_S A H0 H locs → lv_has ls nL (prs 0 L) → W p l e R s m args below meth c H locs c1 c2 Q (F0 m pc ls st)
def Ok (κ : Kx) (Γ : Ev) (own : String) (cc : ByteArray) (nL d : Nat) : Prop := match κ with
  | (p, l, e, R, s, m, args, below, meth, c, Q, H0, A, n0, c1, c2) => p.tables.exec = Jvm.exec ∧ c.code = cc ∧ c.maxLocals = nL ∧ s.vm.findClass own = some m.cls ∧ (∀ w ∈ gt, w.before args s = true) ∧ va_K Γ.1 cls (tys Γ) s ∧ (∀ q, H0.size ≤ q → A q) ∧ meth.locks = false ∧ d ≤ R.frames ∧ 41 * d ≤ R.locals ∧ c1 ≤ R.cells ∧ c2 ≤ R.slots ∧ n0 = nL
-- numbers
theorem i32_rt {z : Int} (h : R32 z) : (Int32.ofInt z).toInt = z := by
  rw [Int32.toInt_ofInt]
  exact Int.bmod_eq_of_le (by have := h.1; simp [Int32.size]; omega) (by have := h.2; simp [Int32.size]; omega)
theorem i64_rt {z : Int} (h : R64 z) : (Int64.ofInt z).toInt = z := by
  rw [Int64.toInt_ofInt]
  exact Int.bmod_eq_of_le (by have := h.1; simp [Int64.size]; omega) (by have := h.2; simp [Int64.size]; omega)
theorem i32_lt {x y : Int} (hx : R32 x) (hy : R32 y) : Int32.ofInt x < Int32.ofInt y ↔ x < y := by
  rw [Int32.lt_iff_toInt_lt, i32_rt hx, i32_rt hy]
theorem i32_le {x y : Int} (hx : R32 x) (hy : R32 y) : Int32.ofInt x ≤ Int32.ofInt y ↔ x ≤ y := by
  rw [Int32.le_iff_toInt_le, i32_rt hx, i32_rt hy]
theorem i32_eq {x y : Int} (hx : R32 x) (hy : R32 y) : Int32.ofInt x = Int32.ofInt y ↔ x = y := by
  constructor
  · intro h
    have h2 := congrArg Int32.toInt h
    rwa [i32_rt hx, i32_rt hy] at h2
  · intro h; rw [h]
theorem i64_lt {x y : Int} (hx : R64 x) (hy : R64 y) : Int64.ofInt x < Int64.ofInt y ↔ x < y := by
  rw [Int64.lt_iff_toInt_lt, i64_rt hx, i64_rt hy]
theorem i64_eq {x y : Int} (hx : R64 x) (hy : R64 y) : Int64.ofInt x = Int64.ofInt y ↔ x = y := by
  constructor
  · intro h
    have h2 := congrArg Int64.toInt h
    rwa [i64_rt hx, i64_rt hy] at h2
  · intro h; rw [h]
theorem i32_self (x : Int32) : Int32.ofInt x.toInt = x := by simp
theorem i32_rng (x : Int32) : R32 x.toInt := ⟨Int32.le_toInt x, Int32.toInt_lt x⟩
theorem i32_cl {z : Int} (h : R32 z) (h0 : 0 ≤ z) : (Int32.ofInt z).toNatClampNeg = z.toNat := by
  show (Int32.ofInt z).toInt.toNat = z.toNat
  rw [i32_rt h]
theorem i32_in {z : Int} {n : Nat} (h0 : 0 ≤ z) (h1 : z < (n : Int)) (hr : R32 z) : vp_in (Int32.ofInt z) n := by
  rintro (h | h)
  · have h2 := (i32_lt hr (show R32 0 by decide)).mp h
    omega
  · rw [i32_cl hr h0] at h
    omega
