/-! the abstract machine: ints and longs are whole numbers, a reference is the number of its cell, the store is a function of cell and place -/
abbrev AV : Type := Int ⊕ Int ⊕ Nat
abbrev Mem : Type := Nat → Int → Int
def am_v (ad : Nat → Nat) (v : AV) : Value := match v with
  | .inl z => .int (Int32.ofInt z)
  | .inr (.inl z) => .long (Int64.ofInt z)
  | .inr (.inr k) => .ref (ad k)
def am_cat (v : AV) : Nat := match v with
  | .inl _ => 1
  | .inr (.inl _) => 2
  | .inr (.inr _) => 1
theorem am_cat_eq (ad : Nat → Nat) (v : AV) : (am_v ad v).category = am_cat v := by rcases v with z | z | k <;> rfl
theorem am_cats (ad : Nat → Nat) (st : List AV) : ((st.map (am_v ad)).map fun v => v.category).sum = (st.map am_cat).sum := by
  rw [List.map_map]
  congr 1
  exact List.map_congr_left fun v _ => am_cat_eq ad v
def am_shL : List (Nat ⊕ (Nat × Nat)) := [.inl 5, .inr (2, 4), .inl 3, .inl 3, .inl 3, .inl 3, .inr (0, 60), .inr (0, 60), .inr (0, 60), .inr (0, 60), .inl 4, .inr (0, 3), .inr (1, 8), .inr (0, 8), .inr (0, 8), .inr (0, 4), .inr (0, 4), .inr (0, 4), .inr (3, 9), .inr (0, 4), .inr (0, 4), .inr (0, 4), .inr (0, 4), .inr (0, 4), .inr (0, 4), .inr (0, 4), .inr (0, 4), .inr (0, 4), .inl 4, .inr (0, 3), .inr (1, 8), .inr (0, 8), .inr (0, 8), .inr (0, 4), .inr (0, 4), .inr (0, 4), .inr (3, 9), .inr (0, 4), .inr (0, 4), .inr (0, 4), .inr (0, 4), .inr (0, 4), .inr (0, 4), .inr (0, 4), .inr (0, 4), .inr (0, 4), .inl 1, .inr (0, 8), .inr (0, 8), .inr (0, 8), .inl 2, .inr (0, 32), .inr (0, 3), .inl 0, .inr (3, 8), .inr (0, 81), .inr (0, 81), .inr (0, 81), .inr (0, 81), .inr (0, 81), .inr (0, 81), .inr (0, 81), .inr (0, 81), .inr (0, 81), .inr (0, 3), .inr (0, 32), .inl 6, .inr (0, 4), .inr (0, 4), .inr (0, 240), .inr (0, 3), .inr (1, 8), .inr (0, 8), .inr (0, 8), .inr (0, 4), .inr (0, 4), .inr (0, 4), .inr (0, 3), .inr (1, 8), .inr (0, 12), .inr (0, 4), .inr (0, 32), .inr (0, 729), .inr (0, 4), .inr (0, 8), .inr (0, 8), .inr (0, 8)]
def am_rfL : List (List (Option Nat)) := [[some 1, some 10, some 28, some 46, some 50, some 53, none, none, none], [some 2, some 3, some 4, some 5], [some 6, none, none], [some 7, none, none], [some 8, none, none], [some 9, none, none], [], [], [], [], [some 11, some 12, some 13, some 14, some 15, some 16, some 17, some 18, none, none, none, none], [], [], [], [], [], [], [], [some 19, some 20, some 21, some 22, some 23, some 24, some 25, some 26, some 27], [], [], [], [], [], [], [], [], [], [some 29, some 30, some 31, some 32, some 33, some 34, some 35, some 36, none, none, none, none], [], [], [], [], [], [], [], [some 37, some 38, some 39, some 40, some 41, some 42, some 43, some 44, some 45], [], [], [], [], [], [], [], [], [], [some 47, some 48, some 49, none], [], [], [], [some 10, some 51, some 52], [], [], [some 10, some 54, some 63, some 64, none, some 65, none, none], [some 55, some 56, some 57, some 58, some 59, some 60, some 61, some 62], [], [], [], [], [], [], [], [], [], [], [], [none, none, some 67, some 68, some 69, none, none, none, none, some 70, some 71, some 72, some 73, some 74, some 75, some 76, none, none, none, some 77, some 78, some 79, some 80, some 81, some 82, some 83, none, some 84, some 85, some 86], [], [], [], [], [], [], [], [], [], [], [], [], [], [], [], [], [], [], [], []]
/-- what kind a cell is: an object of a class (its number in vwCl), an array (0 ints, 1 booleans, 2 Sheets, 3 rows of ints) of a length -/
def shk (c : Nat) : Nat ⊕ (Nat × Nat) := am_shL.getD c (.inr (0, 0))
/-- where a place of a cell points to; none: it holds a number -/
def shf (c j : Nat) : Option Nat := (am_rfL.getD c []).getD j none
def am_N (ci : Nat) : Nat := ((vwCl[ci]?).map (fun q => q.2.2)).getD 0
def am_s (ad : Nat → Nat) (r : Option Nat) (z : Int) : Value := match r with
  | some k => .ref (ad k)
  | none => .int (Int32.ofInt z)
def am_E (dA : Nat → ClassId) (ad : Nat → Nat) (S : Mem) (c : Nat) : va_E := match shk c with
  | .inl ci => .inr (ci, (List.range (am_N ci)).map (fun j => am_s ad (shf c j) (S c (j : Int))))
  | .inr (ty, n) => .inl (dA ty, n, if ty < 2 then .inl (fun i => Int32.ofInt (S c (i : Int))) else .inr (.inr (.inr (.inr (fun i => (shf c i).map ad)))))
def am_W (dA : Nat → ClassId) (ad : Nat → Nat) (S : Mem) : va_W := (List.range 87).map (fun c => (ad c, am_E dA ad S c))
def am_ty (dA : Nat → ClassId) : List (ClassId × FieldType) := [(dA 0, .int), (dA 1, .boolean), (dA 2, .object "RegretLine$Sheet"), (dA 3, .array .int)]
def st2 (S : Mem) (c : Nat) (i v : Int) : Mem := fun c' i' => if c' = c ∧ i' = i then v else S c' i'
theorem am_W_at {dA : Nat → ClassId} {ad : Nat → Nat} {S : Mem} {c : Nat} (h : c < 87) : (am_W dA ad S)[c]? = some (ad c, am_E dA ad S c) := by
  unfold am_W
  rw [List.getElem?_map, List.getElem?_range h]
  rfl
theorem am_W_some {dA : Nat → ClassId} {ad : Nat → Nat} {S : Mem} {c : Nat} {q : Nat × va_E} (h : (am_W dA ad S)[c]? = some q) : c < 87 ∧ q = (ad c, am_E dA ad S c) := by
  have hl : c < 87 := by
    have := (List.getElem?_eq_some_iff.mp h).1
    simpa [am_W] using this
  rw [am_W_at hl] at h
  exact ⟨hl, (Option.some.inj h).symm⟩
theorem am_W_set {dA : Nat → ClassId} {ad : Nat → Nat} {S S' : Mem} {c : Nat} {e : va_E} (he : am_E dA ad S' c = e) (ho : ∀ c', c' ≠ c → S' c' = S c') : (am_W dA ad S).set c (ad c, e) = am_W dA ad S' := by
  apply List.ext_getElem?
  intro k
  by_cases hk : k < 87
  · by_cases hkc : k = c
    · subst hkc
      rw [List.getElem?_set_self (by simpa [am_W] using hk), am_W_at hk, he]
    · rw [List.getElem?_set_ne (Ne.symm hkc), am_W_at hk, am_W_at hk]
      simp only [am_E, ho k hkc]
  · rw [List.getElem?_eq_none (by simp [am_W]; omega), List.getElem?_eq_none (by simp [am_W]; omega)]
theorem st2_o {S : Mem} {c : Nat} {i v : Int} : ∀ c', c' ≠ c → st2 S c i v c' = S c' := fun c' h => funext fun i' => if_neg (fun q => h q.1)
theorem am_lt_87 {c : Nat} (h : shk c ≠ .inr (0, 0)) : c < 87 := by
  rcases Nat.lt_or_ge c 87 with q | q
  · exact q
  · exact absurd (by unfold shk; rw [List.getD_eq_getElem?_getD, List.getElem?_eq_none (by simpa [am_shL] using q)]; rfl) h
/-- the range of an int -/
abbrev rng (a : Int) : Prop := -2147483648 ≤ a ∧ a ≤ 2147483647
abbrev rngl (a : Int) : Prop := -9223372036854775808 ≤ a ∧ a ≤ 9223372036854775807
theorem am_ti {a : Int} (h : rng a) : (Int32.ofInt a).toInt = a := Int32.toInt_ofInt_of_le (by have := h.1; omega) (by have := h.2; omega)
theorem am_lt {a b : Int} (ha : rng a) (hb : rng b) : Int32.ofInt a < Int32.ofInt b ↔ a < b := by rw [Int32.lt_iff_toInt_lt, am_ti ha, am_ti hb]
theorem am_le {a b : Int} (ha : rng a) (hb : rng b) : Int32.ofInt a ≤ Int32.ofInt b ↔ a ≤ b := by rw [Int32.le_iff_toInt_le, am_ti ha, am_ti hb]
theorem am_eq {a b : Int} (ha : rng a) (hb : rng b) : Int32.ofInt a = Int32.ofInt b ↔ a = b := by rw [← Int32.toInt_inj, am_ti ha, am_ti hb]
theorem am_z : Int32.ofInt 0 = 0 := rfl
theorem am_r0 : rng 0 := by decide
theorem am_cl {a : Int} (h0 : 0 ≤ a) (h : a ≤ 2147483647) : (Int32.ofInt a).toNatClampNeg = a.toNat := by
  rw [Int32.toNatClampNeg, am_ti ⟨by omega, h⟩]
theorem am_in {a : Int} {n : Nat} (h0 : 0 ≤ a) (h : a < n) (hn : n ≤ 2147483647) : vp_in (Int32.ofInt a) n := by
  rw [vp_in_iff, am_ti ⟨by omega, by omega⟩]
  exact ⟨h0, h⟩
theorem am_div {a b : Int} (h0 : 0 ≤ a) (ha : a ≤ 2147483647) (h1 : 0 < b) (hb : b ≤ 2147483647) : Int32.ofInt a / Int32.ofInt b = Int32.ofInt (a / b) := by
  rw [← Int32.toInt_inj, Int32.toInt_div_of_ne_right _ _ (fun h => by
    have := congrArg Int32.toInt h
    rw [am_ti ⟨by omega, hb⟩] at this
    have e : (-1 : Int32).toInt = -1 := by decide
    omega), am_ti ⟨by omega, ha⟩, am_ti ⟨by omega, hb⟩, Int.tdiv_eq_ediv_of_nonneg h0, am_ti]
  have h2 := Int.ediv_nonneg h0 (Int.le_of_lt h1)
  have h3 := Int.ediv_le_self b h0
  exact ⟨by omega, by omega⟩
theorem am_nz {b : Int} (h1 : 0 < b) (hb : b ≤ 2147483647) : ¬ Int32.ofInt b = 0 := fun h => by
  have := congrArg Int32.toInt h
  rw [am_ti ⟨by omega, hb⟩] at this
  have e : (0 : Int32).toInt = 0 := by decide
  omega
theorem am_rem {a b : Int} (h0 : 0 ≤ a) (ha : a ≤ 2147483647) (h1 : 0 < b) (hb : b ≤ 2147483647) : Int32.ofInt a - Int32.ofInt a / Int32.ofInt b * Int32.ofInt b = Int32.ofInt (a % b) := by
  rw [am_div h0 ha h1 hb, ← Int32.ofInt_mul, ← Int32.ofInt_sub, Int.emod_def, Int.mul_comm]
/-- the locals: by their places -/
def am_has (ad : Nat → Nat) (ls : Array Slot) (nL : Nat) (L : List (Option AV)) : Prop := lv_has ls nL [] ∧ ∀ (i : Nat) (v : AV), L[i]? = some (some v) → ls[i]? = some (.val (am_v ad v))
def am_l (ad : Nat → Nat) (L : List (Option AV)) : List (Nat × Value) := (List.range L.length).filterMap (fun i => (L[i]?.join).map (fun v => (i, am_v ad v)))
theorem am_l_mem {ad : Nat → Nat} {L : List (Option AV)} {i : Nat} {v : AV} (h : L[i]? = some (some v)) : (i, am_v ad v) ∈ am_l ad L := by
  refine List.mem_filterMap.mpr ⟨i, List.mem_range.mpr (List.getElem?_eq_some_iff.mp h).1, ?_⟩
  rw [h]
  rfl
theorem am_has_lv {ad : Nat → Nat} {ls : Array Slot} {nL : Nat} {L : List (Option AV)} (h : am_has ad ls nL L) : lv_has ls nL (am_l ad L) := by
  refine ⟨h.1.1, h.1.2.1, fun q hq => ?_⟩
  obtain ⟨i, -, hi⟩ := List.mem_filterMap.mp hq
  cases hj : L[i]?.join with
  | none => rw [hj] at hi; cases hi
  | some v =>
    rw [hj] at hi
    cases hi
    refine h.2 i v ?_
    cases hk : L[i]? with
    | none => rw [hk] at hj; cases hj
    | some x => rw [hk] at hj; cases hj; rfl
/-- a local is no long -/
def am_nl (v : Option AV) : Bool := match v with
  | some (.inr (.inl _)) => false
  | _ => true
/-- the place ahead holds no long -/
def am_pv (L : List (Option AV)) (i : Nat) : Bool := match i with
  | 0 => true
  | u + 1 => am_nl ((L[u]?).join)
theorem am_has_set {ad : Nat → Nat} {ls : Array Slot} {nL i : Nat} {L : List (Option AV)} {v : AV} {lv : List (Nat × Value)} (hlv : lv = (i, am_v ad v) :: (am_l ad L).filter (fun q => !(q.1 == i) && !(q.1 + 1 == i && q.2.category == 2))) (h : lv_has ls nL lv) (hp : ∀ u, i = u + 1 → am_nl ((L[u]?).join) = true) : am_has ad ls nL (L.set i (some v)) := by
  subst hlv
  refine ⟨⟨h.1, h.2.1, fun q hq => by cases hq⟩, fun j u hj => ?_⟩
  by_cases hji : j = i
  · subst hji
    have hl : j < L.length := by simpa using (List.getElem?_eq_some_iff.mp hj).1
    rw [List.getElem?_set_self hl] at hj
    cases hj
    exact h.2.2 (j, am_v ad v) List.mem_cons_self
  · rw [List.getElem?_set_ne (Ne.symm hji)] at hj
    refine h.2.2 (j, am_v ad u) (List.mem_cons_of_mem _ (List.mem_filter.mpr ⟨am_l_mem hj, ?_⟩))
    simp only [Bool.and_eq_true, Bool.not_eq_true', beq_eq_false_iff_ne, ne_eq, Bool.and_eq_false_iff]
    refine ⟨hji, ?_⟩
    by_cases hq : j + 1 = i
    · right
      have := hp j hq.symm
      rw [hj] at this
      intro hc
      rw [am_cat_eq] at hc
      rcases u with z | z | k
      · cases hc
      · cases this
      · cases hc
    · exact Or.inl hq
theorem am_has_set2 {ad : Nat → Nat} {ls : Array Slot} {nL i : Nat} {L : List (Option AV)} {v : AV} {lv : List (Nat × Value)} (hlv : lv = (i, am_v ad v) :: (am_l ad L).filter (fun q => !(q.1 == i) && (!(q.1 == i + 1) && !(q.1 + 1 == i && q.2.category == 2)))) (h : lv_has ls nL lv) (hp : ∀ u, i = u + 1 → am_nl ((L[u]?).join) = true) : am_has ad ls nL ((L.set i (some v)).set (i + 1) none) := by
  subst hlv
  refine ⟨⟨h.1, h.2.1, fun q hq => by cases hq⟩, fun j u hj => ?_⟩
  by_cases hj1 : j = i + 1
  · subst hj1
    rw [List.getElem?_set] at hj
    split at hj
    · split at hj <;> cases hj
    · exact absurd rfl (by assumption)
  rw [List.getElem?_set_ne (Ne.symm hj1)] at hj
  by_cases hji : j = i
  · subst hji
    have hl : j < L.length := by simpa using (List.getElem?_eq_some_iff.mp hj).1
    rw [List.getElem?_set_self hl] at hj
    cases hj
    exact h.2.2 (j, am_v ad v) List.mem_cons_self
  · rw [List.getElem?_set_ne (Ne.symm hji)] at hj
    refine h.2.2 (j, am_v ad u) (List.mem_cons_of_mem _ (List.mem_filter.mpr ⟨am_l_mem hj, ?_⟩))
    simp only [Bool.and_eq_true, Bool.not_eq_true', beq_eq_false_iff_ne, ne_eq, Bool.and_eq_false_iff]
    refine ⟨hji, hj1, ?_⟩
    by_cases hq : j + 1 = i
    · right
      have := hp j hq.symm
      rw [hj] at this
      intro hc
      rw [am_cat_eq] at hc
      rcases u with z | z | k
      · cases hc
      · cases this
      · cases hc
    · exact Or.inl hq
/-- the machine's side of a walk -/
abbrev AMX := Program × Launch × Env × Room × State × MethodId × Array Value × List Frame × Method × Code × Nat × Nat × (State → Prop) × (Nat → ClassId) × (Nat → Nat → Nat) × (Nat → ClassId) × (Nat → Nat) × (Nat → Prop)
def AW (X : AMX) (cc : ByteArray) (nL pc : Nat) (L : List (Option AV)) (st : List AV) (S : Mem) : Prop := match X with
  | (p, l, e, R, s, m, args, below, meth, c, cells, slots, Q, dC, dI, dA, ad, A) => ∀ (H : Heap) (locs : List Loc) (ls : Array Slot), va_P (dC, dI) vwCl (am_W dA ad S) H → va_S A s.heap H locs → am_has ad ls nL L → W p l e R s m args below meth c H locs cells slots Q (F0 m pc ls (st.map (am_v ad)))
/-- the one link to a nest mate's private member that a method besides constructors uses -/
def am_NW : Cond := .methodLinkNest RX2 31 yX6_noClass RX6
def CX (X : AMX) (d : Nat) (own : String) (cc : ByteArray) (nL : Nat) : Prop := match X with
  | (p, l, e, R, s, m, args, below, meth, c, cells, slots, Q, dC, dI, dA, ad, A) => p.tables.exec = Jvm.exec ∧ c.code = cc ∧ c.maxLocals = nL ∧ s.vm.findClass own = some m.cls ∧ (∀ w ∈ am_BW, w.before args s = true) ∧ va_K (dC, dI) vwCl (am_ty dA) s ∧ (∀ S, va_D A (am_W dA ad S)) ∧ (∀ q, s.heap.size ≤ q → A q) ∧ va_Nw am_NW s ∧ d ≤ R.frames ∧ 32 * d ≤ R.locals ∧ cells ≤ R.cells ∧ slots ≤ R.slots
section AM1
variable {X : AMX} {d pc n nL : Nat} {own : String} {cc : ByteArray} {L : List (Option AV)} {st : List AV} {S : Mem}
theorem aw_loc {L' : List (Option AV)} (h : ∀ (i : Nat) (v : AV), L'[i]? = some (some v) → L[i]? = some (some v)) (k : AW X cc nL pc L' st S) : AW X cc nL pc L st S := by
  obtain ⟨p, l, e, R, s, m, args, below, meth, c, cells, slots, Q, dC, dI, dA, ad, A⟩ := X
  intro H locs ls hP hS hl
  exact k H locs ls hP hS ⟨hl.1, fun i v hv => hl.2 i v (h i v hv)⟩
theorem aw_iconst {z : Int} (C : CX X d own cc nL) (hd : decode cc pc = .ok (.iconst z, 1)) (hn : pc + 1 = n) (k : AW X cc nL n L (.inl z :: st) (S)) : AW X cc nL pc L (st) S := by
  obtain ⟨p, l, e, R, s, m, args, below, meth, c, cells, slots, Q, dC, dI, dA, ad, A⟩ := X
  obtain ⟨hx, hb, hml, hown, hts, hK, hD, hA, hNw, hfr, hlo, hce, hsl⟩ := C
  subst hn
  intro H locs ls hP hS hl
  exact lv_iconst hx hb hd rfl (k H locs ls hP hS hl)
theorem aw_bipush {z : Int} (C : CX X d own cc nL) (hd : decode cc pc = .ok (.bipush z, 2)) (hn : pc + 2 = n) (h : (Int8.ofInt z).toInt32 = Int32.ofInt z) (k : AW X cc nL n L (.inl z :: st) (S)) : AW X cc nL pc L (st) S := by
  obtain ⟨p, l, e, R, s, m, args, below, meth, c, cells, slots, Q, dC, dI, dA, ad, A⟩ := X
  obtain ⟨hx, hb, hml, hown, hts, hK, hD, hA, hNw, hfr, hlo, hce, hsl⟩ := C
  subst hn
  intro H locs ls hP hS hl
  exact lv_bipush hx hb hd h (k H locs ls hP hS hl)
theorem aw_sipush {z : Int} (C : CX X d own cc nL) (hd : decode cc pc = .ok (.sipush z, 3)) (hn : pc + 3 = n) (h : (Int16.ofInt z).toInt32 = Int32.ofInt z) (k : AW X cc nL n L (.inl z :: st) (S)) : AW X cc nL pc L (st) S := by
  obtain ⟨p, l, e, R, s, m, args, below, meth, c, cells, slots, Q, dC, dI, dA, ad, A⟩ := X
  obtain ⟨hx, hb, hml, hown, hts, hK, hD, hA, hNw, hfr, hlo, hce, hsl⟩ := C
  subst hn
  intro H locs ls hP hS hl
  exact lv_sipush hx hb hd h (k H locs ls hP hS hl)
theorem aw_lconst {f : Fin 2} {z : Int} (C : CX X d own cc nL) (hd : decode cc pc = .ok (.lconst f, 1)) (hn : pc + 1 = n) (h : Int64.ofNat (f : Nat) = Int64.ofInt z) (k : AW X cc nL n L (.inr (.inl z) :: st) (S)) : AW X cc nL pc L (st) S := by
  obtain ⟨p, l, e, R, s, m, args, below, meth, c, cells, slots, Q, dC, dI, dA, ad, A⟩ := X
  obtain ⟨hx, hb, hml, hown, hts, hK, hD, hA, hNw, hfr, hlo, hce, hsl⟩ := C
  subst hn
  intro H locs ls hP hS hl
  exact lv_lconst hx hb hd h (k H locs ls hP hS hl)
theorem aw_ildn {i : Fin 4} {a : Int} (C : CX X d own cc nL) (hd : decode cc pc = .ok (.iload_n i, 1)) (hn : pc + 1 = n) (hv : L[(i : Nat)]? = some (some (.inl a))) (k : AW X cc nL n L (.inl a :: st) (S)) : AW X cc nL pc L (st) S := by
  obtain ⟨p, l, e, R, s, m, args, below, meth, c, cells, slots, Q, dC, dI, dA, ad, A⟩ := X
  obtain ⟨hx, hb, hml, hown, hts, hK, hD, hA, hNw, hfr, hlo, hce, hsl⟩ := C
  subst hn
  intro H locs ls hP hS hl
  exact lv_iload_n hx hb hd rfl (hl.2 _ _ hv) (k H locs ls hP hS hl)
theorem aw_ildw {i : Nat} {a : Int} (C : CX X d own cc nL) (hd : decode cc pc = .ok (.iload i, 2)) (hn : pc + 2 = n) (hv : L[i]? = some (some (.inl a))) (k : AW X cc nL n L (.inl a :: st) (S)) : AW X cc nL pc L (st) S := by
  obtain ⟨p, l, e, R, s, m, args, below, meth, c, cells, slots, Q, dC, dI, dA, ad, A⟩ := X
  obtain ⟨hx, hb, hml, hown, hts, hK, hD, hA, hNw, hfr, hlo, hce, hsl⟩ := C
  subst hn
  intro H locs ls hP hS hl
  exact lv_iload hx hb hd (hl.2 _ _ hv) (k H locs ls hP hS hl)
theorem aw_aldn {i : Fin 4} {a : Nat} (C : CX X d own cc nL) (hd : decode cc pc = .ok (.aload_n i, 1)) (hn : pc + 1 = n) (hv : L[(i : Nat)]? = some (some (.inr (.inr a)))) (k : AW X cc nL n L (.inr (.inr a) :: st) (S)) : AW X cc nL pc L (st) S := by
  obtain ⟨p, l, e, R, s, m, args, below, meth, c, cells, slots, Q, dC, dI, dA, ad, A⟩ := X
  obtain ⟨hx, hb, hml, hown, hts, hK, hD, hA, hNw, hfr, hlo, hce, hsl⟩ := C
  subst hn
  intro H locs ls hP hS hl
  exact lv_aload_n hx hb hd rfl (hl.2 _ _ hv) (k H locs ls hP hS hl)
theorem aw_aldw {i : Nat} {a : Nat} (C : CX X d own cc nL) (hd : decode cc pc = .ok (.aload i, 2)) (hn : pc + 2 = n) (hv : L[i]? = some (some (.inr (.inr a)))) (k : AW X cc nL n L (.inr (.inr a) :: st) (S)) : AW X cc nL pc L (st) S := by
  obtain ⟨p, l, e, R, s, m, args, below, meth, c, cells, slots, Q, dC, dI, dA, ad, A⟩ := X
  obtain ⟨hx, hb, hml, hown, hts, hK, hD, hA, hNw, hfr, hlo, hce, hsl⟩ := C
  subst hn
  intro H locs ls hP hS hl
  exact lv_aload hx hb hd (hl.2 _ _ hv) (k H locs ls hP hS hl)
theorem aw_lldn {i : Fin 4} {a : Int} (C : CX X d own cc nL) (hd : decode cc pc = .ok (.lload_n i, 1)) (hn : pc + 1 = n) (hv : L[(i : Nat)]? = some (some (.inr (.inl a)))) (k : AW X cc nL n L (.inr (.inl a) :: st) (S)) : AW X cc nL pc L (st) S := by
  obtain ⟨p, l, e, R, s, m, args, below, meth, c, cells, slots, Q, dC, dI, dA, ad, A⟩ := X
  obtain ⟨hx, hb, hml, hown, hts, hK, hD, hA, hNw, hfr, hlo, hce, hsl⟩ := C
  subst hn
  intro H locs ls hP hS hl
  exact lv_lload_n hx hb hd rfl (hl.2 _ _ hv) (k H locs ls hP hS hl)
theorem aw_lldw {i : Nat} {a : Int} (C : CX X d own cc nL) (hd : decode cc pc = .ok (.lload i, 2)) (hn : pc + 2 = n) (hv : L[i]? = some (some (.inr (.inl a)))) (k : AW X cc nL n L (.inr (.inl a) :: st) (S)) : AW X cc nL pc L (st) S := by
  obtain ⟨p, l, e, R, s, m, args, below, meth, c, cells, slots, Q, dC, dI, dA, ad, A⟩ := X
  obtain ⟨hx, hb, hml, hown, hts, hK, hD, hA, hNw, hfr, hlo, hce, hsl⟩ := C
  subst hn
  intro H locs ls hP hS hl
  exact lv_lload hx hb hd (hl.2 _ _ hv) (k H locs ls hP hS hl)
theorem aw_istn {i : Fin 4} {a : Int} {L' : List (Option AV)} (C : CX X d own cc nL) (hd : decode cc pc = .ok (.istore_n i, 1)) (hn : pc + 1 = n) (hi : (i : Nat) < nL) (hp : am_pv L (i : Nat) = true) (hL : L.set (i : Nat) (some (.inl a)) = L') (k : AW X cc nL n L' (st) (S)) : AW X cc nL pc L (.inl a :: st) S := by
  obtain ⟨p, l, e, R, s, m, args, below, meth, c, cells, slots, Q, dC, dI, dA, ad, A⟩ := X
  obtain ⟨hx, hb, hml, hown, hts, hK, hD, hA, hNw, hfr, hlo, hce, hsl⟩ := C
  subst hn
  intro H locs ls hP hS hl
  exact lv_istore_n hx hb hd rfl (am_has_lv hl) hi rfl (fun ls' h' => k H locs ls' hP hS (by rw [← hL]; exact am_has_set rfl h' (fun u hu => by rw [hu] at hp; exact hp)))
theorem aw_istw {i : Nat} {a : Int} {L' : List (Option AV)} (C : CX X d own cc nL) (hd : decode cc pc = .ok (.istore i, 2)) (hn : pc + 2 = n) (hi : i < nL) (hp : am_pv L i = true) (hL : L.set i (some (.inl a)) = L') (k : AW X cc nL n L' (st) (S)) : AW X cc nL pc L (.inl a :: st) S := by
  obtain ⟨p, l, e, R, s, m, args, below, meth, c, cells, slots, Q, dC, dI, dA, ad, A⟩ := X
  obtain ⟨hx, hb, hml, hown, hts, hK, hD, hA, hNw, hfr, hlo, hce, hsl⟩ := C
  subst hn
  intro H locs ls hP hS hl
  exact lv_istore hx hb hd (am_has_lv hl) hi rfl (fun ls' h' => k H locs ls' hP hS (by rw [← hL]; exact am_has_set rfl h' (fun u hu => by rw [hu] at hp; exact hp)))
theorem aw_astn {i : Fin 4} {a : Nat} {L' : List (Option AV)} (C : CX X d own cc nL) (hd : decode cc pc = .ok (.astore_n i, 1)) (hn : pc + 1 = n) (hi : (i : Nat) < nL) (hp : am_pv L (i : Nat) = true) (hL : L.set (i : Nat) (some (.inr (.inr a))) = L') (k : AW X cc nL n L' (st) (S)) : AW X cc nL pc L (.inr (.inr a) :: st) S := by
  obtain ⟨p, l, e, R, s, m, args, below, meth, c, cells, slots, Q, dC, dI, dA, ad, A⟩ := X
  obtain ⟨hx, hb, hml, hown, hts, hK, hD, hA, hNw, hfr, hlo, hce, hsl⟩ := C
  subst hn
  intro H locs ls hP hS hl
  exact lv_astore_n hx hb hd rfl (am_has_lv hl) hi rfl (fun ls' h' => k H locs ls' hP hS (by rw [← hL]; exact am_has_set rfl h' (fun u hu => by rw [hu] at hp; exact hp)))
theorem aw_astw {i : Nat} {a : Nat} {L' : List (Option AV)} (C : CX X d own cc nL) (hd : decode cc pc = .ok (.astore i, 2)) (hn : pc + 2 = n) (hi : i < nL) (hp : am_pv L i = true) (hL : L.set i (some (.inr (.inr a))) = L') (k : AW X cc nL n L' (st) (S)) : AW X cc nL pc L (.inr (.inr a) :: st) S := by
  obtain ⟨p, l, e, R, s, m, args, below, meth, c, cells, slots, Q, dC, dI, dA, ad, A⟩ := X
  obtain ⟨hx, hb, hml, hown, hts, hK, hD, hA, hNw, hfr, hlo, hce, hsl⟩ := C
  subst hn
  intro H locs ls hP hS hl
  exact lv_astore hx hb hd (am_has_lv hl) hi rfl (fun ls' h' => k H locs ls' hP hS (by rw [← hL]; exact am_has_set rfl h' (fun u hu => by rw [hu] at hp; exact hp)))
theorem aw_lstn {i : Fin 4} {a : Int} {L' : List (Option AV)} (C : CX X d own cc nL) (hd : decode cc pc = .ok (.lstore_n i, 1)) (hn : pc + 1 = n) (hi : (i : Nat) + 1 < nL) (hp : am_pv L (i : Nat) = true) (hL : (L.set (i : Nat) (some (.inr (.inl a)))).set ((i : Nat) + 1) none = L') (k : AW X cc nL n L' (st) (S)) : AW X cc nL pc L (.inr (.inl a) :: st) S := by
  obtain ⟨p, l, e, R, s, m, args, below, meth, c, cells, slots, Q, dC, dI, dA, ad, A⟩ := X
  obtain ⟨hx, hb, hml, hown, hts, hK, hD, hA, hNw, hfr, hlo, hce, hsl⟩ := C
  subst hn
  intro H locs ls hP hS hl
  exact lv_lstore_n hx hb hd rfl (am_has_lv hl) hi rfl (fun ls' h' => k H locs ls' hP hS (by rw [← hL]; exact am_has_set2 rfl h' (fun u hu => by rw [hu] at hp; exact hp)))
theorem aw_lstw {i : Nat} {a : Int} {L' : List (Option AV)} (C : CX X d own cc nL) (hd : decode cc pc = .ok (.lstore i, 2)) (hn : pc + 2 = n) (hi : i + 1 < nL) (hp : am_pv L i = true) (hL : (L.set i (some (.inr (.inl a)))).set (i + 1) none = L') (k : AW X cc nL n L' (st) (S)) : AW X cc nL pc L (.inr (.inl a) :: st) S := by
  obtain ⟨p, l, e, R, s, m, args, below, meth, c, cells, slots, Q, dC, dI, dA, ad, A⟩ := X
  obtain ⟨hx, hb, hml, hown, hts, hK, hD, hA, hNw, hfr, hlo, hce, hsl⟩ := C
  subst hn
  intro H locs ls hP hS hl
  exact lv_lstore hx hb hd (am_has_lv hl) hi rfl (fun ls' h' => k H locs ls' hP hS (by rw [← hL]; exact am_has_set2 rfl h' (fun u hu => by rw [hu] at hp; exact hp)))
theorem aw_iinc {i : Nat} {a z : Int} {L' : List (Option AV)} (C : CX X d own cc nL) (hd : decode cc pc = .ok (.iinc i z, 3)) (hn : pc + 3 = n) (hv : L[i]? = some (some (.inl a))) (hi : i < nL) (hp : am_pv L i = true) (hL : L.set i (some (.inl (a + z))) = L') (k : AW X cc nL n L' st S) : AW X cc nL pc L st S := by
  obtain ⟨p, l, e, R, s, m, args, below, meth, c, cells, slots, Q, dC, dI, dA, ad, A⟩ := X
  obtain ⟨hx, hb, hml, hown, hts, hK, hD, hA, hNw, hfr, hlo, hce, hsl⟩ := C
  subst hn
  intro H locs ls hP hS hl
  obtain ⟨q, hq⟩ := List.getElem?_of_mem (am_l_mem (ad := ad) hv)
  exact lv_iinc (v := Int32.ofInt (a + z)) hx hb hd (am_has_lv hl) (k := q) hq (by rw [Int32.ofInt_add]) hi rfl (fun ls' h' => k H locs ls' hP hS (by rw [← hL]; exact am_has_set rfl h' (fun u hu => by rw [hu] at hp; exact hp)))
theorem aw_iadd {a b : Int} (C : CX X d own cc nL) (hd : decode cc pc = .ok (.iadd, 1)) (hn : pc + 1 = n) (k : AW X cc nL n L (.inl (a + b) :: st) (S)) : AW X cc nL pc L (.inl b :: .inl a :: st) S := by
  obtain ⟨p, l, e, R, s, m, args, below, meth, c, cells, slots, Q, dC, dI, dA, ad, A⟩ := X
  obtain ⟨hx, hb, hml, hown, hts, hK, hD, hA, hNw, hfr, hlo, hce, hsl⟩ := C
  subst hn
  intro H locs ls hP hS hl
  refine lv_iadd hx hb hd ?_
  rw [← Int32.ofInt_add]
  exact k H locs ls hP hS hl
theorem aw_isub {a b : Int} (C : CX X d own cc nL) (hd : decode cc pc = .ok (.isub, 1)) (hn : pc + 1 = n) (k : AW X cc nL n L (.inl (a - b) :: st) (S)) : AW X cc nL pc L (.inl b :: .inl a :: st) S := by
  obtain ⟨p, l, e, R, s, m, args, below, meth, c, cells, slots, Q, dC, dI, dA, ad, A⟩ := X
  obtain ⟨hx, hb, hml, hown, hts, hK, hD, hA, hNw, hfr, hlo, hce, hsl⟩ := C
  subst hn
  intro H locs ls hP hS hl
  refine lv_isub hx hb hd ?_
  rw [← Int32.ofInt_sub]
  exact k H locs ls hP hS hl
theorem aw_imul {a b : Int} (C : CX X d own cc nL) (hd : decode cc pc = .ok (.imul, 1)) (hn : pc + 1 = n) (k : AW X cc nL n L (.inl (a * b) :: st) (S)) : AW X cc nL pc L (.inl b :: .inl a :: st) S := by
  obtain ⟨p, l, e, R, s, m, args, below, meth, c, cells, slots, Q, dC, dI, dA, ad, A⟩ := X
  obtain ⟨hx, hb, hml, hown, hts, hK, hD, hA, hNw, hfr, hlo, hce, hsl⟩ := C
  subst hn
  intro H locs ls hP hS hl
  refine lv_imul hx hb hd ?_
  rw [← Int32.ofInt_mul]
  exact k H locs ls hP hS hl
theorem aw_ineg {a : Int} (C : CX X d own cc nL) (hd : decode cc pc = .ok (.ineg, 1)) (hn : pc + 1 = n) (k : AW X cc nL n L (.inl (-a) :: st) (S)) : AW X cc nL pc L (.inl a :: st) S := by
  obtain ⟨p, l, e, R, s, m, args, below, meth, c, cells, slots, Q, dC, dI, dA, ad, A⟩ := X
  obtain ⟨hx, hb, hml, hown, hts, hK, hD, hA, hNw, hfr, hlo, hce, hsl⟩ := C
  subst hn
  intro H locs ls hP hS hl
  refine lv_ineg hx hb hd ?_
  rw [← Int32.ofInt_neg]
  exact k H locs ls hP hS hl
theorem aw_idiv {a b : Int} (C : CX X d own cc nL) (hd : decode cc pc = .ok (.idiv, 1)) (hn : pc + 1 = n) (ha : 0 ≤ a ∧ a ≤ 2147483647) (hb2 : 0 < b ∧ b ≤ 2147483647) (k : AW X cc nL n L (.inl (a / b) :: st) (S)) : AW X cc nL pc L (.inl b :: .inl a :: st) S := by
  obtain ⟨p, l, e, R, s, m, args, below, meth, c, cells, slots, Q, dC, dI, dA, ad, A⟩ := X
  obtain ⟨hx, hb, hml, hown, hts, hK, hD, hA, hNw, hfr, hlo, hce, hsl⟩ := C
  subst hn
  intro H locs ls hP hS hl
  refine lv_idiv hx hb hd (am_nz hb2.1 hb2.2) ?_
  rw [am_div ha.1 ha.2 hb2.1 hb2.2]
  exact k H locs ls hP hS hl
theorem aw_irem {a b : Int} (C : CX X d own cc nL) (hd : decode cc pc = .ok (.irem, 1)) (hn : pc + 1 = n) (ha : 0 ≤ a ∧ a ≤ 2147483647) (hb2 : 0 < b ∧ b ≤ 2147483647) (k : AW X cc nL n L (.inl (a % b) :: st) (S)) : AW X cc nL pc L (.inl b :: .inl a :: st) S := by
  obtain ⟨p, l, e, R, s, m, args, below, meth, c, cells, slots, Q, dC, dI, dA, ad, A⟩ := X
  obtain ⟨hx, hb, hml, hown, hts, hK, hD, hA, hNw, hfr, hlo, hce, hsl⟩ := C
  subst hn
  intro H locs ls hP hS hl
  refine lv_irem hx hb hd (am_nz hb2.1 hb2.2) ?_
  rw [am_rem ha.1 ha.2 hb2.1 hb2.2]
  exact k H locs ls hP hS hl
theorem aw_ishl {a b r : Int} (C : CX X d own cc nL) (hd : decode cc pc = .ok (.ishl, 1)) (hn : pc + 1 = n) (h : Int32.ofInt a <<< (Int32.ofInt b &&& 31) = Int32.ofInt r) (k : AW X cc nL n L (.inl r :: st) (S)) : AW X cc nL pc L (.inl b :: .inl a :: st) S := by
  obtain ⟨p, l, e, R, s, m, args, below, meth, c, cells, slots, Q, dC, dI, dA, ad, A⟩ := X
  obtain ⟨hx, hb, hml, hown, hts, hK, hD, hA, hNw, hfr, hlo, hce, hsl⟩ := C
  subst hn
  intro H locs ls hP hS hl
  refine lv_ishl hx hb hd ?_
  rw [h]
  exact k H locs ls hP hS hl
theorem aw_ishr {a b r : Int} (C : CX X d own cc nL) (hd : decode cc pc = .ok (.ishr, 1)) (hn : pc + 1 = n) (h : Int32.ofInt a >>> (Int32.ofInt b &&& 31) = Int32.ofInt r) (k : AW X cc nL n L (.inl r :: st) (S)) : AW X cc nL pc L (.inl b :: .inl a :: st) S := by
  obtain ⟨p, l, e, R, s, m, args, below, meth, c, cells, slots, Q, dC, dI, dA, ad, A⟩ := X
  obtain ⟨hx, hb, hml, hown, hts, hK, hD, hA, hNw, hfr, hlo, hce, hsl⟩ := C
  subst hn
  intro H locs ls hP hS hl
  refine lv_ishr hx hb hd ?_
  rw [h]
  exact k H locs ls hP hS hl
theorem aw_iand {a b r : Int} (C : CX X d own cc nL) (hd : decode cc pc = .ok (.iand, 1)) (hn : pc + 1 = n) (h : Int32.ofInt a &&& Int32.ofInt b = Int32.ofInt r) (k : AW X cc nL n L (.inl r :: st) (S)) : AW X cc nL pc L (.inl b :: .inl a :: st) S := by
  obtain ⟨p, l, e, R, s, m, args, below, meth, c, cells, slots, Q, dC, dI, dA, ad, A⟩ := X
  obtain ⟨hx, hb, hml, hown, hts, hK, hD, hA, hNw, hfr, hlo, hce, hsl⟩ := C
  subst hn
  intro H locs ls hP hS hl
  refine lv_iand hx hb hd ?_
  rw [h]
  exact k H locs ls hP hS hl
theorem aw_ior {a b r : Int} (C : CX X d own cc nL) (hd : decode cc pc = .ok (.ior, 1)) (hn : pc + 1 = n) (h : Int32.ofInt a ||| Int32.ofInt b = Int32.ofInt r) (k : AW X cc nL n L (.inl r :: st) (S)) : AW X cc nL pc L (.inl b :: .inl a :: st) S := by
  obtain ⟨p, l, e, R, s, m, args, below, meth, c, cells, slots, Q, dC, dI, dA, ad, A⟩ := X
  obtain ⟨hx, hb, hml, hown, hts, hK, hD, hA, hNw, hfr, hlo, hce, hsl⟩ := C
  subst hn
  intro H locs ls hP hS hl
  refine lv_ior hx hb hd ?_
  rw [h]
  exact k H locs ls hP hS hl
theorem aw_i2b {a r : Int} (C : CX X d own cc nL) (hd : decode cc pc = .ok (.i2b, 1)) (hn : pc + 1 = n) (h : (Int32.ofInt a).toInt8.toInt32 = Int32.ofInt r) (k : AW X cc nL n L (.inl r :: st) (S)) : AW X cc nL pc L (.inl a :: st) S := by
  obtain ⟨p, l, e, R, s, m, args, below, meth, c, cells, slots, Q, dC, dI, dA, ad, A⟩ := X
  obtain ⟨hx, hb, hml, hown, hts, hK, hD, hA, hNw, hfr, hlo, hce, hsl⟩ := C
  subst hn
  intro H locs ls hP hS hl
  exact lv_i2b hx hb hd h (k H locs ls hP hS hl)
theorem aw_i2s {a r : Int} (C : CX X d own cc nL) (hd : decode cc pc = .ok (.i2s, 1)) (hn : pc + 1 = n) (h : (Int32.ofInt a).toInt16.toInt32 = Int32.ofInt r) (k : AW X cc nL n L (.inl r :: st) (S)) : AW X cc nL pc L (.inl a :: st) S := by
  obtain ⟨p, l, e, R, s, m, args, below, meth, c, cells, slots, Q, dC, dI, dA, ad, A⟩ := X
  obtain ⟨hx, hb, hml, hown, hts, hK, hD, hA, hNw, hfr, hlo, hce, hsl⟩ := C
  subst hn
  intro H locs ls hP hS hl
  exact lv_i2s hx hb hd h (k H locs ls hP hS hl)
theorem aw_i2l {a : Int} (C : CX X d own cc nL) (hd : decode cc pc = .ok (.i2l, 1)) (hn : pc + 1 = n) (h : rng a) (k : AW X cc nL n L (.inr (.inl a) :: st) (S)) : AW X cc nL pc L (.inl a :: st) S := by
  obtain ⟨p, l, e, R, s, m, args, below, meth, c, cells, slots, Q, dC, dI, dA, ad, A⟩ := X
  obtain ⟨hx, hb, hml, hown, hts, hK, hD, hA, hNw, hfr, hlo, hce, hsl⟩ := C
  subst hn
  intro H locs ls hP hS hl
  exact lv_i2l hx hb hd (Int32.toInt64_ofInt (by rw [show Int32.minValue.toInt = -2147483648 by decide]; exact h.1) (by rw [show Int32.maxValue.toInt = 2147483647 by decide]; exact h.2)) (k H locs ls hP hS hl)
theorem aw_lshl {a b r : Int} (C : CX X d own cc nL) (hd : decode cc pc = .ok (.lshl, 1)) (hn : pc + 1 = n) (h : Int64.ofInt a <<< ((Int32.ofInt b).toInt64 &&& 63) = Int64.ofInt r) (k : AW X cc nL n L (.inr (.inl r) :: st) (S)) : AW X cc nL pc L (.inl b :: .inr (.inl a) :: st) S := by
  obtain ⟨p, l, e, R, s, m, args, below, meth, c, cells, slots, Q, dC, dI, dA, ad, A⟩ := X
  obtain ⟨hx, hb, hml, hown, hts, hK, hD, hA, hNw, hfr, hlo, hce, hsl⟩ := C
  subst hn
  intro H locs ls hP hS hl
  exact lv_lshl hx hb hd h (k H locs ls hP hS hl)
theorem aw_ldiv {a b r : Int} (C : CX X d own cc nL) (hd : decode cc pc = .ok (.ldiv, 1)) (hn : pc + 1 = n) (h0 : ¬ Int64.ofInt b = 0) (h : Int64.ofInt a / Int64.ofInt b = Int64.ofInt r) (k : AW X cc nL n L (.inr (.inl r) :: st) (S)) : AW X cc nL pc L (.inr (.inl b) :: .inr (.inl a) :: st) S := by
  obtain ⟨p, l, e, R, s, m, args, below, meth, c, cells, slots, Q, dC, dI, dA, ad, A⟩ := X
  obtain ⟨hx, hb, hml, hown, hts, hK, hD, hA, hNw, hfr, hlo, hce, hsl⟩ := C
  subst hn
  intro H locs ls hP hS hl
  refine lv_ldiv hx hb hd h0 ?_
  rw [h]
  exact k H locs ls hP hS hl
theorem aw_lrem {a b r : Int} (C : CX X d own cc nL) (hd : decode cc pc = .ok (.lrem, 1)) (hn : pc + 1 = n) (h0 : ¬ Int64.ofInt b = 0) (h : Int64.ofInt a - Int64.ofInt a / Int64.ofInt b * Int64.ofInt b = Int64.ofInt r) (k : AW X cc nL n L (.inr (.inl r) :: st) (S)) : AW X cc nL pc L (.inr (.inl b) :: .inr (.inl a) :: st) S := by
  obtain ⟨p, l, e, R, s, m, args, below, meth, c, cells, slots, Q, dC, dI, dA, ad, A⟩ := X
  obtain ⟨hx, hb, hml, hown, hts, hK, hD, hA, hNw, hfr, hlo, hce, hsl⟩ := C
  subst hn
  intro H locs ls hP hS hl
  refine lv_lrem hx hb hd h0 ?_
  rw [h]
  exact k H locs ls hP hS hl
theorem aw_lcmp {a b r : Int} (C : CX X d own cc nL) (hd : decode cc pc = .ok (.lcmp, 1)) (hn : pc + 1 = n) (h : lg_cmp (Int64.ofInt a) (Int64.ofInt b) = Int32.ofInt r) (k : AW X cc nL n L (.inl r :: st) (S)) : AW X cc nL pc L (.inr (.inl b) :: .inr (.inl a) :: st) S := by
  obtain ⟨p, l, e, R, s, m, args, below, meth, c, cells, slots, Q, dC, dI, dA, ad, A⟩ := X
  obtain ⟨hx, hb, hml, hown, hts, hK, hD, hA, hNw, hfr, hlo, hce, hsl⟩ := C
  subst hn
  intro H locs ls hP hS hl
  refine W.lcmp hx hb hd ?_
  rw [h]
  exact k H locs ls hP hS hl
theorem aw_ldc2 {z : Int} {idx : Nat} {v : Int64} (C : CX X d own cc nL) (hd : decode cc pc = .ok (.ldc2_w idx, 3)) (hn : pc + 3 = n) (hw : Cond.constantLong own idx v ∈ am_BW) (h : v = Int64.ofInt z) (k : AW X cc nL n L (.inr (.inl z) :: st) (S)) : AW X cc nL pc L (st) S := by
  obtain ⟨p, l, e, R, s, m, args, below, meth, c, cells, slots, Q, dC, dI, dA, ad, A⟩ := X
  obtain ⟨hx, hb, hml, hown, hts, hK, hD, hA, hNw, hfr, hlo, hce, hsl⟩ := C
  subst hn
  intro H locs ls hP hS hl
  subst h
  exact lv_ldc2 hx hb hown (hts _ hw) hd (k H locs ls hP hS hl)
theorem aw_dup {v : AV} (C : CX X d own cc nL) (hd : decode cc pc = .ok (.dup, 1)) (hn : pc + 1 = n) (h : am_cat v = 1) (k : AW X cc nL n L (v :: v :: st) (S)) : AW X cc nL pc L (v :: st) S := by
  obtain ⟨p, l, e, R, s, m, args, below, meth, c, cells, slots, Q, dC, dI, dA, ad, A⟩ := X
  obtain ⟨hx, hb, hml, hown, hts, hK, hD, hA, hNw, hfr, hlo, hce, hsl⟩ := C
  subst hn
  intro H locs ls hP hS hl
  exact lv_dup hx hb hd ((am_cat_eq ad v).trans h) (k H locs ls hP hS hl)
theorem aw_dup2 {v u : AV} (C : CX X d own cc nL) (hd : decode cc pc = .ok (.dup2, 1)) (hn : pc + 1 = n) (h : am_cat v = 1) (h2 : am_cat u = 1) (k : AW X cc nL n L (v :: u :: v :: u :: st) (S)) : AW X cc nL pc L (v :: u :: st) S := by
  obtain ⟨p, l, e, R, s, m, args, below, meth, c, cells, slots, Q, dC, dI, dA, ad, A⟩ := X
  obtain ⟨hx, hb, hml, hown, hts, hK, hD, hA, hNw, hfr, hlo, hce, hsl⟩ := C
  subst hn
  intro H locs ls hP hS hl
  exact lv_dup2_11 hx hb hd ((am_cat_eq ad v).trans h) ((am_cat_eq ad u).trans h2) (k H locs ls hP hS hl)
theorem aw_goto {off : Int} {tgt : Nat} (C : CX X d own cc nL) (hd : decode cc pc = .ok (.goto off, 3)) (ht : (pc : Int) + off = (tgt : Int)) (k : AW X cc nL tgt L st S) : AW X cc nL pc L st S := by
  obtain ⟨p, l, e, R, s, m, args, below, meth, c, cells, slots, Q, dC, dI, dA, ad, A⟩ := X
  obtain ⟨hx, hb, hml, hown, hts, hK, hD, hA, hNw, hfr, hlo, hce, hsl⟩ := C
  intro H locs ls hP hS hl
  exact lv_goto hx hb hd ht (k H locs ls hP hS hl)
theorem aw_iceq {a b off : Int} {tgt : Nat} (C : CX X d own cc nL) (hd : decode cc pc = .ok (.if_icmp .eq off, 3)) (ht : (pc : Int) + off = (tgt : Int)) (hn : pc + 3 = n) (ha : rng a) (hb2 : rng b) (kt : a = b → AW X cc nL tgt L st S) (kf : ¬ a = b → AW X cc nL n L st S) : AW X cc nL pc L (.inl b :: .inl a :: st) S := by
  obtain ⟨p, l, e, R, s, m, args, below, meth, c, cells, slots, Q, dC, dI, dA, ad, A⟩ := X
  obtain ⟨hx, hb, hml, hown, hts, hK, hD, hA, hNw, hfr, hlo, hce, hsl⟩ := C
  subst hn
  intro H locs ls hP hS hl
  exact lv_icmp_eq hx hb hd ht (fun h => kt ((am_eq ha hb2).mp h) H locs ls hP hS hl) (fun h => kf ((mt (am_eq ha hb2).mpr h)) H locs ls hP hS hl)
theorem aw_ifeq {a off : Int} {tgt : Nat} (C : CX X d own cc nL) (hd : decode cc pc = .ok (.ifCond .eq off, 3)) (ht : (pc : Int) + off = (tgt : Int)) (hn : pc + 3 = n) (ha : rng a) (kt : a = 0 → AW X cc nL tgt L st S) (kf : ¬ a = 0 → AW X cc nL n L st S) : AW X cc nL pc L (.inl a :: st) S := by
  obtain ⟨p, l, e, R, s, m, args, below, meth, c, cells, slots, Q, dC, dI, dA, ad, A⟩ := X
  obtain ⟨hx, hb, hml, hown, hts, hK, hD, hA, hNw, hfr, hlo, hce, hsl⟩ := C
  subst hn
  intro H locs ls hP hS hl
  exact lv_if_eq hx hb hd ht (fun h => kt ((am_eq ha am_r0).mp h) H locs ls hP hS hl) (fun h => kf ((mt (am_eq ha am_r0).mpr h)) H locs ls hP hS hl)
theorem aw_icne {a b off : Int} {tgt : Nat} (C : CX X d own cc nL) (hd : decode cc pc = .ok (.if_icmp .ne off, 3)) (ht : (pc : Int) + off = (tgt : Int)) (hn : pc + 3 = n) (ha : rng a) (hb2 : rng b) (kt : ¬ a = b → AW X cc nL tgt L st S) (kf : a = b → AW X cc nL n L st S) : AW X cc nL pc L (.inl b :: .inl a :: st) S := by
  obtain ⟨p, l, e, R, s, m, args, below, meth, c, cells, slots, Q, dC, dI, dA, ad, A⟩ := X
  obtain ⟨hx, hb, hml, hown, hts, hK, hD, hA, hNw, hfr, hlo, hce, hsl⟩ := C
  subst hn
  intro H locs ls hP hS hl
  exact lv_icmp_ne hx hb hd ht (fun h => kt ((mt (am_eq ha hb2).mpr h)) H locs ls hP hS hl) (fun h => kf ((am_eq ha hb2).mp h) H locs ls hP hS hl)
theorem aw_ifne {a off : Int} {tgt : Nat} (C : CX X d own cc nL) (hd : decode cc pc = .ok (.ifCond .ne off, 3)) (ht : (pc : Int) + off = (tgt : Int)) (hn : pc + 3 = n) (ha : rng a) (kt : ¬ a = 0 → AW X cc nL tgt L st S) (kf : a = 0 → AW X cc nL n L st S) : AW X cc nL pc L (.inl a :: st) S := by
  obtain ⟨p, l, e, R, s, m, args, below, meth, c, cells, slots, Q, dC, dI, dA, ad, A⟩ := X
  obtain ⟨hx, hb, hml, hown, hts, hK, hD, hA, hNw, hfr, hlo, hce, hsl⟩ := C
  subst hn
  intro H locs ls hP hS hl
  exact lv_if_ne hx hb hd ht (fun h => kt ((mt (am_eq ha am_r0).mpr h)) H locs ls hP hS hl) (fun h => kf ((am_eq ha am_r0).mp h) H locs ls hP hS hl)
theorem aw_iclt {a b off : Int} {tgt : Nat} (C : CX X d own cc nL) (hd : decode cc pc = .ok (.if_icmp .lt off, 3)) (ht : (pc : Int) + off = (tgt : Int)) (hn : pc + 3 = n) (ha : rng a) (hb2 : rng b) (kt : a < b → AW X cc nL tgt L st S) (kf : b ≤ a → AW X cc nL n L st S) : AW X cc nL pc L (.inl b :: .inl a :: st) S := by
  obtain ⟨p, l, e, R, s, m, args, below, meth, c, cells, slots, Q, dC, dI, dA, ad, A⟩ := X
  obtain ⟨hx, hb, hml, hown, hts, hK, hD, hA, hNw, hfr, hlo, hce, hsl⟩ := C
  subst hn
  intro H locs ls hP hS hl
  exact lv_icmp_lt hx hb hd ht (fun h => kt ((am_lt ha hb2).mp h) H locs ls hP hS hl) (fun h => kf (Int.not_lt.mp (mt (am_lt ha hb2).mpr h)) H locs ls hP hS hl)
theorem aw_iflt {a off : Int} {tgt : Nat} (C : CX X d own cc nL) (hd : decode cc pc = .ok (.ifCond .lt off, 3)) (ht : (pc : Int) + off = (tgt : Int)) (hn : pc + 3 = n) (ha : rng a) (kt : a < 0 → AW X cc nL tgt L st S) (kf : 0 ≤ a → AW X cc nL n L st S) : AW X cc nL pc L (.inl a :: st) S := by
  obtain ⟨p, l, e, R, s, m, args, below, meth, c, cells, slots, Q, dC, dI, dA, ad, A⟩ := X
  obtain ⟨hx, hb, hml, hown, hts, hK, hD, hA, hNw, hfr, hlo, hce, hsl⟩ := C
  subst hn
  intro H locs ls hP hS hl
  exact lv_if_lt hx hb hd ht (fun h => kt ((am_lt ha am_r0).mp h) H locs ls hP hS hl) (fun h => kf (Int.not_lt.mp (mt (am_lt ha am_r0).mpr h)) H locs ls hP hS hl)
theorem aw_icge {a b off : Int} {tgt : Nat} (C : CX X d own cc nL) (hd : decode cc pc = .ok (.if_icmp .ge off, 3)) (ht : (pc : Int) + off = (tgt : Int)) (hn : pc + 3 = n) (ha : rng a) (hb2 : rng b) (kt : b ≤ a → AW X cc nL tgt L st S) (kf : a < b → AW X cc nL n L st S) : AW X cc nL pc L (.inl b :: .inl a :: st) S := by
  obtain ⟨p, l, e, R, s, m, args, below, meth, c, cells, slots, Q, dC, dI, dA, ad, A⟩ := X
  obtain ⟨hx, hb, hml, hown, hts, hK, hD, hA, hNw, hfr, hlo, hce, hsl⟩ := C
  subst hn
  intro H locs ls hP hS hl
  exact lv_icmp_ge hx hb hd ht (fun h => kt ((am_le hb2 ha).mp h) H locs ls hP hS hl) (fun h => kf (Int.not_le.mp (mt (am_le hb2 ha).mpr h)) H locs ls hP hS hl)
theorem aw_ifge {a off : Int} {tgt : Nat} (C : CX X d own cc nL) (hd : decode cc pc = .ok (.ifCond .ge off, 3)) (ht : (pc : Int) + off = (tgt : Int)) (hn : pc + 3 = n) (ha : rng a) (kt : 0 ≤ a → AW X cc nL tgt L st S) (kf : a < 0 → AW X cc nL n L st S) : AW X cc nL pc L (.inl a :: st) S := by
  obtain ⟨p, l, e, R, s, m, args, below, meth, c, cells, slots, Q, dC, dI, dA, ad, A⟩ := X
  obtain ⟨hx, hb, hml, hown, hts, hK, hD, hA, hNw, hfr, hlo, hce, hsl⟩ := C
  subst hn
  intro H locs ls hP hS hl
  exact lv_if_ge hx hb hd ht (fun h => kt ((am_le am_r0 ha).mp h) H locs ls hP hS hl) (fun h => kf (Int.not_le.mp (mt (am_le am_r0 ha).mpr h)) H locs ls hP hS hl)
theorem aw_icgt {a b off : Int} {tgt : Nat} (C : CX X d own cc nL) (hd : decode cc pc = .ok (.if_icmp .gt off, 3)) (ht : (pc : Int) + off = (tgt : Int)) (hn : pc + 3 = n) (ha : rng a) (hb2 : rng b) (kt : b < a → AW X cc nL tgt L st S) (kf : a ≤ b → AW X cc nL n L st S) : AW X cc nL pc L (.inl b :: .inl a :: st) S := by
  obtain ⟨p, l, e, R, s, m, args, below, meth, c, cells, slots, Q, dC, dI, dA, ad, A⟩ := X
  obtain ⟨hx, hb, hml, hown, hts, hK, hD, hA, hNw, hfr, hlo, hce, hsl⟩ := C
  subst hn
  intro H locs ls hP hS hl
  exact lv_icmp_gt hx hb hd ht (fun h => kt ((am_lt hb2 ha).mp h) H locs ls hP hS hl) (fun h => kf (Int.not_lt.mp (mt (am_lt hb2 ha).mpr h)) H locs ls hP hS hl)
theorem aw_ifgt {a off : Int} {tgt : Nat} (C : CX X d own cc nL) (hd : decode cc pc = .ok (.ifCond .gt off, 3)) (ht : (pc : Int) + off = (tgt : Int)) (hn : pc + 3 = n) (ha : rng a) (kt : 0 < a → AW X cc nL tgt L st S) (kf : a ≤ 0 → AW X cc nL n L st S) : AW X cc nL pc L (.inl a :: st) S := by
  obtain ⟨p, l, e, R, s, m, args, below, meth, c, cells, slots, Q, dC, dI, dA, ad, A⟩ := X
  obtain ⟨hx, hb, hml, hown, hts, hK, hD, hA, hNw, hfr, hlo, hce, hsl⟩ := C
  subst hn
  intro H locs ls hP hS hl
  exact lv_if_gt hx hb hd ht (fun h => kt ((am_lt am_r0 ha).mp h) H locs ls hP hS hl) (fun h => kf (Int.not_lt.mp (mt (am_lt am_r0 ha).mpr h)) H locs ls hP hS hl)
theorem aw_icle {a b off : Int} {tgt : Nat} (C : CX X d own cc nL) (hd : decode cc pc = .ok (.if_icmp .le off, 3)) (ht : (pc : Int) + off = (tgt : Int)) (hn : pc + 3 = n) (ha : rng a) (hb2 : rng b) (kt : a ≤ b → AW X cc nL tgt L st S) (kf : b < a → AW X cc nL n L st S) : AW X cc nL pc L (.inl b :: .inl a :: st) S := by
  obtain ⟨p, l, e, R, s, m, args, below, meth, c, cells, slots, Q, dC, dI, dA, ad, A⟩ := X
  obtain ⟨hx, hb, hml, hown, hts, hK, hD, hA, hNw, hfr, hlo, hce, hsl⟩ := C
  subst hn
  intro H locs ls hP hS hl
  exact lv_icmp_le hx hb hd ht (fun h => kt ((am_le ha hb2).mp h) H locs ls hP hS hl) (fun h => kf (Int.not_le.mp (mt (am_le ha hb2).mpr h)) H locs ls hP hS hl)
theorem aw_ifle {a off : Int} {tgt : Nat} (C : CX X d own cc nL) (hd : decode cc pc = .ok (.ifCond .le off, 3)) (ht : (pc : Int) + off = (tgt : Int)) (hn : pc + 3 = n) (ha : rng a) (kt : a ≤ 0 → AW X cc nL tgt L st S) (kf : 0 < a → AW X cc nL n L st S) : AW X cc nL pc L (.inl a :: st) S := by
  obtain ⟨p, l, e, R, s, m, args, below, meth, c, cells, slots, Q, dC, dI, dA, ad, A⟩ := X
  obtain ⟨hx, hb, hml, hown, hts, hK, hD, hA, hNw, hfr, hlo, hce, hsl⟩ := C
  subst hn
  intro H locs ls hP hS hl
  exact lv_if_le hx hb hd ht (fun h => kt ((am_le ha am_r0).mp h) H locs ls hP hS hl) (fun h => kf (Int.not_le.mp (mt (am_le ha am_r0).mpr h)) H locs ls hP hS hl)
theorem aw_iceqT {a b off : Int} {tgt : Nat} (C : CX X d own cc nL) (hd : decode cc pc = .ok (.if_icmp .eq off, 3)) (ht : (pc : Int) + off = (tgt : Int)) (h : a = b) (kt : AW X cc nL tgt L st S) : AW X cc nL pc L (.inl b :: .inl a :: st) S := by
  obtain ⟨p, l, e, R, s, m, args, below, meth, c, cells, slots, Q, dC, dI, dA, ad, A⟩ := X
  obtain ⟨hx, hb, hml, hown, hts, hK, hD, hA, hNw, hfr, hlo, hce, hsl⟩ := C
  intro H locs ls hP hS hl
  exact lv_icmp_eq hx hb hd ht (fun _ => kt H locs ls hP hS hl) (fun q => absurd (congrArg Int32.ofInt h) q)
theorem aw_tableIn {a dflt lo hi off : Int} {offs : Array Int} {len tgt : Nat} (C : CX X d own cc nL) (hd : decode cc pc = .ok (.tableswitch dflt lo hi offs, len)) (ha : rng a) (h1 : lo ≤ a) (h2 : a ≤ hi) (ho : offs[(a - lo).toNat]? = some off) (ht : (pc : Int) + off = (tgt : Int)) (k : AW X cc nL tgt L st S) : AW X cc nL pc L (.inl a :: st) S := by
  obtain ⟨p, l, e, R, s, m, args, below, meth, c, cells, slots, Q, dC, dI, dA, ad, A⟩ := X
  obtain ⟨hx, hb, hml, hown, hts, hK, hD, hA, hNw, hfr, hlo, hce, hsl⟩ := C
  intro H locs ls hP hS hl
  exact lv_tableIn hx hb hd (by rw [am_ti ha]; omega) (by rw [am_ti ha]; omega) (by rw [am_ti ha]; exact ho) ht (k H locs ls hP hS hl)
theorem aw_tableOut {a dflt lo hi : Int} {offs : Array Int} {len tgt : Nat} (C : CX X d own cc nL) (hd : decode cc pc = .ok (.tableswitch dflt lo hi offs, len)) (ha : rng a) (h : a < lo ∨ hi < a) (ht : (pc : Int) + dflt = (tgt : Int)) (k : AW X cc nL tgt L st S) : AW X cc nL pc L (.inl a :: st) S := by
  obtain ⟨p, l, e, R, s, m, args, below, meth, c, cells, slots, Q, dC, dI, dA, ad, A⟩ := X
  obtain ⟨hx, hb, hml, hown, hts, hK, hD, hA, hNw, hfr, hlo, hce, hsl⟩ := C
  intro H locs ls hP hS hl
  exact lv_tableOut hx hb hd (by rw [am_ti ha]; exact h) ht (k H locs ls hP hS hl)
theorem aw_lookup {a dflt off : Int} {ps : Array (Int × Int)} {len tgt : Nat} (C : CX X d own cc nL) (hd : decode cc pc = .ok (.lookupswitch dflt ps, len)) (ha : rng a) (hp : (ps.toList.zip (ps.toList.drop 1)).all (fun (a, next) => a.1 < next.1) = true) (ho : Op.lookupswitch.offset ps.toList dflt a = off) (ht : (pc : Int) + off = (tgt : Int)) (k : AW X cc nL tgt L st S) : AW X cc nL pc L (.inl a :: st) S := by
  obtain ⟨p, l, e, R, s, m, args, below, meth, c, cells, slots, Q, dC, dI, dA, ad, A⟩ := X
  obtain ⟨hx, hb, hml, hown, hts, hK, hD, hA, hNw, hfr, hlo, hce, hsl⟩ := C
  intro H locs ls hP hS hl
  exact lv_lookup hx hb hd hp (by rw [am_ti ha]; exact ho) ht (k H locs ls hP hS hl)
end AM1
