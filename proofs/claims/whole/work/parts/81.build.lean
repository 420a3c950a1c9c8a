/-! the builder: a machine whose world grows; for constructors -/
/-- rows of ints, of booleans, of rows; all new -/
abbrev aI (dA : Nat → ClassId) (n : Nat) : va_E := .inl (dA 0, n, .inl (fun _ => 0))
abbrev aZ (dA : Nat → ClassId) (n : Nat) : va_E := .inl (dA 1, n, .inl (fun _ => 0))
abbrev aR (dA : Nat → ClassId) (n q : Nat) : va_E := .inl (dA 3, n, .inr (.inr (.inr (.inr (fun j => if j < n then some (q + 1 + j) else none)))))
/-- the classes of rows, as the tables have them -/
def bm_G (dA : Nat → ClassId) (U : State) : Prop := ∃ (k3 k0 : Class) (cx : ClassId), U.vm.classes[dA 3]? = some k3 ∧ k3.kind = .array (dA 0) (.array .int) ∧ U.vm.findClass "[[I" = some (dA 3) ∧ U.vm.classes[dA 0]? = some k0 ∧ k0.kind = .array cx .int
theorem bm_G.moved {dA : Nat → ClassId} {u U : State} (hvm : u.vm.Alike U.vm) (h : bm_G dA u) : bm_G dA U := by
  obtain ⟨k3, k0, cx, h1, h2, h3, h4, h5⟩ := h
  obtain ⟨k3', g1, e1⟩ := hvm.2.2 _ _ h1
  obtain ⟨k0', g2, e2⟩ := hvm.2.2 _ _ h4
  exact ⟨k3', k0', cx, g1, by rw [e1]; exact h2, by rw [hvm.findClass]; exact h3, g2, by rw [e2]; exact h5⟩
/-- the links to nest mates' constructors -/
def bm_N (U : State) : Prop := va_Nw (.methodLinkNest RX6 17 yX3_init RX6) U ∧ va_Nw (.methodLinkNest RX6 20 yX5_init RX6) U ∧ va_Nw (.methodLinkNest RX6 30 yX1_init RX6) U ∧ va_AO "RegretLine$Sheet" U
def bm_E (dC : Nat → ClassId) (dI : Nat → Nat → Nat) (dA : Nat → ClassId) (U : State) : Prop := va_K (dC, dI) vwCl (am_ty dA) U ∧ bm_G dA U ∧ bm_N U
theorem bm_E.warm {dC : Nat → ClassId} {dI : Nat → Nat → Nat} {dA : Nat → ClassId} {s U : State} (hW : s.WarmedH U.vm) (h : bm_E dC dI dA s) : bm_E dC dI dA U := by
  obtain ⟨h1, h2, h3, h4, h5, h6⟩ := h
  exact ⟨va_K.moved hW.alike h1, h2.moved hW.alike, va_Nw.warmM hW h3, va_Nw.warmM hW h4, va_Nw.warmM hW h5, h6.moved hW.alike⟩
theorem bm_E.same {dC : Nat → ClassId} {dI : Nat → Nat → Nat} {dA : Nat → ClassId} {u U : State} (hv : u.vm = U.vm) (h : bm_E dC dI dA u) : bm_E dC dI dA U := by
  have hvm : u.vm.Alike U.vm := by rw [hv]; exact Vm.Alike.refl _
  obtain ⟨h1, h2, h3, h4, h5, h6⟩ := h
  exact ⟨va_K.moved hvm h1, h2.moved hvm, va_Nw.same rfl hv h3, va_Nw.same rfl hv h4, va_Nw.same rfl hv h5, h6.moved hvm⟩
abbrev BT := Program × Launch × Env × Room × State × MethodId × Array Value × List Frame × Method × Code × (State → Prop) × (Nat → ClassId) × (Nat → Nat → Nat) × (Nat → ClassId) × (Nat → Prop)
def bdA (X : BT) : Nat → ClassId := match X with
  | (_, _, _, _, _, _, _, _, _, _, _, _, _, dA, _) => dA
def BW (X : BT) (nL pc cells slots : Nat) (lv : List (Nat × Value)) (st : List Value) (ws : va_W) : Prop := match X with
  | (p, l, e, R, s, m, args, below, meth, c, Q, dC, dI, dA, A) => ∀ (H : Heap) (locs : List Loc) (ls : Array Slot), va_P (dC, dI) vwCl ws H → va_D A ws → va_S A s.heap H locs → lv_has ls nL lv → W p l e R s m args below meth c H locs cells slots Q (F0 m pc ls st)
def BX (X : BT) (d kc ks : Nat) (own : String) (cc : ByteArray) (nL : Nat) : Prop := match X with
  | (p, l, e, R, s, m, args, below, meth, c, Q, dC, dI, dA, A) => p.tables.exec = Jvm.exec ∧ c.code = cc ∧ c.maxLocals = nL ∧ s.vm.findClass own = some m.cls ∧ (∀ w ∈ am_BW, w.before args s = true) ∧ bm_E dC dI dA s ∧ (∀ q, s.heap.size ≤ q → A q) ∧ d ≤ R.frames ∧ 32 * d ≤ R.locals ∧ kc ≤ R.cells ∧ ks ≤ R.slots
def BI (X : BT) : Prop := match X with
  | (_, _, _, _, _, _, _, _, meth, _, _, _, _, _, _) => meth.name = "<init>"
section BLD
variable {X : BT} {d kc ks pc n nL cells slots : Nat} {own : String} {cc : ByteArray} {lv : List (Nat × Value)} {st : List Value} {ws : va_W}
theorem bw_ald {i : Fin 4} {a : Nat} (k : Nat) (C : BX X d kc ks own cc nL) (hd : decode cc pc = .ok (.aload_n i, 1)) (hn : pc + 1 = n) (hv : lv[k]? = some ((i : Nat), .ref a)) (kk : BW X nL n cells slots lv (.ref a :: st) ws) : BW X nL pc cells slots lv st ws := by
  obtain ⟨p, l, e, R, s, m, args, below, meth, c, Q, dC, dI, dA, A⟩ := X
  obtain ⟨hx, hb, hml, hown, hts, hE, hA, hfr, hlo, hce, hsl⟩ := C
  subst hn
  intro H locs ls hP hD hS hl
  exact lv_aload_n hx hb hd rfl (lv_at hl k hv) (kk H locs ls hP hD hS hl)
theorem bw_ild {i : Fin 4} {a : Int32} (k : Nat) (C : BX X d kc ks own cc nL) (hd : decode cc pc = .ok (.iload_n i, 1)) (hn : pc + 1 = n) (hv : lv[k]? = some ((i : Nat), .int a)) (kk : BW X nL n cells slots lv (.int a :: st) ws) : BW X nL pc cells slots lv st ws := by
  obtain ⟨p, l, e, R, s, m, args, below, meth, c, Q, dC, dI, dA, A⟩ := X
  obtain ⟨hx, hb, hml, hown, hts, hE, hA, hfr, hlo, hce, hsl⟩ := C
  subst hn
  intro H locs ls hP hD hS hl
  exact lv_iload_n hx hb hd rfl (lv_at hl k hv) (kk H locs ls hP hD hS hl)
theorem bw_ist {i : Fin 4} {a : Int32} {lv' : List (Nat × Value)} (C : BX X d kc ks own cc nL) (hd : decode cc pc = .ok (.istore_n i, 1)) (hn : pc + 1 = n) (hi : (i : Nat) < nL) (hl' : ((i : Nat), Value.int a) :: lv.filter (fun q => !(q.1 == (i : Nat)) && !(q.1 + 1 == (i : Nat) && q.2.category == 2)) = lv') (kk : BW X nL n cells slots lv' st ws) : BW X nL pc cells slots lv (.int a :: st) ws := by
  obtain ⟨p, l, e, R, s, m, args, below, meth, c, Q, dC, dI, dA, A⟩ := X
  obtain ⟨hx, hb, hml, hown, hts, hE, hA, hfr, hlo, hce, hsl⟩ := C
  subst hn
  intro H locs ls hP hD hS hl
  exact lv_istore_n hx hb hd rfl hl hi hl' (fun ls' h' => kk H locs ls' hP hD hS h')
theorem bw_ast {i : Fin 4} {a : Nat} {lv' : List (Nat × Value)} (C : BX X d kc ks own cc nL) (hd : decode cc pc = .ok (.astore_n i, 1)) (hn : pc + 1 = n) (hi : (i : Nat) < nL) (hl' : ((i : Nat), Value.ref a) :: lv.filter (fun q => !(q.1 == (i : Nat)) && !(q.1 + 1 == (i : Nat) && q.2.category == 2)) = lv') (kk : BW X nL n cells slots lv' st ws) : BW X nL pc cells slots lv (.ref a :: st) ws := by
  obtain ⟨p, l, e, R, s, m, args, below, meth, c, Q, dC, dI, dA, A⟩ := X
  obtain ⟨hx, hb, hml, hown, hts, hE, hA, hfr, hlo, hce, hsl⟩ := C
  subst hn
  intro H locs ls hP hD hS hl
  exact lv_astore_n hx hb hd rfl hl hi hl' (fun ls' h' => kk H locs ls' hP hD hS h')
theorem bw_iinc {i : Nat} {z : Int} {a b : Int32} {lv' : List (Nat × Value)} (k : Nat) (C : BX X d kc ks own cc nL) (hd : decode cc pc = .ok (.iinc i z, 3)) (hn : pc + 3 = n) (hv : lv[k]? = some (i, .int a)) (hz : a + Int32.ofInt z = b) (hi : i < nL) (hl' : (i, Value.int b) :: lv.filter (fun q => !(q.1 == i) && !(q.1 + 1 == i && q.2.category == 2)) = lv') (kk : BW X nL n cells slots lv' st ws) : BW X nL pc cells slots lv st ws := by
  obtain ⟨p, l, e, R, s, m, args, below, meth, c, Q, dC, dI, dA, A⟩ := X
  obtain ⟨hx, hb, hml, hown, hts, hE, hA, hfr, hlo, hce, hsl⟩ := C
  subst hn
  intro H locs ls hP hD hS hl
  exact lv_iinc (k := k) hx hb hd hl hv hz hi hl' (fun ls' h' => kk H locs ls' hP hD hS h')
theorem bw_goto {off : Int} {tgt : Nat} (C : BX X d kc ks own cc nL) (hd : decode cc pc = .ok (.goto off, 3)) (ht : (pc : Int) + off = (tgt : Int)) (kk : BW X nL tgt cells slots lv st ws) : BW X nL pc cells slots lv st ws := by
  obtain ⟨p, l, e, R, s, m, args, below, meth, c, Q, dC, dI, dA, A⟩ := X
  obtain ⟨hx, hb, hml, hown, hts, hE, hA, hfr, hlo, hce, hsl⟩ := C
  intro H locs ls hP hD hS hl
  exact lv_goto hx hb hd ht (kk H locs ls hP hD hS hl)
theorem bw_geT {a b : Int32} {off : Int} {tgt : Nat} (C : BX X d kc ks own cc nL) (hd : decode cc pc = .ok (.if_icmp .ge off, 3)) (ht : (pc : Int) + off = (tgt : Int)) (hab : b ≤ a) (kk : BW X nL tgt cells slots lv st ws) : BW X nL pc cells slots lv (.int b :: .int a :: st) ws := by
  obtain ⟨p, l, e, R, s, m, args, below, meth, c, Q, dC, dI, dA, A⟩ := X
  obtain ⟨hx, hb, hml, hown, hts, hE, hA, hfr, hlo, hce, hsl⟩ := C
  intro H locs ls hP hD hS hl
  exact lv_icmp_ge hx hb hd ht (fun _ => kk H locs ls hP hD hS hl) (fun h => absurd hab h)
theorem bw_geF {a b : Int32} {off : Int} {tgt : Nat} (C : BX X d kc ks own cc nL) (hd : decode cc pc = .ok (.if_icmp .ge off, 3)) (ht : (pc : Int) + off = (tgt : Int)) (hn : pc + 3 = n) (hab : ¬ b ≤ a) (kk : BW X nL n cells slots lv st ws) : BW X nL pc cells slots lv (.int b :: .int a :: st) ws := by
  obtain ⟨p, l, e, R, s, m, args, below, meth, c, Q, dC, dI, dA, A⟩ := X
  obtain ⟨hx, hb, hml, hown, hts, hE, hA, hfr, hlo, hce, hsl⟩ := C
  subst hn
  intro H locs ls hP hD hS hl
  exact lv_icmp_ge hx hb hd ht (fun h => absurd h hab) (fun _ => kk H locs ls hP hD hS hl)
theorem bw_iconst {z : Int} {v : Int32} (C : BX X d kc ks own cc nL) (hd : decode cc pc = .ok (.iconst z, 1)) (hn : pc + 1 = n) (hv : Int32.ofInt z = v) (kk : BW X nL n cells slots lv (.int v :: st) ws) : BW X nL pc cells slots lv st ws := by
  obtain ⟨p, l, e, R, s, m, args, below, meth, c, Q, dC, dI, dA, A⟩ := X
  obtain ⟨hx, hb, hml, hown, hts, hE, hA, hfr, hlo, hce, hsl⟩ := C
  subst hn
  intro H locs ls hP hD hS hl
  exact lv_iconst hx hb hd hv (kk H locs ls hP hD hS hl)
theorem bw_bipush {z : Int} {v : Int32} (C : BX X d kc ks own cc nL) (hd : decode cc pc = .ok (.bipush z, 2)) (hn : pc + 2 = n) (hv : (Int8.ofInt z).toInt32 = v) (kk : BW X nL n cells slots lv (.int v :: st) ws) : BW X nL pc cells slots lv st ws := by
  obtain ⟨p, l, e, R, s, m, args, below, meth, c, Q, dC, dI, dA, A⟩ := X
  obtain ⟨hx, hb, hml, hown, hts, hE, hA, hfr, hlo, hce, hsl⟩ := C
  subst hn
  intro H locs ls hP hD hS hl
  exact lv_bipush hx hb hd hv (kk H locs ls hP hD hS hl)
theorem bw_sipush {z : Int} {v : Int32} (C : BX X d kc ks own cc nL) (hd : decode cc pc = .ok (.sipush z, 3)) (hn : pc + 3 = n) (hv : (Int16.ofInt z).toInt32 = v) (kk : BW X nL n cells slots lv (.int v :: st) ws) : BW X nL pc cells slots lv st ws := by
  obtain ⟨p, l, e, R, s, m, args, below, meth, c, Q, dC, dI, dA, A⟩ := X
  obtain ⟨hx, hb, hml, hown, hts, hE, hA, hfr, hlo, hce, hsl⟩ := C
  subst hn
  intro H locs ls hP hD hS hl
  exact lv_sipush hx hb hd hv (kk H locs ls hP hD hS hl)
theorem bw_dup {v : Value} (C : BX X d kc ks own cc nL) (hd : decode cc pc = .ok (.dup, 1)) (hn : pc + 1 = n) (hv : v.category = 1) (kk : BW X nL n cells slots lv (v :: v :: st) ws) : BW X nL pc cells slots lv (v :: st) ws := by
  obtain ⟨p, l, e, R, s, m, args, below, meth, c, Q, dC, dI, dA, A⟩ := X
  obtain ⟨hx, hb, hml, hown, hts, hE, hA, hfr, hlo, hce, hsl⟩ := C
  subst hn
  intro H locs ls hP hD hS hl
  exact lv_dup hx hb hd hv (kk H locs ls hP hD hS hl)
theorem bw_obj {a idx : Nat} (C : BX X d kc ks own cc nL) (hd : decode cc pc = .ok (.invokespecial idx, 3)) (hn : pc + 3 = n) (hlk : Cond.methodLink own idx objectInit ∈ am_BW) (hdd : 0 < d) (hroom : (st.map fun v => v.category).sum ≤ 8) (kk : BW X nL n cells slots lv st ws) : BW X nL pc cells slots lv (.ref a :: st) ws := by
  obtain ⟨p, l, e, R, s, m, args, below, meth, c, Q, dC, dI, dA, A⟩ := X
  obtain ⟨hx, hb, hml, hown, hts, hE, hA, hfr, hlo, hce, hsl⟩ := C
  subst hn
  intro H locs ls hP hD hS hl
  have hr := lv_room (m := m) (pc := pc) (ls := ls) (rest := .ref a :: st) hroom
  exact W.objInit hx hb hown (hts _ hlk) (hts _ wN_objectInit) (hts _ wC_objectInit) rfl (by rw [hml]; exact hl.1) rfl hd (by omega) (by omega) (kk H locs ls hP hD hS hl)
theorem bw_new {idx ci N c1 s1 : Nat} {Cn : String} {T : u_T} {fs : List Value} (ty : Nat → FieldType) (C : BX X d kc ks own cc nL) (hd : decode cc pc = .ok (.new idx, 3)) (hn : pc + 3 = n) (hcl : Cond.classLink own idx Cn ∈ am_BW) (hinst : Cond.instantiable Cn N ∈ am_BW) (hini : Cond.initialized Cn ∈ am_BW) (hin : ∀ w ∈ u_ws Cn T N, w ∈ am_BW) (hty : ∀ k, k < N → parseFieldDescriptor (T k).2.2.1 = some (ty k)) (hc : vwCl[ci]? = some (Cn, T, N)) (hfs : ∀ j, j < N → defaultValue (ty j) = vp_V fs j) (e1 : cells + 1 = c1) (e2 : slots + N = s1) (h1 : c1 ≤ kc) (h2 : s1 ≤ ks)
    (kk : ∀ q : Nat, BW X nL n c1 s1 lv (.ref q :: st) (ws ++ [(q, .inr (ci, fs))])) : BW X nL pc cells slots lv st ws := by
  obtain ⟨p, l, e, R, s, m, args, below, meth, c, Q, dC, dI, dA, A⟩ := X
  obtain ⟨hx, hb, hml, hown, hts, hE, hA, hfr, hlo, hce, hsl⟩ := C
  subst hn; subst e1; subst e2
  intro H locs ls hP hD hS hl
  exact va_new hx hb hts hin ty hty hown (hts _ hcl) (hts _ hinst) (hts _ hini) hE.1 hP hD hS hA hc hfs (by omega) (by omega) hd (fun q H1 hP1 hD1 hS1 => kk q H1 locs ls hP1 hD1 hS1 hl)
theorem bm_c0 {dC : Nat → ClassId} {dI : Nat → Nat → Nat} {dA : Nat → ClassId} {s : State} {cA : ClassId} (h : va_K (dC, dI) vwCl (am_ty dA ++ [(cA, .int)]) s) : cA = dA 0 := Option.some.inj ((show s.vm.findClass ("[" ++ FieldType.int.toString) = some cA from (h.2 4 _ rfl).2).symm.trans (h.2 0 _ rfl).2)
theorem bm_c1 {dC : Nat → ClassId} {dI : Nat → Nat → Nat} {dA : Nat → ClassId} {s : State} {cA : ClassId} (h : va_K (dC, dI) vwCl (am_ty dA ++ [(cA, .boolean)]) s) : cA = dA 1 := Option.some.inj ((show s.vm.findClass ("[" ++ FieldType.boolean.toString) = some cA from (h.2 4 _ rfl).2).symm.trans (h.2 1 _ rfl).2)
theorem bw_newi {N c1 s1 : Nat} {v : Int32} (C : BX X d kc ks own cc nL) (hd : decode cc pc = .ok (.newarray .int, 2)) (hn : pc + 2 = n) (hv : ¬ v < 0) (hN : v.toNatClampNeg = N) (hbt : N * 4 ≤ 536870912) (e1 : cells + 1 = c1) (e2 : slots + N = s1) (h1 : c1 ≤ kc) (h2 : s1 ≤ ks)
    (kk : ∀ q : Nat, BW X nL n c1 s1 lv (.ref q :: st) (ws ++ [(q, aI (bdA X) N)])) : BW X nL pc cells slots lv (.int v :: st) ws := by
  obtain ⟨p, l, e, R, s, m, args, below, meth, c, Q, dC, dI, dA, A⟩ := X
  obtain ⟨hx, hb, hml, hown, hts, hE, hA, hfr, hlo, hce, hsl⟩ := C
  subst hn; subst e1; subst e2
  intro H locs ls hP hD hS hl
  refine va_newa (atype := .int) (ty := .int) (a0 := (N, .inl (fun _ => 0))) hx hb (hts _ wA_int) rfl hE.1 hP hD hS hA (fun _ => rfl) hv hN hbt (by omega) (by omega) hd (fun q cA H1 hK1 hP1 hD1 hS1 => ?_)
  cases bm_c0 hK1
  exact kk q H1 locs ls hP1 hD1 hS1 hl
theorem bw_newz {N c1 s1 : Nat} {v : Int32} (C : BX X d kc ks own cc nL) (hd : decode cc pc = .ok (.newarray .boolean, 2)) (hn : pc + 2 = n) (hv : ¬ v < 0) (hN : v.toNatClampNeg = N) (hbt : N * 1 ≤ 536870912) (e1 : cells + 1 = c1) (e2 : slots + N = s1) (h1 : c1 ≤ kc) (h2 : s1 ≤ ks)
    (kk : ∀ q : Nat, BW X nL n c1 s1 lv (.ref q :: st) (ws ++ [(q, aZ (bdA X) N)])) : BW X nL pc cells slots lv (.int v :: st) ws := by
  obtain ⟨p, l, e, R, s, m, args, below, meth, c, Q, dC, dI, dA, A⟩ := X
  obtain ⟨hx, hb, hml, hown, hts, hE, hA, hfr, hlo, hce, hsl⟩ := C
  subst hn; subst e1; subst e2
  intro H locs ls hP hD hS hl
  refine va_newa (atype := .boolean) (ty := .boolean) (a0 := (N, .inl (fun _ => 0))) hx hb (hts _ wA_boolean) rfl hE.1 hP hD hS hA (fun _ => rfl) hv hN hbt (by omega) (by omega) hd (fun q cA H1 hK1 hP1 hD1 hS1 => ?_)
  cases bm_c1 hK1
  exact kk q H1 locs ls hP1 hD1 hS1 hl
end BLD
