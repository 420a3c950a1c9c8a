/-! the abstract machine, second part: cells, calls, ends -/
def am_nOk (x : Nat ⊕ (Nat × Nat)) : Bool := match x with
  | .inl _ => true
  | .inr q => Nat.ble q.2 729
theorem am_shL_ok : am_shL.all am_nOk = true := by decide +kernel
theorem am_len {c ty n : Nat} (h : shk c = .inr (ty, n)) : n ≤ 729 := by
  unfold shk at h
  rw [List.getD_eq_getElem?_getD] at h
  cases hc : am_shL[c]? with
  | none => rw [hc] at h; cases h; decide
  | some x =>
    rw [hc] at h
    have h1 := List.all_eq_true.mp am_shL_ok x (List.mem_of_getElem? hc)
    have h2 : x = .inr (ty, n) := h
    subst h2
    exact Nat.le_of_ble_eq_true h1
theorem am_lt_n {c ty n : Nat} (h : shk c = .inr (ty, n)) (hn : 0 < n) : c < 87 := am_lt_87 (by rw [h]; intro q; cases q; omega)
theorem am_lt_o {c ci : Nat} (h : shk c = .inl ci) : c < 87 := am_lt_87 (by rw [h]; intro q; cases q)
theorem am_E_o {dA : Nat → ClassId} {ad : Nat → Nat} {S : Mem} {c ci : Nat} (h : shk c = .inl ci) : am_E dA ad S c = .inr (ci, (List.range (am_N ci)).map (fun j => am_s ad (shf c j) (S c (j : Int)))) := by
  unfold am_E
  rw [h]
theorem am_E_i {dA : Nat → ClassId} {ad : Nat → Nat} {S : Mem} {c ty n : Nat} (h : shk c = .inr (ty, n)) (ht : ty < 2) : am_E dA ad S c = .inl (dA ty, n, .inl (fun i => Int32.ofInt (S c (i : Int)))) := by
  unfold am_E
  rw [h]
  show (Sum.inl (dA ty, n, if ty < 2 then _ else _) : va_E) = _
  rw [if_pos ht]
theorem am_E_r {dA : Nat → ClassId} {ad : Nat → Nat} {S : Mem} {c ty n : Nat} (h : shk c = .inr (ty, n)) (ht : ¬ ty < 2) : am_E dA ad S c = .inl (dA ty, n, .inr (.inr (.inr (.inr (fun i => (shf c i).map ad))))) := by
  unfold am_E
  rw [h]
  show (Sum.inl (dA ty, n, if ty < 2 then _ else _) : va_E) = _
  rw [if_neg ht]
/-- a field's words: the class's number ci, the field's place k -/
def am_FL (own : String) (idx ci k : Nat) : Prop := ∃ (C : String) (T : u_T) (N : Nat), vwCl[ci]? = some (C, T, N) ∧ (∀ w ∈ u_ws C T N, w ∈ am_BW) ∧ k < N ∧ Cond.fieldLink own idx (T k).1 (T k).2.1 (T k).2.2.1 ∈ am_BW
def am_FP (own : String) (idx ci k : Nat) (ty : FieldType) : Prop := ∃ (C : String) (T : u_T) (N : Nat) (ty0 : Nat → FieldType), vwCl[ci]? = some (C, T, N) ∧ (∀ w ∈ u_ws C T N, w ∈ am_BW) ∧ k < N ∧ Cond.fieldLink own idx (T k).1 (T k).2.1 (T k).2.2.1 ∈ am_BW ∧ (T k).2.2.2 = false ∧ parseFieldDescriptor (T k).2.2.1 = some ty ∧ (∀ k, k < N → parseFieldDescriptor (T k).2.2.1 = some (ty0 k)) ∧ ∀ a, a < N → ∀ b, b < N → a ≠ b → (T a).2.1 ≠ (T b).2.1
theorem am_N_of {ci : Nat} {C : String} {T : u_T} {N : Nat} (h : vwCl[ci]? = some (C, T, N)) : am_N ci = N := by
  unfold am_N
  rw [h]
  rfl
section AM2
variable {X : AMX} {d pc n nL : Nat} {own : String} {cc : ByteArray} {L : List (Option AV)} {st : List AV} {S : Mem}
theorem aw_getI {c ci k idx : Nat} {z : Int} (C : CX X d own cc nL) (hd : decode cc pc = .ok (.getfield idx, 3)) (hn : pc + 3 = n) (hF : am_FL own idx ci k) (hs : shk c = .inl ci) (hr : shf c k = none) (hz : z = ((k : Nat) : Int)) (kk : AW X cc nL n L (.inl (S c z) :: st) S) : AW X cc nL pc L (.inr (.inr c) :: st) S := by
  obtain ⟨p, l, e, R, s, m, args, below, meth, c0, cells, slots, Q, dC, dI, dA, ad, A⟩ := X
  obtain ⟨hx, hb, hml, hown, hts, hK, hD, hA, hNw, hfr, hlo, hce, hsl⟩ := C
  subst hn; subst hz
  intro H locs ls hP hS hl
  obtain ⟨Cn, T, N, f1, f2, f3, f4⟩ := hF
  refine va_get (D := (dC, dI)) hx hb hts f2 hown hK hP c ((am_W_at (am_lt_o hs)).trans (by rw [am_E_o hs])) f1 k f3 (hts _ f4) (fun _ h => h) (v := .int (Int32.ofInt (S c (k : Int)))) ?_ hd (kk H locs ls hP hS hl)
  rw [List.getElem?_map, List.getElem?_range (by rw [am_N_of f1]; exact f3)]
  show some (am_s ad (shf c k) _) = _
  rw [hr]
  rfl
theorem aw_getR {c ci k idx t : Nat} (C : CX X d own cc nL) (hd : decode cc pc = .ok (.getfield idx, 3)) (hn : pc + 3 = n) (hF : am_FL own idx ci k) (hs : shk c = .inl ci) (hr : shf c k = some t) (kk : AW X cc nL n L (.inr (.inr t) :: st) S) : AW X cc nL pc L (.inr (.inr c) :: st) S := by
  obtain ⟨p, l, e, R, s, m, args, below, meth, c0, cells, slots, Q, dC, dI, dA, ad, A⟩ := X
  obtain ⟨hx, hb, hml, hown, hts, hK, hD, hA, hNw, hfr, hlo, hce, hsl⟩ := C
  subst hn
  intro H locs ls hP hS hl
  obtain ⟨Cn, T, N, f1, f2, f3, f4⟩ := hF
  refine va_get (D := (dC, dI)) hx hb hts f2 hown hK hP c ((am_W_at (am_lt_o hs)).trans (by rw [am_E_o hs])) f1 k f3 (hts _ f4) (fun _ h => h) (v := .ref (ad t)) ?_ hd (kk H locs ls hP hS hl)
  rw [List.getElem?_map, List.getElem?_range (by rw [am_N_of f1]; exact f3)]
  show some (am_s ad (shf c k) _) = _
  rw [hr]
  rfl
theorem am_E_put {dA : Nat → ClassId} {ad : Nat → Nat} {S : Mem} {c ci k : Nat} {a : Int} (hs : shk c = .inl ci) (hr : shf c k = none) : am_E dA ad (st2 S c ((k : Nat) : Int) a) c = .inr (ci, ((List.range (am_N ci)).map (fun j => am_s ad (shf c j) (S c (j : Int)))).set k (.int (Int32.ofInt a))) := by
  rw [am_E_o hs]
  congr 2
  apply List.ext_getElem?
  intro j
  by_cases hjk : j = k
  · subst hjk
    rw [List.getElem?_map, List.getElem?_set]
    by_cases hj : j < am_N ci
    · rw [List.getElem?_range hj]
      simp [hj, hr, am_s, st2]
    · rw [List.getElem?_eq_none (by simp; omega)]
      simp [hj]
  · rw [List.getElem?_set_ne (Ne.symm hjk), List.getElem?_map, List.getElem?_map]
    by_cases hj : j < am_N ci
    · rw [List.getElem?_range hj]
      simp [st2, show ¬ ((j : Int) = (k : Int)) by omega]
    · rw [List.getElem?_eq_none (by simp; omega)]
      rfl
theorem aw_put {c ci k idx : Nat} {z a : Int} {ty : FieldType} (C : CX X d own cc nL) (hd : decode cc pc = .ok (.putfield idx, 3)) (hn : pc + 3 = n) (hF : am_FP own idx ci k ty) (hs : shk c = .inl ci) (hr : shf c k = none) (hz : z = ((k : Nat) : Int)) (hty : ty = .int ∨ (ty = .boolean ∧ (a = 0 ∨ a = 1))) (kk : AW X cc nL n L st (st2 S c z a)) : AW X cc nL pc L (.inl a :: .inr (.inr c) :: st) S := by
  obtain ⟨p, l, e, R, s, m, args, below, meth, c0, cells, slots, Q, dC, dI, dA, ad, A⟩ := X
  obtain ⟨hx, hb, hml, hown, hts, hK, hD, hA, hNw, hfr, hlo, hce, hsl⟩ := C
  subst hn; subst hz
  intro H locs ls hP hS hl
  obtain ⟨Cn, T, N, ty0, f1, f2, f3, f4, f5, f6, f7, f8⟩ := hF
  refine va_put (D := (dC, dI)) (v := .int (Int32.ofInt a)) hx hb hts f2 ty0 f7 f8 hown hK hP (hD S) hS c ((am_W_at (am_lt_o hs)).trans (by rw [am_E_o hs])) f1 k f3 (hts _ f4) (fun _ h => h) f5 f6 ?_ ?_ (by simp [am_N_of f1, f3]) hd (fun H1 locs1 hP1 hD1 hS1 => kk H1 locs1 ls ?_ hS1 hl)
  · rcases hty with rfl | ⟨rfl, rfl | rfl⟩ <;> rfl
  · rcases hty with rfl | ⟨rfl, rfl | rfl⟩ <;> rfl
  · rw [am_W_set (am_E_put hs hr) st2_o] at hP1
    exact hP1
theorem aw_iald {c len : Nat} {i : Int} (C : CX X d own cc nL) (hd : decode cc pc = .ok (.iaload, 1)) (hn : pc + 1 = n) (hs : shk c = .inr (0, len)) (h0 : 0 ≤ i) (h1 : i < len) (kk : AW X cc nL n L (.inl (S c i) :: st) S) : AW X cc nL pc L (.inl i :: .inr (.inr c) :: st) S := by
  obtain ⟨p, l, e, R, s, m, args, below, meth, c0, cells, slots, Q, dC, dI, dA, ad, A⟩ := X
  obtain ⟨hx, hb, hml, hown, hts, hK, hD, hA, hNw, hfr, hlo, hce, hsl⟩ := C
  subst hn
  intro H locs ls hP hS hl
  have hlen := am_len hs
  refine va_iald (D := (dC, dI)) hx hb hK hP c 0 ((am_W_at (am_lt_n hs (by omega))).trans (by rw [am_E_i hs (by decide)])) rfl (am_in h0 h1 (by omega)) hd ?_
  rw [am_cl h0 (by omega), Int.toNat_of_nonneg h0]
  exact kk H locs ls hP hS hl
theorem aw_zald {c len : Nat} {i : Int} (C : CX X d own cc nL) (hd : decode cc pc = .ok (.baload, 1)) (hn : pc + 1 = n) (hs : shk c = .inr (1, len)) (h0 : 0 ≤ i) (h1 : i < len) (kk : AW X cc nL n L (.inl (S c i) :: st) S) : AW X cc nL pc L (.inl i :: .inr (.inr c) :: st) S := by
  obtain ⟨p, l, e, R, s, m, args, below, meth, c0, cells, slots, Q, dC, dI, dA, ad, A⟩ := X
  obtain ⟨hx, hb, hml, hown, hts, hK, hD, hA, hNw, hfr, hlo, hce, hsl⟩ := C
  subst hn
  intro H locs ls hP hS hl
  have hlen := am_len hs
  refine va_zald (D := (dC, dI)) hx hb hK hP c 1 ((am_W_at (am_lt_n hs (by omega))).trans (by rw [am_E_i hs (by decide)])) rfl (am_in h0 h1 (by omega)) hd ?_
  rw [am_cl h0 (by omega), Int.toNat_of_nonneg h0]
  exact kk H locs ls hP hS hl
theorem am_E_st {dA : Nat → ClassId} {ad : Nat → Nat} {S : Mem} {c ty len : Nat} {i a : Int} (hs : shk c = .inr (ty, len)) (ht : ty < 2) (h0 : 0 ≤ i) : am_E dA ad (st2 S c i a) c = .inl (dA ty, len, .inl (upd (fun i => Int32.ofInt (S c (i : Int))) i.toNat (Int32.ofInt a))) := by
  rw [am_E_i hs ht]
  congr 3
  congr 1
  funext j
  unfold upd st2
  by_cases hj : (j : Int) = i
  · rw [if_pos ⟨rfl, hj⟩, if_pos (by omega)]
  · rw [if_neg (fun q => hj q.2), if_neg (by omega)]
theorem aw_iast {c len : Nat} {i a : Int} (C : CX X d own cc nL) (hd : decode cc pc = .ok (.iastore, 1)) (hn : pc + 1 = n) (hs : shk c = .inr (0, len)) (h0 : 0 ≤ i) (h1 : i < len) (kk : AW X cc nL n L st (st2 S c i a)) : AW X cc nL pc L (.inl a :: .inl i :: .inr (.inr c) :: st) S := by
  obtain ⟨p, l, e, R, s, m, args, below, meth, c0, cells, slots, Q, dC, dI, dA, ad, A⟩ := X
  obtain ⟨hx, hb, hml, hown, hts, hK, hD, hA, hNw, hfr, hlo, hce, hsl⟩ := C
  subst hn
  intro H locs ls hP hS hl
  have hlen := am_len hs
  refine va_iast (D := (dC, dI)) hx hb hK hP (hD S) hS c 0 ((am_W_at (am_lt_n hs (by omega))).trans (by rw [am_E_i hs (by decide)])) rfl (am_in h0 h1 (by omega)) hd (fun H1 locs1 hP1 hD1 hS1 => kk H1 locs1 ls ?_ hS1 hl)
  rw [am_cl h0 (by omega), am_W_set (am_E_st hs (by decide) h0) st2_o] at hP1
  exact hP1
theorem aw_zast {c len : Nat} {i a : Int} (C : CX X d own cc nL) (hd : decode cc pc = .ok (.bastore, 1)) (hn : pc + 1 = n) (hs : shk c = .inr (1, len)) (h0 : 0 ≤ i) (h1 : i < len) (ha : a = 0 ∨ a = 1) (kk : AW X cc nL n L st (st2 S c i a)) : AW X cc nL pc L (.inl a :: .inl i :: .inr (.inr c) :: st) S := by
  obtain ⟨p, l, e, R, s, m, args, below, meth, c0, cells, slots, Q, dC, dI, dA, ad, A⟩ := X
  obtain ⟨hx, hb, hml, hown, hts, hK, hD, hA, hNw, hfr, hlo, hce, hsl⟩ := C
  subst hn
  intro H locs ls hP hS hl
  have hlen := am_len hs
  have hna : vp_nar .boolean (Int32.ofInt a) = Int32.ofInt a := by rcases ha with rfl | rfl <;> rfl
  refine va_zast (D := (dC, dI)) hx hb hK hP (hD S) hS c 1 ((am_W_at (am_lt_n hs (by omega))).trans (by rw [am_E_i hs (by decide)])) rfl (am_in h0 h1 (by omega)) hd (fun H1 locs1 hP1 hD1 hS1 => kk H1 locs1 ls ?_ hS1 hl)
  rw [hna, am_cl h0 (by omega), am_W_set (am_E_st hs (by decide) h0) st2_o] at hP1
  exact hP1
theorem aw_aald {c ty len j t : Nat} {i : Int} (C : CX X d own cc nL) (hd : decode cc pc = .ok (.aaload, 1)) (hn : pc + 1 = n) (hs : shk c = .inr (ty, len)) (hty : ty = 2 ∨ ty = 3) (hi : i = ((j : Nat) : Int)) (hj : j < len) (hr : shf c j = some t) (kk : AW X cc nL n L (.inr (.inr t) :: st) S) : AW X cc nL pc L (.inl i :: .inr (.inr c) :: st) S := by
  obtain ⟨p, l, e, R, s, m, args, below, meth, c0, cells, slots, Q, dC, dI, dA, ad, A⟩ := X
  obtain ⟨hx, hb, hml, hown, hts, hK, hD, hA, hNw, hfr, hlo, hce, hsl⟩ := C
  subst hn; subst hi
  intro H locs ls hP hS hl
  have hlen := am_len hs
  have hin := am_in (a := (j : Int)) (n := len) (by omega) (by omega) (by omega)
  have hcl : (Int32.ofInt (j : Int)).toNatClampNeg = j := by rw [am_cl (by omega) (by omega)]; omega
  have hat := (am_W_at (dA := dA) (ad := ad) (S := S) (am_lt_n hs (by omega))).trans (by rw [am_E_r hs (by omega)])
  have hk := kk H locs ls hP hS hl
  rcases hty with rfl | rfl
  · refine va_aldq (D := (dC, dI)) hx hb hK hP c 2 hat rfl hin hd ?_
    rw [hcl]
    show W p l e R s m args below meth c0 H locs cells slots Q (F0 m (pc + 1) ls (va_rf ((shf c j).map ad) :: _))
    rw [hr]
    exact hk
  · refine W.aald (v := va_rf ((shf c j).map ad)) (ty := .array .int) hx hb (hP c _ hat) ((hK.2 3 _ rfl).1 len (fun j => va_rf ((shf c j).map ad))) rfl (fun q => by cases q) (by show ¬ (_ ∨ (arrV _ _ _).slots.size ≤ _); rw [arrV_size]; exact hin) (by show (arrV _ _ _).slots[_]? = _; rw [hcl, arrV_read _ _ hj]) rfl rfl hd ?_
    rw [hr]
    exact hk
theorem aw_alen {c ty len : Nat} {z : Int} (C : CX X d own cc nL) (hd : decode cc pc = .ok (.arraylength, 1)) (hn : pc + 1 = n) (hs : shk c = .inr (ty, len)) (hl0 : 0 < len) (ht : ty < 2) (hz : z = ((len : Nat) : Int)) (kk : AW X cc nL n L (.inl z :: st) S) : AW X cc nL pc L (.inr (.inr c) :: st) S := by
  obtain ⟨p, l, e, R, s, m, args, below, meth, c0, cells, slots, Q, dC, dI, dA, ad, A⟩ := X
  obtain ⟨hx, hb, hml, hown, hts, hK, hD, hA, hNw, hfr, hlo, hce, hsl⟩ := C
  subst hn; subst hz
  intro H locs ls hP hS hl
  have h2 : ty = 0 ∨ ty = 1 := by omega
  have hv : Int32.ofNat len = Int32.ofInt (len : Int) := Int32.ofInt_eq_ofNat.symm
  rcases h2 with rfl | rfl
  · exact va_alen (D := (dC, dI)) hx hb hK hP c 0 ((am_W_at (am_lt_n hs hl0)).trans (by rw [am_E_i hs ht])) (ty := .int) rfl hv hd (kk H locs ls hP hS hl)
  · exact va_alen (D := (dC, dI)) hx hb hK hP c 1 ((am_W_at (am_lt_n hs hl0)).trans (by rw [am_E_i hs ht])) (ty := .boolean) rfl hv hd (kk H locs ls hP hS hl)
theorem am_max {a b : Int} (ha : rng a) (hb : rng b) : (if Int32.ofInt a < Int32.ofInt b then Int32.ofInt b else Int32.ofInt a) = Int32.ofInt (max a b) := by
  by_cases h : a < b
  · rw [if_pos ((am_lt ha hb).mpr h), Int.max_eq_right (Int.le_of_lt h)]
  · rw [if_neg (mt (am_lt ha hb).mp h), Int.max_eq_left (Int.not_lt.mp h)]
theorem am_min {a b : Int} (ha : rng a) (hb : rng b) : (if Int32.ofInt b < Int32.ofInt a then Int32.ofInt b else Int32.ofInt a) = Int32.ofInt (min a b) := by
  by_cases h : b < a
  · rw [if_pos ((am_lt hb ha).mpr h), Int.min_eq_right (Int.le_of_lt h)]
  · rw [if_neg (mt (am_lt hb ha).mp h), Int.min_eq_left (Int.not_lt.mp h)]
theorem aw_mmax {idx : Nat} {a b : Int} (C : CX X d own cc nL) (hd : decode cc pc = .ok (.invokestatic idx, 3)) (hn : pc + 3 = n) (hlk : Cond.methodLink own idx Lib.Math.max.name ∈ am_BW) (h1 : Cond.static Lib.Math.max.name ∈ am_BW) (h2 : Cond.initialized "java/lang/Math" ∈ am_BW) (h3 : Cond.code Lib.Math.max.name Lib.Math.max.code 2 (some .int) ∈ am_BW) (hdd : 0 < d) (hroom : (st.map am_cat).sum ≤ 8) (ha : rng a) (hb2 : rng b) (kk : AW X cc nL n L (.inl (max a b) :: st) S) : AW X cc nL pc L (.inl b :: .inl a :: st) S := by
  obtain ⟨p, l, e, R, s, m, args, below, meth, c0, cells, slots, Q, dC, dI, dA, ad, A⟩ := X
  obtain ⟨hx, hb, hml, hown, hts, hK, hD, hA, hNw, hfr, hlo, hce, hsl⟩ := C
  subst hn
  intro H locs ls hP hS hl
  refine va_mmax hx hb (hml.trans hl.1.1.symm) hown (hts _ hlk) (hts _ h1) (hts _ h2) (hts _ h3) (by omega) (by rw [am_cats]; omega) hce hsl hd ?_
  rw [am_max ha hb2]
  exact kk H locs ls hP hS hl
theorem aw_mmin {idx : Nat} {a b : Int} (C : CX X d own cc nL) (hd : decode cc pc = .ok (.invokestatic idx, 3)) (hn : pc + 3 = n) (hlk : Cond.methodLink own idx Lib.Math.min.name ∈ am_BW) (h1 : Cond.static Lib.Math.min.name ∈ am_BW) (h2 : Cond.initialized "java/lang/Math" ∈ am_BW) (h3 : Cond.code Lib.Math.min.name Lib.Math.min.code 2 (some .int) ∈ am_BW) (hdd : 0 < d) (hroom : (st.map am_cat).sum ≤ 8) (ha : rng a) (hb2 : rng b) (kk : AW X cc nL n L (.inl (min a b) :: st) S) : AW X cc nL pc L (.inl b :: .inl a :: st) S := by
  obtain ⟨p, l, e, R, s, m, args, below, meth, c0, cells, slots, Q, dC, dI, dA, ad, A⟩ := X
  obtain ⟨hx, hb, hml, hown, hts, hK, hD, hA, hNw, hfr, hlo, hce, hsl⟩ := C
  subst hn
  intro H locs ls hP hS hl
  refine va_mmin hx hb (hml.trans hl.1.1.symm) hown (hts _ hlk) (hts _ h1) (hts _ h2) (hts _ h3) (by omega) (by rw [am_cats]; omega) hce hsl hd ?_
  rw [am_min ha hb2]
  exact kk H locs ls hP hS hl
/-- a stretch of one row goes into another -/
def cp2 (S : Mem) (c0 : Nat) (sp : Int) (c1 : Nat) (dp k : Int) : Mem := fun c' i' => if c' = c1 ∧ dp ≤ i' ∧ i' < dp + k then S c0 (sp + (i' - dp)) else S c' i'
theorem am_E_cp {dA : Nat → ClassId} {ad : Nat → Nat} {S : Mem} {c0 c1 l0 l1 : Nat} {sp dp k : Int} (hs0 : shk c0 = .inr (0, l0)) (hs1 : shk c1 = .inr (0, l1)) (h1 : 0 ≤ sp) (h2 : 0 ≤ dp) (h3 : 0 ≤ k) : am_E dA ad (cp2 S c0 sp c1 dp k) c1 = .inl (dA 0, l1, .inl (va_cpy (fun i => Int32.ofInt (S c0 (i : Int))) (fun i => Int32.ofInt (S c1 (i : Int))) sp.toNat dp.toNat k.toNat)) := by
  rw [am_E_i hs1 (by decide)]
  congr 3
  congr 1
  funext j
  unfold va_cpy cp2
  by_cases hj : dp ≤ (j : Int) ∧ (j : Int) < dp + k
  · rw [if_pos ⟨rfl, hj⟩, if_pos (by omega)]
    congr 2
    omega
  · rw [if_neg (fun q => hj q.2), if_neg (by omega)]
theorem aw_copy {idx c0 c1 l0 l1 : Nat} {sp dp k : Int} (C : CX X d own cc nL) (hd : decode cc pc = .ok (.invokestatic idx, 3)) (hn : pc + 3 = n) (hlk : Cond.methodLink own idx arraycopyName ∈ am_BW) (g1 : Cond.native arraycopyName ∈ am_BW) (g2 : Cond.static arraycopyName ∈ am_BW) (g3 : Cond.initialized "java/lang/System" ∈ am_BW) (hdd : 0 < d) (hroom : (st.map am_cat).sum ≤ 8) (hs0 : shk c0 = .inr (0, l0)) (hs1 : shk c1 = .inr (0, l1)) (hl0 : 0 < l0) (hl1 : 0 < l1) (h1 : 0 ≤ sp) (h2 : 0 ≤ dp) (h3 : 0 ≤ k) (h4 : sp + k ≤ l0) (h5 : dp + k ≤ l1) (kk : AW X cc nL n L st (cp2 S c0 sp c1 dp k)) : AW X cc nL pc L (.inl k :: .inl dp :: .inr (.inr c1) :: .inl sp :: .inr (.inr c0) :: st) S := by
  obtain ⟨p, l, e, R, s, m, args, below, meth, cx, cells, slots, Q, dC, dI, dA, ad, A⟩ := X
  obtain ⟨hx, hb, hml, hown, hts, hK, hD, hA, hNw, hfr, hlo, hce, hsl⟩ := C
  subst hn
  intro H locs ls hP hS hl
  have e0 := am_len hs0
  have e1 := am_len hs1
  have hnw : nativeFrameWords "java/lang/System" "arraycopy" 5 + 11 ≤ 24 := by decide
  have z0 : ∀ q : Int, 0 ≤ q → q ≤ 2147483647 → ¬ Int32.ofInt q < 0 := fun q a b => by rw [← am_z, am_lt ⟨by omega, b⟩ am_r0]; omega
  refine va_copyi (D := (dC, dI)) hx hb (hml.trans hl.1.1.symm) hown (hts _ hlk) (hts _ g1) (hts _ g2) (hts _ g3) hK hP (hD S) hS c0 c1 0 0 ((am_W_at (am_lt_n hs0 hl0)).trans (by rw [am_E_i hs0 (by decide)])) ((am_W_at (am_lt_n hs1 hl1)).trans (by rw [am_E_i hs1 (by decide)])) rfl rfl rfl (z0 sp h1 (by omega)) (z0 dp h2 (by omega)) (z0 k h3 (by omega)) (by rw [am_cl h1 (by omega), am_cl h3 (by omega)]; omega) (by rw [am_cl h2 (by omega), am_cl h3 (by omega)]; omega) (fun _ _ => rfl) (by omega) (by rw [am_cats]; omega) hd (fun H1 locs1 hP1 hD1 hS1 => kk H1 locs1 ls ?_ hS1 hl)
  rw [am_cl h1 (by omega), am_cl h2 (by omega), am_cl h3 (by omega), am_W_set (am_E_cp hs0 hs1 h1 h2 h3) (fun c' h => funext fun i' => if_neg (fun q => h q.1))] at hP1
  exact hP1
end AM2
