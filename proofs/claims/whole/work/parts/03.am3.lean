/-! the abstract machine, third part: contracts, ends, calls -/
def am_R (d : Nat) : Room := { frames := d, cells := 0, slots := 0, locals := 32 * d }
def am_Pre (dC : Nat → ClassId) (dI : Nat → Nat → Nat) (dA : Nat → ClassId) (ad : Nat → Nat) (sz : Nat) (S : Mem) (U : State) : Prop := U.heap.size = sz ∧ va_P (dC, dI) vwCl (am_W dA ad S) U.heap ∧ va_K (dC, dI) vwCl (am_ty dA) U ∧ va_D (fun _ => True) (am_W dA ad S) ∧ va_Nw am_NW U
def AMi (d : Nat) (y : MethodName) (cc : ByteArray) (nL : Nat) (ret : Option FieldType) (vs : List AV) (S : Mem) (post : Int → Mem → Prop) : Prop :=
  ∀ (l : Launch) (dC : Nat → ClassId) (dI : Nat → Nat → Nat) (dA : Nat → ClassId) (ad : Nat → Nat) (sz : Nat), Met l y (.code y cc nL ret :: am_BW) (am_R d) (va_Pc (vs.map (am_v ad)) (am_Pre dC dI dA ad sz S)) (va_Qi (fun (r : Int32) (u : Int × Mem) => r = Int32.ofInt u.1 ∧ post u.1 u.2) (fun u t => va_P (dC, dI) vwCl (am_W dA ad u.2) t.heap) (va_A (am_W dA ad S) sz)) 0 0 (va_A (am_W dA ad S) sz)
def AMl (d : Nat) (y : MethodName) (cc : ByteArray) (nL : Nat) (ret : Option FieldType) (vs : List AV) (S : Mem) (post : Int → Mem → Prop) : Prop :=
  ∀ (l : Launch) (dC : Nat → ClassId) (dI : Nat → Nat → Nat) (dA : Nat → ClassId) (ad : Nat → Nat) (sz : Nat), Met l y (.code y cc nL ret :: am_BW) (am_R d) (va_Pc (vs.map (am_v ad)) (am_Pre dC dI dA ad sz S)) (va_Ql (fun (r : Int64) (u : Int × Mem) => r = Int64.ofInt u.1 ∧ post u.1 u.2) (fun u t => va_P (dC, dI) vwCl (am_W dA ad u.2) t.heap) (va_A (am_W dA ad S) sz)) 0 0 (va_A (am_W dA ad S) sz)
def AMv (d : Nat) (y : MethodName) (cc : ByteArray) (nL : Nat) (vs : List AV) (S : Mem) (post : Mem → Prop) : Prop :=
  ∀ (l : Launch) (dC : Nat → ClassId) (dI : Nat → Nat → Nat) (dA : Nat → ClassId) (ad : Nat → Nat) (sz : Nat), Met l y (.code y cc nL none :: am_BW) (am_R d) (va_Pc (vs.map (am_v ad)) (am_Pre dC dI dA ad sz S)) (va_Qv (fun (u : Mem) => post u) (fun u t => va_P (dC, dI) vwCl (am_W dA ad u) t.heap) (va_A (am_W dA ad S) sz)) 0 0 (va_A (am_W dA ad S) sz)
/-- the locals of a method's start -/
def am_ent (vs : List AV) : List (Option AV) := vs.flatMap fun v => if am_cat v = 2 then [some v, none] else [some v]
theorem am_ent_cons (v : AV) (vs : List AV) : am_ent (v :: vs) = (if am_cat v = 2 then [some v, none] else [some v]) ++ am_ent vs := rfl
theorem am_ent_args (ad : Nat → Nat) : ∀ (vs : List AV) (o i : Nat) (v : AV), (am_ent vs)[i]? = some (some v) → (o + i, am_v ad v) ∈ lv_args o (vs.map (am_v ad))
  | [], o, i, v, h => by simp [am_ent] at h
  | u :: vs, o, i, v, h => by
    rw [am_ent_cons] at h
    rw [List.map_cons, lv_args, am_cat_eq]
    by_cases hc : am_cat u = 2
    · rw [if_pos hc] at h ⊢
      match i, h with
      | 0, h => cases h; exact List.mem_cons_self
      | 1, h => cases h
      | i + 2, h => exact List.mem_cons_of_mem _ (by rw [show o + (i + 2) = (o + 2) + i by omega]; exact am_ent_args ad vs (o + 2) i v h)
    · rw [if_neg hc] at h ⊢
      match i, h with
      | 0, h => cases h; exact List.mem_cons_self
      | i + 1, h => exact List.mem_cons_of_mem _ (by rw [show o + (i + 1) = (o + 1) + i by omega]; exact am_ent_args ad vs (o + 1) i v h)
theorem am_sl_len (ad : Nat → Nat) : ∀ vs : List AV, (lg_sl (vs.map (am_v ad))).length = (am_ent vs).length
  | [] => rfl
  | u :: vs => by
    have ih := am_sl_len ad vs
    rw [am_ent_cons, List.length_append, ← ih, List.map_cons]
    unfold lg_sl
    rw [List.flatMap_cons, List.length_append, am_cat_eq]
    by_cases hc : am_cat u = 2
    · rw [if_pos hc, if_pos hc]; rfl
    · rw [if_neg hc, if_neg hc]; rfl
theorem am_D_all {dA : Nat → ClassId} {ad : Nat → Nat} {S0 : Mem} {sz : Nat} (h : va_D (fun _ => True) (am_W dA ad S0)) : ∀ S, va_D (va_A (am_W dA ad S0) sz) (am_W dA ad S) := by
  intro S
  refine ⟨fun i j p q hi hj hpq => ?_, fun k q hk => ?_⟩
  · obtain ⟨li, rfl⟩ := am_W_some hi
    obtain ⟨lj, rfl⟩ := am_W_some hj
    exact h.1 i j _ _ (am_W_at li) (am_W_at lj) hpq
  · obtain ⟨lk, rfl⟩ := am_W_some hk
    exact Or.inl ⟨k, _, am_W_at lk⟩
theorem am_body {l : Launch} {d : Nat} {y : MethodName} {cc : ByteArray} {nL : Nat} {ret : Option FieldType} {vs : List AV} {S : Mem} {dC : Nat → ClassId} {dI : Nat → Nat → Nat} {dA : Nat → ClassId} {ad : Nat → Nat} {sz : Nat} {Qc : Array Value → State → Outcome → State → Prop} {L : List (Option AV)} (hy : plainName y.cls = true) (hL : am_ent vs ++ List.replicate (nL - (am_ent vs).length) none = L) (hlen : (am_ent vs).length ≤ nL)
    (k : ∀ X : AMX, CX X d y.cls cc nL → (∀ (pc : Nat) (L : List (Option AV)) (st : List AV) (S' : Mem) (v : Option Value), st.map (am_v ad) = v.toList → (∀ (s t : State) (args : Array Value) (H : Heap) (locs : List Loc), va_P (dC, dI) vwCl (am_W dA ad S') H → va_S (va_A (am_W dA ad S) sz) s.heap H locs → t.heap = H → Qc args s (.returned v) t) → ((∃ i : Int32, v = some (.int i) ∧ ∃ ty, ret = some ty ∧ narrow ty (.int i) = .int i ∧ decode cc pc = .ok (.ireturn, 1)) ∨ (∃ i : Int64, v = some (.long i) ∧ ret = some .long ∧ decode cc pc = .ok (.lreturn, 1)) ∨ (v = none ∧ ret = none ∧ decode cc pc = .ok (.return_, 1))) → AW X cc nL pc L st S') → AW X cc nL 0 L [] S) :
    Met l y (.code y cc nL ret :: am_BW) (am_R d) (va_Pc (vs.map (am_v ad)) (am_Pre dC dI dA ad sz S)) Qc 0 0 (va_A (am_W dA ad S) sz) := by
  refine Met.ofW (cc := cc) (maxL := nL) (ret := ret) hy rfl ?_
  intro p e s m args below meth c s₁ B hml hv
  obtain ⟨rfl, hsz, hP, hK, hD0, hNw⟩ := hv
  have hts := atoms_spec (ws := .code y cc nL ret :: am_BW) B.pre
  have hS : va_S (va_A (am_W dA ad S) sz) s.heap s.heap [] := va_S.rf
  have hl := lv_entry (vs.map (am_v ad)) (n := nL) (by rw [am_sl_len]; exact hlen)
  rw [lg_entry_eq]
  generalize (lg_sl (vs.map (am_v ad)) ++ List.replicate (nL - (lg_sl (vs.map (am_v ad))).length) Slot.unset).toArray = ls at hl ⊢
  have hC : CX (p, l, e, (headSpec (.code y cc nL ret :: am_BW) (am_R d)).room, s, m, (vs.map (am_v ad)).toArray, below, meth, c, 0, 0, MQ below Qc (vs.map (am_v ad)).toArray s 0 0 (va_A (am_W dA ad S) sz), dC, dI, dA, ad, va_A (am_W dA ad S) sz) d y.cls cc nL :=
    ⟨B.exec, B.bytes, hml, findClass_of_methodNamed B.named, fun w hw => hts w (List.mem_cons_of_mem _ hw), hK, am_D_all hD0, fun q hq => Or.inr (by rw [← hsz]; exact hq), hNw, Nat.le_refl _, Nat.le_refl _, Nat.zero_le _, Nat.zero_le _⟩
  refine k _ hC (fun pc L' st S' v hst hQ hcase => ?_) s.heap [] ls hP hS ⟨⟨hl.1, hl.2.1, fun q hq => by cases hq⟩, fun i v hv => ?_⟩
  · intro H locs ls' hP' hS' hl'
    show W p l e _ s m _ below meth c H locs 0 0 _ (F0 m pc ls' (st.map (am_v ad)))
    rw [hst]
    rcases hcase with ⟨i, rfl, ty, hr, hna, hd⟩ | ⟨i, rfl, hr, hd⟩ | ⟨rfl, hr, hd⟩
    · exact W.zret B.exec B.bytes (B.returns.trans hr) hna (fun t ht _ => hQ s t _ H locs hP' hS' ht) hS'.2.2 hd B.notSynchronized
    · exact W.lret B.exec B.bytes (B.returns.trans hr) (fun t ht _ => hQ s t _ H locs hP' hS' ht) hS'.2.2 hd B.notSynchronized
    · exact W.vret B.exec B.bytes (B.returns.trans hr) (fun t ht _ => hQ s t _ H locs hP' hS' ht) hS'.2.2 hd B.notSynchronized
  · rw [← hL] at hv
    have hi : i < (am_ent vs).length := by
      rcases Nat.lt_or_ge i (am_ent vs).length with q | q
      · exact q
      · rw [List.getElem?_append_right q] at hv
        have := List.eq_of_mem_replicate (List.mem_of_getElem? hv)
        cases this
    rw [List.getElem?_append_left hi] at hv
    have := hl.2.2 _ (am_ent_args ad vs 0 i v hv)
    simpa using this
theorem am_nar {z : Int} {ret : Option FieldType} {ty : FieldType} (h : ret = some .int ∨ (ret = some .boolean ∧ (z = 0 ∨ z = 1))) (hr : ret = some ty) : narrow ty (.int (Int32.ofInt z)) = .int (Int32.ofInt z) := by
  rcases h with h | ⟨h, h2 | h2⟩
  · rw [h] at hr; cases hr; rfl
  · rw [h] at hr; cases hr; subst h2; rfl
  · rw [h] at hr; cases hr; subst h2; rfl
/-- a method that answers an int (or a boolean) -/
theorem ami_intro {d : Nat} {y : MethodName} {cc : ByteArray} {nL : Nat} {ret : Option FieldType} {vs : List AV} {S : Mem} {post : Int → Mem → Prop} {L : List (Option AV)} (hy : plainName y.cls = true) (hret : ret = some .int ∨ ret = some .boolean) (hL : am_ent vs ++ List.replicate (nL - (am_ent vs).length) none = L) (hlen : (am_ent vs).length ≤ nL)
    (k : ∀ X : AMX, CX X d y.cls cc nL → (∀ (pc : Nat) (L : List (Option AV)) (z : Int) (S' : Mem), decode cc pc = .ok (.ireturn, 1) → (ret = some .int ∨ (ret = some .boolean ∧ (z = 0 ∨ z = 1))) → post z S' → AW X cc nL pc L [.inl z] S') → AW X cc nL 0 L [] S) : AMi d y cc nL ret vs S post := by
  intro l dC dI dA ad sz
  refine am_body hy hL hlen (fun X C hq => k X C (fun pc L z S' hd hz hp => hq pc L [.inl z] S' (some (.int (Int32.ofInt z))) rfl (fun s t args H locs hP hS ht => ⟨⟨Int32.ofInt z, (z, S'), rfl, ⟨rfl, hp⟩, by cases ht; exact hP⟩, hS.F ht⟩) (Or.inl ⟨_, rfl, ?_⟩)))
  rcases hret with h | h
  · exact ⟨.int, h, am_nar hz h, hd⟩
  · exact ⟨.boolean, h, am_nar hz h, hd⟩
theorem aml_intro {d : Nat} {y : MethodName} {cc : ByteArray} {nL : Nat} {vs : List AV} {S : Mem} {post : Int → Mem → Prop} {L : List (Option AV)} (hy : plainName y.cls = true) (hL : am_ent vs ++ List.replicate (nL - (am_ent vs).length) none = L) (hlen : (am_ent vs).length ≤ nL)
    (k : ∀ X : AMX, CX X d y.cls cc nL → (∀ (pc : Nat) (L : List (Option AV)) (z : Int) (S' : Mem), decode cc pc = .ok (.lreturn, 1) → post z S' → AW X cc nL pc L [.inr (.inl z)] S') → AW X cc nL 0 L [] S) : AMl d y cc nL (some .long) vs S post := by
  intro l dC dI dA ad sz
  exact am_body hy hL hlen (fun X C hq => k X C (fun pc L z S' hd hp => hq pc L [.inr (.inl z)] S' (some (.long (Int64.ofInt z))) rfl (fun s t args H locs hP hS ht => ⟨⟨Int64.ofInt z, (z, S'), rfl, ⟨rfl, hp⟩, by cases ht; exact hP⟩, hS.F ht⟩) (Or.inr (Or.inl ⟨_, rfl, rfl, hd⟩))))
theorem amv_intro {d : Nat} {y : MethodName} {cc : ByteArray} {nL : Nat} {vs : List AV} {S : Mem} {post : Mem → Prop} {L : List (Option AV)} (hy : plainName y.cls = true) (hL : am_ent vs ++ List.replicate (nL - (am_ent vs).length) none = L) (hlen : (am_ent vs).length ≤ nL)
    (k : ∀ X : AMX, CX X d y.cls cc nL → (∀ (pc : Nat) (L : List (Option AV)) (S' : Mem), decode cc pc = .ok (.return_, 1) → post S' → AW X cc nL pc L [] S') → AW X cc nL 0 L [] S) : AMv d y cc nL vs S post := by
  intro l dC dI dA ad sz
  exact am_body hy hL hlen (fun X C hq => k X C (fun pc L S' hd hp => hq pc L [] S' none rfl (fun s t args H locs hP hS ht => ⟨⟨S', rfl, hp, by cases ht; exact hP⟩, hS.F ht⟩) (Or.inr (Or.inr ⟨rfl, rfl, hd⟩))))
/-- a method's own words -/
def am_MB (y : MethodName) (cy : ByteArray) (nLy : Nat) (ret : Option FieldType) (np : Nat) : Prop := Cond.code y cy nLy ret ∈ am_BW ∧ Cond.initialized y.cls ∈ am_BW ∧ (y.cls ≠ "java/lang/invoke/MethodHandle" ∧ y.cls ≠ "java/lang/invoke/VarHandle" ∧ (parseMethodDescriptor y.desc).map (fun d => d.parameters.length) = some np) ∧ nLy ≤ 13
def am_MV (y : MethodName) (cy : ByteArray) (nLy : Nat) (ret : Option FieldType) (np : Nat) : Prop := am_MB y cy nLy ret np ∧ Cond.instanceMethod y ∈ am_BW ∧ Cond.selects y.cls y y ∈ am_BW
def am_MS (y : MethodName) (cy : ByteArray) (nLy : Nat) (ret : Option FieldType) (np : Nat) : Prop := am_MB y cy nLy ret np ∧ Cond.static y ∈ am_BW
theorem am_good_code {y : MethodName} {cy : ByteArray} {nLy : Nat} {ret : Option FieldType} (h : Cond.code y cy nLy ret ∈ am_BW) : GoodIn am_BW (Cond.code y cy nLy ret :: am_BW) := fun w hw => by
  rcases List.mem_cons.mp hw with rfl | hw
  · exact am_BW_self _ h
  · exact am_BW_self _ hw
theorem am_good_V {own : String} {idx : Nat} {y : MethodName} {cy : ByteArray} {nLy : Nat} {ret : Option FieldType} {np : Nat} (h : am_MV y cy nLy ret np) (hl : Cond.methodLink own idx y ∈ am_BW) : GoodIn am_BW (wsV own idx y.cls y (Cond.code y cy nLy ret :: am_BW)) := fun w hw => by
  obtain ⟨⟨h1, h2, -⟩, h3, h4⟩ := h
  unfold wsV at hw
  rcases List.mem_append.mp hw with hw | hw
  · simp only [List.mem_cons, List.not_mem_nil, or_false] at hw
    rcases hw with rfl | rfl | rfl | rfl
    · exact am_BW_self _ hl
    · exact am_BW_self _ h3
    · exact am_BW_self _ h4
    · exact am_BW_self _ h2
  · exact am_good_code h1 w hw
theorem am_good_S {own : String} {idx : Nat} {y : MethodName} {cy : ByteArray} {nLy : Nat} {ret : Option FieldType} {np : Nat} (h : am_MS y cy nLy ret np) (hl : Cond.methodLink own idx y ∈ am_BW) : GoodIn am_BW (va_wsS own idx y (Cond.code y cy nLy ret :: am_BW)) := fun w hw => by
  obtain ⟨⟨h1, h2, -⟩, h3⟩ := h
  unfold va_wsS at hw
  rcases List.mem_append.mp hw with hw | hw
  · simp only [List.mem_cons, List.not_mem_nil, or_false] at hw
    rcases hw with rfl | rfl | rfl
    · exact am_BW_self _ hl
    · exact am_BW_self _ h3
    · exact am_BW_self _ h2
  · exact am_good_code h1 w hw
theorem am_blind {av : List Value} {dC : Nat → ClassId} {dI : Nat → Nat → Nat} {dA : Nat → ClassId} {ad : Nat → Nat} {sz : Nat} {S : Mem} : FrameBlind (va_Pc av (am_Pre dC dI dA ad sz S)) := fun a U g mk q => by
  obtain ⟨q0, q1, qP, qK, qD, qN⟩ := q
  exact ⟨q0, q1, qP, va_K.moved (u := U) (U := U.calling g mk a) (Vm.Alike.refl U.vm) qK, qD, va_Nw.same rfl (u := U) (U := U.calling g mk a) rfl qN⟩
theorem am_pre_in {s U : State} {H : Heap} {A : Nat → Prop} {dC : Nat → ClassId} {dI : Nat → Nat → Nat} {dA : Nat → ClassId} {ad : Nat → Nat} {S : Mem} (hP : va_P (dC, dI) vwCl (am_W dA ad S) H) (hK : va_K (dC, dI) vwCl (am_ty dA) s) (hD : va_D A (am_W dA ad S)) (hN : va_Nw am_NW s) (hU : U.heap = H) (hW : s.WarmedH U.vm) : am_Pre dC dI dA ad H.size S U := ⟨by rw [hU], by rw [hU]; exact hP, va_K.moved hW.alike hK, hD.weaken (fun _ _ _ _ => trivial), va_Nw.warmM hW hN⟩
theorem am_free {s : State} {H : Heap} {locs : List Loc} {A : Nat → Prop} {dA : Nat → ClassId} {ad : Nat → Nat} {S : Mem} (hD : va_D A (am_W dA ad S)) (hS : va_S A s.heap H locs) (hA : ∀ q, s.heap.size ≤ q → A q) : ∀ q, va_A (am_W dA ad S) H.size q → A q := by
  intro q h
  rcases h with ⟨k, e, h⟩ | h
  · exact hD.2 k (q, e) h
  · exact hA q (Nat.le_trans hS.1 h)
theorem am_recv {s : State} {H : Heap} {dC : Nat → ClassId} {dI : Nat → Nat → Nat} {dA : Nat → ClassId} {ad : Nat → Nat} {S : Mem} {c ci : Nat} {y : MethodName} (hK : va_K (dC, dI) vwCl (am_ty dA) s) (hP : va_P (dC, dI) vwCl (am_W dA ad S) H) (hs : shk c = .inl ci) (hc : (vwCl[ci]?).map (fun q => q.1) = some y.cls) : ∃ cell : Cell, H[ad c]? = some cell ∧ cell.vm.isStatics = false ∧ s.vm.findClass y.cls = some cell.cls := by
  cases hq : vwCl[ci]? with
  | none => rw [hq] at hc; cases hc
  | some q =>
    rw [hq] at hc
    have e : q.1 = y.cls := Option.some.inj hc
    rw [← e]
    exact va_recv hK hP hq ((am_W_at (am_lt_o hs)).trans (by rw [am_E_o hs]))
section AM3
variable {X : AMX} {d pc n nL : Nat} {own : String} {cc : ByteArray} {L : List (Option AV)} {st : List AV} {S : Mem}
variable {y : MethodName} {cy : ByteArray} {nLy np dy idx c ci : Nat} {ret : Option FieldType} {vs stk : List AV}
theorem aw_cVi {post : Int → Mem → Prop} (C : CX X d own cc nL) (hd : decode cc pc = .ok (.invokevirtual idx, 3)) (hn : pc + 3 = n) (hst : stk = vs.reverse ++ .inr (.inr c) :: st) (hnp : vs.length = np) (hY : am_MV y cy nLy ret np) (hlk : Cond.methodLink own idx y ∈ am_BW) (hs : shk c = .inl ci) (hc : (vwCl[ci]?).map (fun q => q.1) = some y.cls) (hroom : (st.map am_cat).sum ≤ 8) (hM : AMi dy y cy nLy ret (.inr (.inr c) :: vs) S post) (hdd : dy < d) (k : ∀ (z : Int) (S' : Mem), post z S' → AW X cc nL n L (.inl z :: st) S') : AW X cc nL pc L stk S := by
  obtain ⟨p, l, e, R, s, m, args, below, meth, c0, cells, slots, Q, dC, dI, dA, ad, A⟩ := X
  obtain ⟨hx, hb, hml, hown, hts, hK, hD, hA, hNw, hfr, hlo, hce, hsl⟩ := C
  subst hn; subst hst; subst hnp
  intro H locs ls hP hS hl
  have hF := am_free (hD S) hS hA
  have hlY := hY.1.2.2.2
  refine va_calli (va_runV (b := ad c) (C := y.cls) (As := vs.map (am_v ad)) (rest := st.map (am_v ad)) ⟨hx, hb, hml, hown, hts⟩ (hM l dC dI dA ad H.size) (cwV vs.length hts (am_good_V hY hlk) rfl rfl rfl ⟨rfl, hY.1.2.2.1⟩ ⟨by show dy + 1 ≤ _; omega, by show 8 + (nLy + 11) + 32 * dy ≤ _; omega⟩) ⟨am_blind, am_recv hK hP hs hc, fun U hU hW => ⟨rfl, am_pre_in hP hK (hD S) hNw hU hW⟩⟩ rfl (by simp) hl.1.1 (by simp [am_v]) (lv_room (by rw [am_cats]; exact hroom)) hd ⟨hce, hsl⟩) hS (fun q _ h => hF q h) hF (fun r u t H1 locs1 ht hvm hw hB hz1 hk1 hS1 => ?_)
  obtain ⟨rfl, hp⟩ := hw
  rw [ht] at hB
  exact k u.1 u.2 hp H1 locs1 ls hB hS1 hl
theorem aw_cVl {post : Int → Mem → Prop} (C : CX X d own cc nL) (hd : decode cc pc = .ok (.invokevirtual idx, 3)) (hn : pc + 3 = n) (hst : stk = vs.reverse ++ .inr (.inr c) :: st) (hnp : vs.length = np) (hY : am_MV y cy nLy ret np) (hlk : Cond.methodLink own idx y ∈ am_BW) (hs : shk c = .inl ci) (hc : (vwCl[ci]?).map (fun q => q.1) = some y.cls) (hroom : (st.map am_cat).sum ≤ 8) (hM : AMl dy y cy nLy ret (.inr (.inr c) :: vs) S post) (hdd : dy < d) (k : ∀ (z : Int) (S' : Mem), post z S' → AW X cc nL n L (.inr (.inl z) :: st) S') : AW X cc nL pc L stk S := by
  obtain ⟨p, l, e, R, s, m, args, below, meth, c0, cells, slots, Q, dC, dI, dA, ad, A⟩ := X
  obtain ⟨hx, hb, hml, hown, hts, hK, hD, hA, hNw, hfr, hlo, hce, hsl⟩ := C
  subst hn; subst hst; subst hnp
  intro H locs ls hP hS hl
  have hF := am_free (hD S) hS hA
  have hlY := hY.1.2.2.2
  refine va_calll (va_runV (b := ad c) (C := y.cls) (As := vs.map (am_v ad)) (rest := st.map (am_v ad)) ⟨hx, hb, hml, hown, hts⟩ (hM l dC dI dA ad H.size) (cwV vs.length hts (am_good_V hY hlk) rfl rfl rfl ⟨rfl, hY.1.2.2.1⟩ ⟨by show dy + 1 ≤ _; omega, by show 8 + (nLy + 11) + 32 * dy ≤ _; omega⟩) ⟨am_blind, am_recv hK hP hs hc, fun U hU hW => ⟨rfl, am_pre_in hP hK (hD S) hNw hU hW⟩⟩ rfl (by simp) hl.1.1 (by simp [am_v]) (lv_room (by rw [am_cats]; exact hroom)) hd ⟨hce, hsl⟩) hS (fun q _ h => hF q h) hF (fun r u t H1 locs1 ht hvm hw hB hz1 hk1 hS1 => ?_)
  obtain ⟨rfl, hp⟩ := hw
  rw [ht] at hB
  exact k u.1 u.2 hp H1 locs1 ls hB hS1 hl
theorem aw_cVv {post : Mem → Prop} (C : CX X d own cc nL) (hd : decode cc pc = .ok (.invokevirtual idx, 3)) (hn : pc + 3 = n) (hst : stk = vs.reverse ++ .inr (.inr c) :: st) (hnp : vs.length = np) (hY : am_MV y cy nLy none np) (hlk : Cond.methodLink own idx y ∈ am_BW) (hs : shk c = .inl ci) (hc : (vwCl[ci]?).map (fun q => q.1) = some y.cls) (hroom : (st.map am_cat).sum ≤ 8) (hM : AMv dy y cy nLy (.inr (.inr c) :: vs) S post) (hdd : dy < d) (k : ∀ (S' : Mem), post S' → AW X cc nL n L st S') : AW X cc nL pc L stk S := by
  obtain ⟨p, l, e, R, s, m, args, below, meth, c0, cells, slots, Q, dC, dI, dA, ad, A⟩ := X
  obtain ⟨hx, hb, hml, hown, hts, hK, hD, hA, hNw, hfr, hlo, hce, hsl⟩ := C
  subst hn; subst hst; subst hnp
  intro H locs ls hP hS hl
  have hF := am_free (hD S) hS hA
  have hlY := hY.1.2.2.2
  refine va_callv (va_runV (b := ad c) (C := y.cls) (As := vs.map (am_v ad)) (rest := st.map (am_v ad)) ⟨hx, hb, hml, hown, hts⟩ (hM l dC dI dA ad H.size) (cwV vs.length hts (am_good_V hY hlk) rfl rfl rfl ⟨rfl, hY.1.2.2.1⟩ ⟨by show dy + 1 ≤ _; omega, by show 8 + (nLy + 11) + 32 * dy ≤ _; omega⟩) ⟨am_blind, am_recv hK hP hs hc, fun U hU hW => ⟨rfl, am_pre_in hP hK (hD S) hNw hU hW⟩⟩ rfl (by simp) hl.1.1 (by simp [am_v]) (lv_room (by rw [am_cats]; exact hroom)) hd ⟨hce, hsl⟩) hS (fun q _ h => hF q h) hF (fun u t H1 locs1 ht hvm hw hB hz1 hk1 hS1 => ?_)
  rw [ht] at hB
  exact k u hw H1 locs1 ls hB hS1 hl
theorem aw_cSi {post : Int → Mem → Prop} (C : CX X d own cc nL) (hd : decode cc pc = .ok (.invokestatic idx, 3)) (hn : pc + 3 = n) (hst : stk = vs.reverse ++ st) (hnp : vs.length = np) (hY : am_MS y cy nLy ret np) (hlk : Cond.methodLink own idx y ∈ am_BW) (hroom : (st.map am_cat).sum ≤ 8) (hM : AMi dy y cy nLy ret vs S post) (hdd : dy < d) (k : ∀ (z : Int) (S' : Mem), post z S' → AW X cc nL n L (.inl z :: st) S') : AW X cc nL pc L stk S := by
  obtain ⟨p, l, e, R, s, m, args, below, meth, c0, cells, slots, Q, dC, dI, dA, ad, A⟩ := X
  obtain ⟨hx, hb, hml, hown, hts, hK, hD, hA, hNw, hfr, hlo, hce, hsl⟩ := C
  subst hn; subst hst; subst hnp
  intro H locs ls hP hS hl
  have hF := am_free (hD S) hS hA
  have hlY := hY.1.2.2.2
  refine va_calli (va_runS (As := vs.map (am_v ad)) (rest := st.map (am_v ad)) ⟨hx, hb, hml, hown, hts⟩ (hM l dC dI dA ad H.size) (va_cwS vs.length hts (am_good_S hY hlk) rfl rfl rfl hY.1.2.2.1 ⟨by show dy + 1 ≤ _; omega, by show 8 + (nLy + 11) + 32 * dy ≤ _; omega⟩) ⟨am_blind, fun U hU hW => ⟨rfl, am_pre_in hP hK (hD S) hNw hU hW⟩⟩ rfl (by simp) hl.1.1 (by simp) (lv_room (by rw [am_cats]; exact hroom)) hd ⟨hce, hsl⟩) hS (fun q _ h => hF q h) hF (fun r u t H1 locs1 ht hvm hw hB hz1 hk1 hS1 => ?_)
  obtain ⟨rfl, hp⟩ := hw
  rw [ht] at hB
  exact k u.1 u.2 hp H1 locs1 ls hB hS1 hl
theorem aw_cSl {post : Int → Mem → Prop} (C : CX X d own cc nL) (hd : decode cc pc = .ok (.invokestatic idx, 3)) (hn : pc + 3 = n) (hst : stk = vs.reverse ++ st) (hnp : vs.length = np) (hY : am_MS y cy nLy ret np) (hlk : Cond.methodLink own idx y ∈ am_BW) (hroom : (st.map am_cat).sum ≤ 8) (hM : AMl dy y cy nLy ret vs S post) (hdd : dy < d) (k : ∀ (z : Int) (S' : Mem), post z S' → AW X cc nL n L (.inr (.inl z) :: st) S') : AW X cc nL pc L stk S := by
  obtain ⟨p, l, e, R, s, m, args, below, meth, c0, cells, slots, Q, dC, dI, dA, ad, A⟩ := X
  obtain ⟨hx, hb, hml, hown, hts, hK, hD, hA, hNw, hfr, hlo, hce, hsl⟩ := C
  subst hn; subst hst; subst hnp
  intro H locs ls hP hS hl
  have hF := am_free (hD S) hS hA
  have hlY := hY.1.2.2.2
  refine va_calll (va_runS (As := vs.map (am_v ad)) (rest := st.map (am_v ad)) ⟨hx, hb, hml, hown, hts⟩ (hM l dC dI dA ad H.size) (va_cwS vs.length hts (am_good_S hY hlk) rfl rfl rfl hY.1.2.2.1 ⟨by show dy + 1 ≤ _; omega, by show 8 + (nLy + 11) + 32 * dy ≤ _; omega⟩) ⟨am_blind, fun U hU hW => ⟨rfl, am_pre_in hP hK (hD S) hNw hU hW⟩⟩ rfl (by simp) hl.1.1 (by simp) (lv_room (by rw [am_cats]; exact hroom)) hd ⟨hce, hsl⟩) hS (fun q _ h => hF q h) hF (fun r u t H1 locs1 ht hvm hw hB hz1 hk1 hS1 => ?_)
  obtain ⟨rfl, hp⟩ := hw
  rw [ht] at hB
  exact k u.1 u.2 hp H1 locs1 ls hB hS1 hl
theorem aw_cSv {post : Mem → Prop} (C : CX X d own cc nL) (hd : decode cc pc = .ok (.invokestatic idx, 3)) (hn : pc + 3 = n) (hst : stk = vs.reverse ++ st) (hnp : vs.length = np) (hY : am_MS y cy nLy none np) (hlk : Cond.methodLink own idx y ∈ am_BW) (hroom : (st.map am_cat).sum ≤ 8) (hM : AMv dy y cy nLy vs S post) (hdd : dy < d) (k : ∀ (S' : Mem), post S' → AW X cc nL n L st S') : AW X cc nL pc L stk S := by
  obtain ⟨p, l, e, R, s, m, args, below, meth, c0, cells, slots, Q, dC, dI, dA, ad, A⟩ := X
  obtain ⟨hx, hb, hml, hown, hts, hK, hD, hA, hNw, hfr, hlo, hce, hsl⟩ := C
  subst hn; subst hst; subst hnp
  intro H locs ls hP hS hl
  have hF := am_free (hD S) hS hA
  have hlY := hY.1.2.2.2
  refine va_callv (va_runS (As := vs.map (am_v ad)) (rest := st.map (am_v ad)) ⟨hx, hb, hml, hown, hts⟩ (hM l dC dI dA ad H.size) (va_cwS vs.length hts (am_good_S hY hlk) rfl rfl rfl hY.1.2.2.1 ⟨by show dy + 1 ≤ _; omega, by show 8 + (nLy + 11) + 32 * dy ≤ _; omega⟩) ⟨am_blind, fun U hU hW => ⟨rfl, am_pre_in hP hK (hD S) hNw hU hW⟩⟩ rfl (by simp) hl.1.1 (by simp) (lv_room (by rw [am_cats]; exact hroom)) hd ⟨hce, hsl⟩) hS (fun q _ h => hF q h) hF (fun u t H1 locs1 ht hvm hw hB hz1 hk1 hS1 => ?_)
  rw [ht] at hB
  exact k u hw H1 locs1 ls hB hS1 hl
/-- the one call over a nest link: Seating's of noClass -/
theorem aw_cNest {post : Int → Mem → Prop} (C : CX X d RX2 cc nL) (hd : decode cc pc = .ok (.invokestatic 31, 3)) (hn : pc + 3 = n) (hst : stk = vs.reverse ++ st) (hnp : vs.length = np) (hY : am_MS yX6_noClass cy nLy ret np) (hroom : (st.map am_cat).sum ≤ 8) (hM : AMi dy yX6_noClass cy nLy ret vs S post) (hdd : dy < d) (k : ∀ (z : Int) (S' : Mem), post z S' → AW X cc nL n L (.inl z :: st) S') : AW X cc nL pc L stk S := by
  obtain ⟨p, l, e, R, s, m, args, below, meth, c0, cells, slots, Q, dC, dI, dA, ad, A⟩ := X
  obtain ⟨hx, hb, hml, hown, hts, hK, hD, hA, hNw, hfr, hlo, hce, hsl⟩ := C
  subst hn; subst hst; subst hnp
  intro H locs ls hP hS hl
  have hF := am_free (hD S) hS hA
  have hlY := hY.1.2.2.2
  refine va_calli (va_runSN (As := vs.map (am_v ad)) (rest := st.map (am_v ad)) ⟨hx, hb, hml, hown, hts⟩ (hM l dC dI dA ad H.size) ⟨va_cnB vs.length hts (am_good_code hY.1.1) rfl rfl rfl hNw (hts _ hY.1.2.1) hY.1.2.2.1 ⟨by show dy + 1 ≤ _; omega, by show 8 + (nLy + 11) + 32 * dy ≤ _; omega⟩, hts _ hY.2, trivial⟩ ⟨am_blind, fun U hU hW => ⟨rfl, am_pre_in hP hK (hD S) hNw hU hW⟩⟩ rfl (by simp) hl.1.1 (by simp) (lv_room (by rw [am_cats]; exact hroom)) hd ⟨hce, hsl⟩) hS (fun q _ h => hF q h) hF (fun r u t H1 locs1 ht hvm hw hB hz1 hk1 hS1 => ?_)
  obtain ⟨rfl, hp⟩ := hw
  rw [ht] at hB
  exact k u.1 u.2 hp H1 locs1 ls hB hS1 hl
end AM3
