/-! rows of rows of ints that one instruction makes (multianewarray of two lengths): by what stands behind each row, never by the state itself -/
section MG
variable {p : Program} {l : Launch} {e : Env} {R : Room} {s : State} {m : MethodId} {args : Array Value} {below : List Frame} {meth : Method} {c : Code} {locs : List Loc} {cells slots : Nat} {E : CtlPost}
def mg_in (cI : ClassId) (K : Nat) : Cell := arrV cI K (fun _ => .int 0)
def mg_out (cA : ClassId) (N a i : Nat) : Cell := arrV cA N (fun j => if j < i then .ref (a + 1 + j) else .null)
/-- an instruction of which only a property of its end is known: so no state needs to be named ahead of the run -/
theorem mg_run (hexec : p.tables.exec = Jvm.exec) {T : State} {f : JFrame} {i : Instr} {len : Nat} {P : State → Prop} (h : At T f.method c below) (hd : decode c.code f.pc = .ok (i, len))
    (hw : wpRun (Jvm.exec i) (fun _ u _ => ∃ (U : State) (g : JFrame), u = U.setTop g ∧ ∃ t, Steps p.tables e below (U.setTop { g with pc := g.pc + len }) t ∧ P t) (fun _ _ _ => False) e (T.setTop f)) :
    ∃ t, Steps p.tables e below (T.setTop f) t ∧ P t := by
  have hst := stepThread_java (tb := p.tables) (e := e) (s := T.setTop f) (State.frames_setTop' f h.top) h.plain h.code hd
  rw [hexec] at hst
  have hs := (wpRun_iff_run _ _ _ _ _).mp hw
  cases hr : (Jvm.exec i).run e (T.setTop f) with
  | ok a u acts =>
    rw [hr] at hs hst
    obtain ⟨U, g, hu, t, ht, hp⟩ := hs
    subst hu
    refine ⟨t, Steps.head ⟨h.running, ?_, ?_⟩ (h.within f) ?_, hp⟩
    · rw [State.curStatus?_setTop]
      exact h.runnable
    · rw [State.alone_setTop]
      exact h.alone
    · rw [hst, afterInstr_ok]
      exact ht
  | ctl x u acts =>
    rw [hr] at hs
    cases x <;> exact hs.elim
/-- a cell more behind a heap, and an elder one changed: what lies where -/
theorem mg_look (A : Heap) (x y : Cell) {z : Nat} (q : Nat) (hz : z < A.size) : ((A.push x).setIfInBounds z y)[q]? = if q = z then some y else if q = A.size then some x else A[q]? := by
  rw [Array.getElem?_setIfInBounds, Array.getElem?_push, Array.size_push]
  by_cases h : z = q
  · subst h
    rw [if_pos rfl, if_pos rfl, if_pos (by omega)]
  · rw [if_neg h, if_neg (show ¬ q = z from fun g => h g.symm)]
theorem mg_hang (cA : ClassId) (N a i : Nat) : (mg_out cA N a i).setSlot i (.ref (a + 1 + i)) = mg_out cA N a (i + 1) := by
  refine (arrV_store cA N i _ _).trans (congrArg (arrV cA N) (funext fun j => ?_))
  show (if j = i then _ else if j < i then _ else _) = if j < i + 1 then _ else _
  rcases Nat.lt_trichotomy j i with h | h | h
  · rw [if_neg (by omega), if_pos h, if_pos (by omega)]
  · rw [if_pos h, if_pos (by omega), h]
  · rw [if_neg (by omega), if_neg (by omega), if_neg (by omega)]
/-- i rows hang in what lies behind the heap H, and the walk stands there -/
def mg_mid (p : Program) (l : Launch) (e : Env) (R : Room) (s : State) (m : MethodId) (args : Array Value) (below : List Frame) (meth : Method) (c : Code) (locs : List Loc) (cells slots : Nat) (cA cI : ClassId) (N K : Nat) (H : Heap) (i : Nat) (U : State) : Prop :=
  Stand p l e R s m args below meth c U (locs ++ (List.range i).map (fun j => ⟨H.size, j⟩)) (cells + 1 + i) (slots + N + i * K) ∧ U.heap.size = H.size + 1 + i ∧ U.heap[H.size]? = some (mg_out cA N H.size i) ∧ (∀ q : Nat, q < H.size → U.heap[q]? = H[q]?) ∧ ∀ j : Nat, j < i → U.heap[H.size + 1 + j]? = some (mg_in cI K)
theorem mg_none {cA cI : ClassId} {N K : Nat} {T : State} (X : Stand p l e R s m args below meth c T locs cells slots) : mg_mid p l e R s m args below meth c locs cells slots cA cI N K T.heap 0 (T.pushCell (mg_out cA N T.heap.size 0)) := by
  have Y := X.pushed (mg_out cA N T.heap.size 0)
  have hz : (mg_out cA N T.heap.size 0).slots.size = N := arrV_size cA N _
  refine ⟨?_, Array.size_push _, Array.getElem?_push_size, fun q hq => ?_, fun j hj => absurd hj (Nat.not_lt_zero j)⟩
  · rw [hz] at Y
    simpa using Y
  · exact (Array.getElem?_push).trans (if_neg (Nat.ne_of_lt hq))
theorem mg_more {cA cI : ClassId} {N K i : Nat} {H : Heap} {U : State} (M : mg_mid p l e R s m args below meth c locs cells slots cA cI N K H i U) :
    (U.pushCell (mg_in cI K)).heap[H.size]? = some (mg_out cA N H.size i) ∧ mg_mid p l e R s m args below meth c locs cells slots cA cI N K H (i + 1) ((U.pushCell (mg_in cI K)).setCell H.size ((mg_out cA N H.size i).setSlot i (.ref U.heap.size))) := by
  obtain ⟨X, z, o, k, r⟩ := M
  have hlt : H.size < U.heap.size := by omega
  have hold : (U.pushCell (mg_in cI K)).heap[H.size]? = some (mg_out cA N H.size i) := (Array.getElem?_push).trans ((if_neg (Nat.ne_of_lt hlt)).trans o)
  have hz : (mg_in cI K).slots.size = K := arrV_size cI K _
  have Y := (X.pushed (mg_in cI K)).stored hold i (.ref U.heap.size)
  have hat := fun q => mg_look U.heap (mg_in cI K) ((mg_out cA N H.size i).setSlot i (.ref U.heap.size)) q hlt
  refine ⟨hold, ?_, ?_, ?_, fun q hq => ?_, fun j hj => ?_⟩
  · rw [hz] at Y
    have hsl : slots + N + (i + 1) * K = slots + N + i * K + K := by
      rw [Nat.succ_mul]
      omega
    rw [List.range_succ, List.map_append, ← List.append_assoc, hsl]
    exact Y
  · exact (Array.size_setIfInBounds).trans ((Array.size_push _).trans (by omega))
  · refine (hat H.size).trans ((if_pos rfl).trans (congrArg some ?_))
    rw [z]
    exact mg_hang cA N H.size i
  · exact (hat q).trans ((if_neg (by omega)).trans ((if_neg (by omega)).trans (k q hq)))
  · refine (hat _).trans ((if_neg (by omega)).trans ?_)
    rcases Nat.lt_or_eq_of_le (Nat.le_of_lt_succ hj) with h | h
    · exact (if_neg (by omega)).trans (r j h)
    · exact if_pos (by omega)
/-- one row, wherever the walk stands -/
theorem mg_row {cI cx : ClassId} {kI : Class} {k : Int32} {K : Nat} {U : State} {F : JFrame} {d : Bool} {acts : List Action} (X : Stand p l e R s m args below meth c U locs cells slots) (hkI : s.vm.classes[cI]? = some kI) (hkindI : kI.kind = .array cx .int) (hk : ¬ k < 0) (hK : k.toNatClampNeg = K) (hb : K * 4 ≤ 536870912) (hc : cells + 1 ≤ R.cells) (hs : slots + K ≤ R.slots)
    {Q : Addr → Pre} (hq : ∀ acts', Q U.heap.size d acts' ((U.pushCell (mg_in cI K)).setTop F)) : wp (multianewarray.make cI [k]) Q E e d acts (U.setTop F) := by
  obtain ⟨kU, hkU, hsame⟩ := X.warmed.alike.2.2 _ _ hkI
  have hkindU : kU.kind = .array cx .int := by
    rw [hsame]
    exact hkindI
  have hroom := X.roomAbove hc hs
  have hlen := Launch.admits_arrayLengthLimit X.admits
  have hmem := Launch.admits_maxHeapBytes X.admits
  unfold multianewarray.make
  simp only [wp_bind', W.ite, if_neg hk, wp_pure', W.theClass, State.vm_setTop, hkU, hkindU, Option.some.injEq, exists_eq_left', hK]
  refine W.newArray_of (s := U.setTop F) hkU hkindU (by omega) (by show ¬ K * 4 > _; omega) hroom.1 hroom.2 rfl (fun acts' => ?_)
  have hcell := arrV_new cI K (.int 0)
  show Q U.heap.size d acts' ((U.pushCell { cls := cI, slots := Array.replicate K (.int 0), vm := .none }).setTop F)
  rw [hcell]
  exact hq acts'
/-- all rows, and what they hang in -/
theorem mg_make {cA cI cx : ClassId} {kA kI : Class} {n k : Int32} {N K : Nat} {T : State} {F : JFrame} {d : Bool} {acts : List Action} (X : Stand p l e R s m args below meth c T locs cells slots) (hkA : s.vm.classes[cA]? = some kA) (hkindA : kA.kind = .array cI (.array .int)) (hkI : s.vm.classes[cI]? = some kI) (hkindI : kI.kind = .array cx .int)
    (hn : ¬ n < 0) (hk : ¬ k < 0) (hN : n.toNatClampNeg = N) (hK : k.toNatClampNeg = K) (hb1 : N * 4 ≤ 536870912) (hb2 : K * 4 ≤ 536870912) (hc : cells + (1 + N) ≤ R.cells) (hs : slots + (N + N * K) ≤ R.slots)
    {Q : Addr → Pre} (hq : ∀ U d' acts', mg_mid p l e R s m args below meth c locs cells slots cA cI N K T.heap N U → Q T.heap.size d' acts' (U.setTop F)) : wp (multianewarray.make cA [n, k]) Q E e d acts (T.setTop F) := by
  obtain ⟨kT, hkT, hsame⟩ := X.warmed.alike.2.2 _ _ hkA
  have hkindT : kT.kind = .array cI (.array .int) := by
    rw [hsame]
    exact hkindA
  have hroom := X.roomAbove (a := 1) (b := N) (by omega) (by omega)
  have hlen := Launch.admits_arrayLengthLimit X.admits
  have hmem := Launch.admits_maxHeapBytes X.admits
  have hbad : List.find? (fun x : Int32 => decide (x < 0)) [k] = none := by simp [hk]
  unfold multianewarray.make
  simp only [wp_bind', W.ite, if_neg hn, wp_pure', W.theClass, State.vm_setTop, hkT, hkindT, Option.some.injEq, exists_eq_left', hN, hbad, ite_self]
  refine W.newArray_of (s := T.setTop F) hkT hkindT (by omega) (by show ¬ N * 4 > _; omega) hroom.1 hroom.2 rfl (fun acts' => ?_)
  have hcell : ({ cls := cA, slots := Array.replicate N .null, vm := .none } : Cell) = mg_out cA N T.heap.size 0 := (arrV_new cA N .null).trans (congrArg (arrV cA N) (funext fun j => (if_neg (Nat.not_lt_zero j)).symm))
  show wp _ _ E e d acts' ((T.pushCell { cls := cA, slots := Array.replicate N .null, vm := .none }).setTop F)
  rw [hcell]
  have hcount : ∀ a : Nat, Std.Legacy.Range.size [:a] = a := fun a => by simp [Std.Legacy.Range.size]
  simp only [wp_bind', Std.Legacy.Range.forIn_eq_forIn_range', hcount, wp_pure']
  refine wp_forIn_inv (fun todo u => ∃ (i r : Nat) (U : State), i + r = N ∧ todo = List.range' i r ∧ u = U.setTop F ∧ mg_mid p l e R s m args below meth c locs cells slots cA cI N K T.heap i U) _ _ ⟨0, N, _, Nat.zero_add N, rfl, rfl, mg_none X⟩ ?_ ?_
  · intro x todo u d1 acts1 Q1 hI hnext
    obtain ⟨i, r, U, hir, hlist, hu, M⟩ := hI
    subst hu
    match r, hir, hlist with
    | 0, _, hlist => exact absurd hlist (List.cons_ne_nil x todo)
    | r + 1, hir, hlist =>
      obtain ⟨hx, htodo⟩ := List.cons.inj (hlist.trans List.range'_succ)
      subst hx
      have hrest : x * K + K ≤ N * K := Nat.succ_mul x K ▸ Nat.mul_le_mul_right K (show x + 1 ≤ N by omega)
      obtain ⟨kU, hkU, hsameU⟩ := M.1.warmed.alike.2.2 _ _ hkA
      have hkindU : kU.kind = .array cI (.array .int) := by
        rw [hsameU]
        exact hkindA
      simp only [wp_bind']
      refine mg_row M.1 hkI hkindI hk hK hb2 (by omega) (by omega) (fun acts2 => ?_)
      simp only [wp_bind', W.writeLoc, wp_pure']
      refine ⟨_, (mg_more M).1, (fun h => nomatch h), ?_, ?_, hnext _ _ _ ⟨x + 1, r, _, by omega, htodo, rfl, (mg_more M).2⟩⟩
      · rw [show (mg_out cA N T.heap.size x).slots.size = N from arrV_size cA N _]
        omega
      · show State.fitsSlot U cA .none x (.ref _) = true
        simp [State.fitsSlot, State.slotType?, hkU, hkindU, fits]
  · intro u d1 acts1 hI
    obtain ⟨i, r, U, hir, hlist, hu, M⟩ := hI
    subst hu
    match r, hir, hlist with
    | 0, hir, _ =>
      obtain rfl : i = N := hir
      exact hq U d1 acts1 M
    | r + 1, _, hlist => exact absurd (hlist.trans List.range'_succ) (List.cons_ne_nil _ _).symm
end MG
section MGW
variable {p : Program} {l : Launch} {e : Env} {R : Room} {s : State} {m : MethodId} {args : Array Value} {below : List Frame} {meth : Method} {c : Code} {H : Heap} {locs : List Loc} {cells slots : Nat} {Q : State → Prop}
variable {cc : ByteArray} {pc : Nat} {ls : Array Slot} {rest : List Value}
theorem mg_W (hexec : p.tables.exec = Jvm.exec) (hb : c.code = cc) {own : String} {index : Nat} (hown : s.vm.findClass own = some m.cls) (hcl : (Cond.classLink own index "[[I").before args s = true) {cA cI cx : ClassId} {kA kI : Class} (hfA : s.vm.findClass "[[I" = some cA) (hkA : s.vm.classes[cA]? = some kA) (hkindA : kA.kind = .array cI (.array .int)) (hkI : s.vm.classes[cI]? = some kI) (hkindI : kI.kind = .array cx .int)
    {n k : Int32} {N K : Nat} (hn : ¬ n < 0) (hk : ¬ k < 0) (hN : n.toNatClampNeg = N) (hK : k.toNatClampNeg = K) (hb1 : N * 4 ≤ 536870912) (hb2 : K * 4 ≤ 536870912) (hcells : cells + (1 + N) ≤ R.cells) (hslots : slots + (N + N * K) ≤ R.slots) (hdg : decode cc pc = .ok (.multianewarray index 2, 4))
    (kk : ∀ H1 : Heap, H1.size = H.size + 1 + N → H1[H.size]? = some (mg_out cA N H.size N) → (∀ q : Nat, q < H.size → H1[q]? = H[q]?) → (∀ j : Nat, j < N → H1[H.size + 1 + j]? = some (mg_in cI K)) → W p l e R s m args below meth c H1 (locs ++ (List.range N).map (fun j => ⟨H.size, j⟩)) (cells + 1 + N) (slots + N + N * K) Q (F0 m (pc + 4) ls (.ref H.size :: rest))) :
    W p l e R s m args below meth c H locs cells slots Q (F0 m pc ls (.int k :: .int n :: rest)) := by
  intro T hT X
  subst hT
  obtain ⟨c0, hf, hlink⟩ := Cond.classLink_spec hown hcl e.platform (by rw [X.admits.platform])
  obtain rfl : c0 = cA := Option.some.inj (hf.symm.trans hfA)
  obtain ⟨hgives, hwarm, -⟩ := State.classEntry (e := e) X.warmed hlink
  refine mg_run hexec X.here (hb.symm ▸ hdg) ?_
  show wp (multianewarray.sem index 2) _ _ e false [] (T.setTop (F0 m pc ls (.int k :: .int n :: rest)))
  unfold multianewarray.sem
  rw [wp_bind', W.resolveClassAt_links (t := T.setTop _) (State.method?_setTop _ X.here.top) hgives]
  rw [wp_bind']
  refine (popN_top (s := T.setVm (T.vm.noted m.cls index (.cls c0))) (f := F0 m pc ls (.int k :: .int n :: rest)) (args := [.int n, .int k]) (rest := rest) X.here.top rfl).mpr ?_
  simp only [List.mapM_cons, List.mapM_nil, wp_bind', wp_pure']
  refine mg_make (X.noted hwarm) hkA hkindA hkI hkindI hn hk hN hK hb1 hb2 hcells hslots (fun U d' acts' M => ?_)
  simp only [wp_bind', W.mark, W.pushRef]
  refine ⟨_, State.topJava?_setTop' _ M.1.here.top, U, _, State.setTop_setTop _ _ _, ?_⟩
  exact kk U.heap M.2.1 M.2.2.1 M.2.2.2.1 M.2.2.2.2 U rfl M.1
end MGW
