/-! rows of rows of ints that one instruction makes (multianewarray of two lengths) -/
section MG
variable {E : CtlPost} {e : Env} {d : Bool} {acts : List Action} {s : State}
def mg_in (cI : ClassId) (K : Nat) : Cell := arrV cI K (fun _ => .int 0)
def mg_out (cA : ClassId) (N a i : Nat) : Cell := arrV cA N (fun j => if j < i then .ref (a + 1 + j) else .null)
/-- behind i of the rows -/
def mg_st (s : State) (cA cI : ClassId) (N K : Nat) : Nat → State
  | 0 => s.pushCell (mg_out cA N s.heap.size 0)
  | i + 1 => ((mg_st s cA cI N K i).pushCell (mg_in cI K)).setCell s.heap.size (mg_out cA N s.heap.size (i + 1))
def mg_is (s : State) (cA cI : ClassId) (N K i : Nat) (u : State) : Prop := u.heap.size = s.heap.size + 1 + i ∧ u.vm = s.vm ∧ u.slotsUsed = s.slotsUsed + N + i * K ∧ u.heap[s.heap.size]? = some (mg_out cA N s.heap.size i) ∧ (∀ q : Nat, q < s.heap.size → u.heap[q]? = s.heap[q]?) ∧ ∀ j : Nat, j < i → u.heap[s.heap.size + 1 + j]? = some (mg_in cI K)
theorem mg_is_st (cA cI : ClassId) (N K : Nat) : ∀ i : Nat, mg_is s cA cI N K i (mg_st s cA cI N K i)
  | 0 => by
    refine ⟨?_, rfl, ?_, ?_, fun q hq => ?_, fun j hj => absurd hj (by omega)⟩
    · show (s.heap.push _).size = _
      rw [Array.size_push]
    · show s.slotsUsed + (mg_out cA N s.heap.size 0).slots.size = _
      unfold mg_out
      rw [arrV_size]
      omega
    · show (s.heap.push _)[s.heap.size]? = _
      rw [Array.getElem?_push_size]
    · show (s.heap.push _)[q]? = _
      rw [Array.getElem?_push, if_neg (Nat.ne_of_lt hq)]
  | i + 1 => by
    obtain ⟨h1, h2, h3, h4, h5, h6⟩ := mg_is_st cA cI N K i
    have hz : s.heap.size < ((mg_st s cA cI N K i).heap.push (mg_in cI K)).size := by rw [Array.size_push]; omega
    have hg : ∀ q : Nat, (mg_st s cA cI N K (i + 1)).heap[q]? = if q = s.heap.size then some (mg_out cA N s.heap.size (i + 1)) else ((mg_st s cA cI N K i).heap.push (mg_in cI K))[q]? := fun q => by
      show (((mg_st s cA cI N K i).heap.push (mg_in cI K)).setIfInBounds s.heap.size (mg_out cA N s.heap.size (i + 1)))[q]? = _
      rw [Array.getElem?_setIfInBounds]
      by_cases hq : s.heap.size = q
      · rw [if_pos hq, if_pos hz, if_pos hq.symm]
      · rw [if_neg hq, if_neg (fun h => hq h.symm)]
    refine ⟨?_, h2, ?_, ?_, fun q hq => ?_, fun j hj => ?_⟩
    · show (((mg_st s cA cI N K i).heap.push (mg_in cI K)).setIfInBounds _ _).size = _
      rw [Array.size_setIfInBounds, Array.size_push]
      omega
    · show (mg_st s cA cI N K i).slotsUsed + (mg_in cI K).slots.size = _
      unfold mg_in
      rw [arrV_size, h3, Nat.succ_mul]
      omega
    · rw [hg, if_pos rfl]
    · rw [hg, if_neg (Nat.ne_of_lt hq), Array.getElem?_push, if_neg (by omega)]
      exact h5 q hq
    · rw [hg, if_neg (by omega), Array.getElem?_push]
      by_cases e : j = i
      · rw [if_pos (by omega)]
      · rw [if_neg (by omega)]
        exact h6 j (by omega)
theorem mg_top (f : JFrame) (cA cI : ClassId) (N K : Nat) : ∀ i : Nat, mg_st (s.setTop f) cA cI N K i = (mg_st s cA cI N K i).setTop f
  | 0 => rfl
  | i + 1 => by
    show ((mg_st (s.setTop f) cA cI N K i).pushCell (mg_in cI K)).setCell s.heap.size (mg_out cA N s.heap.size (i + 1)) = _
    rw [mg_top f cA cI N K i]
    rfl
theorem mg_step (cA : ClassId) (N a i : Nat) : (mg_out cA N a i).setSlot i (.ref (a + 1 + i)) = mg_out cA N a (i + 1) := by
  unfold mg_out
  rw [arrV_store]
  congr 1
  funext j
  show (if j = i then Value.ref (a + 1 + i) else if j < i then Value.ref (a + 1 + j) else Value.null) = if j < i + 1 then Value.ref (a + 1 + j) else Value.null
  by_cases hj : j = i
  · rw [if_pos hj, if_pos (by omega), hj]
  · rw [if_neg hj]
    by_cases hj2 : j < i
    · rw [if_pos hj2, if_pos (by omega)]
    · rw [if_neg hj2, if_neg (by omega)]
theorem mg_new {c comp : ClassId} {k : Class} {ty : FieldType} {len : Nat} {v : Value} (hk : s.vm.classes[c]? = some k) (hkind : k.kind = .array comp ty) (h1 : ¬ len > e.platform.arrayLengthLimit) (h2 : ¬ len * componentBytes ty > e.platform.maxHeapBytes) (hf : fits ty v = true) (h3 : s.heap.size < e.platform.maxCells) (h4 : s.slotsUsed + len ≤ e.platform.maxSlots) {Q : Addr → Pre} (hq : ∀ acts', Q s.heap.size d acts' (s.pushCell (arrV c len (fun _ => v)))) : wp (Jvm.newArray c len v) Q E e d acts s := by
  have hfit : ∀ (i : Nat) (w : Value), (Array.replicate len v)[i]? = some w → s.fitsSlot c .none i w = true := fun i w hw => by
    have e1 : w = v := by
      rw [Array.getElem?_replicate] at hw
      split at hw
      · exact (Option.some.inj hw).symm
      · cases hw
    rw [e1]
    simp [State.fitsSlot, State.slotType?, hk, hkind, hf]
  simp only [Jvm.newArray, Jvm.arrayFits, wp_bind', W.ask, W.ite, W.theClass, W.alloc, W.stop, wp_pure', h1, if_false, hk, hkind, h2, Option.some.injEq, exists_eq_left', Array.size_replicate]
  rw [arrV_new]
  first
    | exact ⟨h3, h4, hfit, hq _⟩
    | (rw [if_neg (by omega)]; exact ⟨h3, h4, hfit, hq _⟩)
theorem mg_row {cI cx : ClassId} {kI : Class} {k : Int32} {K : Nat} (hkI : s.vm.classes[cI]? = some kI) (hkindI : kI.kind = .array cx .int) (hk : ¬ k < 0) (hK : k.toNatClampNeg = K) (h1 : ¬ K > e.platform.arrayLengthLimit) (h2 : ¬ K * 4 > e.platform.maxHeapBytes) (h3 : s.heap.size < e.platform.maxCells) (h4 : s.slotsUsed + K ≤ e.platform.maxSlots) {Q : Addr → Pre} (hq : ∀ acts', Q s.heap.size d acts' (s.pushCell (mg_in cI K))) : wp (multianewarray.make cI [k]) Q E e d acts s := by
  rw [multianewarray.make]
  simp only [wp_bind', W.ite, W.theClass, wp_pure', hk, if_false, hkI, hkindI, Option.some.injEq, exists_eq_left']
  rw [hK]
  exact mg_new hkI hkindI h1 h2 rfl h3 h4 hq
theorem mg_grid {cA cI cx : ClassId} {kA kI : Class} {n k : Int32} {N K : Nat} (hkA : s.vm.classes[cA]? = some kA) (hkindA : kA.kind = .array cI (.array .int)) (hkI : s.vm.classes[cI]? = some kI) (hkindI : kI.kind = .array cx .int) (hn : ¬ n < 0) (hk : ¬ k < 0) (hN : n.toNatClampNeg = N) (hK : k.toNatClampNeg = K)
    (h1 : ¬ N > e.platform.arrayLengthLimit) (h2 : ¬ N * 4 > e.platform.maxHeapBytes) (h3 : ¬ K > e.platform.arrayLengthLimit) (h4 : ¬ K * 4 > e.platform.maxHeapBytes) (h5 : s.heap.size + (1 + N) ≤ e.platform.maxCells) (h6 : s.slotsUsed + (N + N * K) ≤ e.platform.maxSlots)
    {Q : Addr → Pre} (hq : ∀ d' acts', Q s.heap.size d' acts' (mg_st s cA cI N K N)) : wp (multianewarray.make cA [n, k]) Q E e d acts s := by
  have hmono : ∀ i : Nat, i < N → i * K + K ≤ N * K := fun i hi => by
    have := Nat.mul_le_mul_right K (show i + 1 ≤ N from hi)
    rw [Nat.succ_mul] at this
    exact this
  have hfd : ([k].find? (fun x => decide (x < 0))) = none := by simp [hk]
  rw [multianewarray.make]
  simp only [wp_bind', W.ite, W.theClass, wp_pure', hn, if_false, hkA, hkindA, Option.some.injEq, exists_eq_left']
  rw [hN]
  refine mg_new hkA hkindA h1 h2 rfl (by omega) (by omega) (fun acts1 => ?_)
  simp only [hfd]
  rw [ite_self, wp_bind', Std.Legacy.Range.forIn_eq_forIn_range']
  rw [show ([:N] : Std.Legacy.Range).size = N by simp [Std.Legacy.Range.size]]
  refine wp_forIn_inv (fun l u => ∃ i, i ≤ N ∧ l = List.range' i (N - i) ∧ u = mg_st s cA cI N K i) _ _ ⟨0, Nat.zero_le _, rfl, rfl⟩ ?_ ?_
  · rintro x l u d' acts' Q' ⟨i, hi, hl, rfl⟩ hnx
    cases hm : N - i with
    | zero => rw [hm] at hl; cases hl
    | succ r =>
      rw [hm, List.range'_succ] at hl
      obtain ⟨rfl, rfl⟩ := List.cons.inj hl
      obtain ⟨g1, g2, g3, g4, g5, g6⟩ := mg_is_st (s := s) cA cI N K x
      have hb := hmono x (by omega)
      simp only [wp_bind']
      refine mg_row (by rw [g2]; exact hkI) hkindI hk hK h3 h4 (by rw [g1]; omega) (by rw [g3]; omega) (fun acts2 => ?_)
      simp only [wp_bind', W.writeLoc, wp_pure']
      refine ⟨mg_out cA N s.heap.size x, ?_, (fun h => by cases h), ?_, ?_, hnx _ _ _ ⟨x + 1, by omega, by rw [show N - (x + 1) = r by omega], ?_⟩⟩
      · show ((mg_st s cA cI N K x).heap.push _)[s.heap.size]? = _
        rw [Array.getElem?_push, if_neg (by omega)]
        exact g4
      · unfold mg_out
        rw [arrV_size]
        omega
      · show State.fitsSlot (mg_st s cA cI N K x) cA .none x (.ref _) = true
        simp [State.fitsSlot, State.slotType?, g2, hkA, hkindA, fits]
      · show _ = ((mg_st s cA cI N K x).pushCell (mg_in cI K)).setCell s.heap.size (mg_out cA N s.heap.size (x + 1))
        rw [g1, mg_step]
  · rintro u d' acts' ⟨i, hi, hl, rfl⟩
    cases hm : N - i with
    | zero =>
      have hiN : i = N := by omega
      subst hiN
      simp only [wp_pure']
      exact hq _ _
    | succ r => rw [hm, List.range'_succ] at hl; cases hl
end MG
section MGW
variable {p : Program} {l : Launch} {e : Env} {R : Room} {s : State} {m : MethodId} {args : Array Value} {below : List Frame} {meth : Method} {c : Code} {H : Heap} {locs : List Loc} {cells slots : Nat} {Q : State → Prop}
theorem mg_stand {T : State} (X : Stand p l e R s m args below meth c T locs cells slots) (cA cI : ClassId) (N K : Nat) : ∀ i : Nat, Stand p l e R s m args below meth c (mg_st T cA cI N K i) (locs ++ (List.range i).map (fun j => ⟨T.heap.size, j⟩)) (cells + 1 + i) (slots + N + i * K)
  | 0 => by
    have h := X.pushed (mg_out cA N T.heap.size 0)
    rw [show (mg_out cA N T.heap.size 0).slots.size = N from arrV_size _ _ _] at h
    rw [List.range_zero, List.map_nil, List.append_nil, Nat.zero_mul]
    exact h
  | i + 1 => by
    have h := (mg_stand X cA cI N K i).pushed (mg_in cI K)
    rw [show (mg_in cI K).slots.size = K from arrV_size _ _ _] at h
    obtain ⟨g1, g2, g3, g4, g5, g6⟩ := mg_is_st (s := T) cA cI N K i
    have hc : ((mg_st T cA cI N K i).pushCell (mg_in cI K)).heap[T.heap.size]? = some (mg_out cA N T.heap.size i) := by
      show ((mg_st T cA cI N K i).heap.push _)[T.heap.size]? = _
      rw [Array.getElem?_push, if_neg (by omega)]
      exact g4
    have h2 := h.stored hc i (.ref (T.heap.size + 1 + i))
    rw [mg_step] at h2
    rw [List.range_succ, List.map_append, List.map_cons, List.map_nil, ← List.append_assoc, show slots + N + (i + 1) * K = slots + N + i * K + K by rw [Nat.succ_mul, ← Nat.add_assoc]]
    exact h2
variable {cc : ByteArray} {pc : Nat} {ls : Array Slot} {rest : List Value}
theorem mg_W (hexec : p.tables.exec = Jvm.exec) (hb : c.code = cc) {own : String} {index : Nat} (hown : s.vm.findClass own = some m.cls) (hcl : (Cond.classLink own index "[[I").before args s = true) {cA cI cx : ClassId} {kA kI : Class} (hfA : s.vm.findClass "[[I" = some cA) (hkA : s.vm.classes[cA]? = some kA) (hkindA : kA.kind = .array cI (.array .int)) (hkI : s.vm.classes[cI]? = some kI) (hkindI : kI.kind = .array cx .int)
    {n k : Int32} {N K : Nat} (hn : ¬ n < 0) (hk : ¬ k < 0) (hN : n.toNatClampNeg = N) (hK : k.toNatClampNeg = K) (hb1 : N * 4 ≤ 536870912) (hb2 : K * 4 ≤ 536870912) (hcells : cells + (1 + N) ≤ R.cells) (hslots : slots + (N + N * K) ≤ R.slots) (hdg : decode cc pc = .ok (.multianewarray index 2, 4))
    (kk : ∀ H1 : Heap, H1.size = H.size + 1 + N → H1[H.size]? = some (mg_out cA N H.size N) → (∀ q : Nat, q < H.size → H1[q]? = H[q]?) → (∀ j : Nat, j < N → H1[H.size + 1 + j]? = some (mg_in cI K)) → W p l e R s m args below meth c H1 (locs ++ (List.range N).map (fun j => ⟨H.size, j⟩)) (cells + 1 + N) (slots + N + N * K) Q (F0 m (pc + 4) ls (.ref H.size :: rest))) :
    W p l e R s m args below meth c H locs cells slots Q (F0 m pc ls (.int k :: .int n :: rest)) := by
  intro T hT X
  subst hT; subst hb
  have hpl : e.platform.magicAccessors = ({} : Platform).magicAccessors := by rw [X.admits.platform]
  obtain ⟨c0, hf0, hlk⟩ := Cond.classLink_spec hown hcl e.platform hpl
  cases hfA.symm.trans hf0
  obtain ⟨hgv, hwm, -⟩ := State.classEntry (e := e) X.warmed hlk
  generalize T.vm.noted m.cls index (.cls cA) = vm₁ at hgv hwm
  obtain ⟨kA₁, hkA₁, heA⟩ := hwm.alike.2.2 _ _ hkA
  obtain ⟨kI₁, hkI₁, heI⟩ := hwm.alike.2.2 _ _ hkI
  have hqA : kA₁.kind = .array cI (.array .int) := by rw [heA]; exact hkindA
  have hqI : kI₁.kind = .array cx .int := by rw [heI]; exact hkindI
  have XF := mg_stand (X.noted hwm) cA cI N K N
  obtain ⟨g1, g2, g3, g4, g5, g6⟩ := mg_is_st (s := T.setVm vm₁) cA cI N K N
  obtain ⟨t, a1, b1⟩ := kk (mg_st (T.setVm vm₁) cA cI N K N).heap g1 g4 g5 g6 _ rfl XF
  refine ⟨t, ?_, b1⟩
  obtain ⟨hr1, hr2⟩ := X.roomAbove hcells hslots
  have hl1 : ¬ N > e.platform.arrayLengthLimit := by rw [Launch.admits_arrayLengthLimit X.admits]; omega
  have hl2 : ¬ K > e.platform.arrayLengthLimit := by rw [Launch.admits_arrayLengthLimit X.admits]; omega
  have hh1 : ¬ N * 4 > e.platform.maxHeapBytes := by rw [Launch.admits_maxHeapBytes X.admits]; omega
  have hh2 : ¬ K * 4 > e.platform.maxHeapBytes := by rw [Launch.admits_maxHeapBytes X.admits]; omega
  jvm_step X.here [hexec, hdg]
  simp only [multianewarray.sem, wp_bind', W.resolveClassAt_links (State.method?_setTop (F0 m pc ls (.int k :: .int n :: rest)) X.here.top) hgv]
  rw [W.popN, if_neg (by decide)]
  refine ⟨_, State.topJava?_setTop' (s := T.setVm vm₁) (F0 m pc ls (.int k :: .int n :: rest)) X.here.top, [.int n, .int k], rest, rfl, rfl, ?_⟩
  simp only [List.mapM_cons, List.mapM_nil, wp_bind', wp_pure']
  rw [show ((T.setTop (F0 m pc ls (.int k :: .int n :: rest))).setVm vm₁).setTop (F0 m pc ls rest) = (T.setVm vm₁).setTop (F0 m pc ls rest) from State.setTop_setTop (s := T.setVm vm₁) _ _]
  refine mg_grid (s := (T.setVm vm₁).setTop (F0 m pc ls rest)) (N := N) (K := K) (kA := kA₁) (kI := kI₁) (cI := cI) (cx := cx) hkA₁ hqA hkI₁ hqI hn hk hN hK hl1 hh1 hl2 hh2 hr1 hr2 (fun d' acts' => ?_)
  rw [mg_top]
  simp only [wp_bind', W.mark, W.pushRef, State.topJava?_setTop' _ XF.here.top, Option.some.injEq, exists_eq_left', State.setTop_setTop, State.heap_setTop]
  intro acts2
  simp [jvm, XF.here.top]
  exact a1
end MGW
