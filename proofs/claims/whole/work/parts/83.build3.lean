/-! the builder: contracts and calls of constructors -/
def BM (d kc ks : Nat) (y : MethodName) (cc : ByteArray) (nL : Nat) (av : List Value) (w0 : va_W) (post : (Nat → ClassId) → va_W → Prop) : Prop :=
  ∀ (l : Launch) (dC : Nat → ClassId) (dI : Nat → Nat → Nat) (dA : Nat → ClassId) (sz : Nat), Met l y (.code y cc nL none :: am_BW) ({ frames := d, cells := kc, slots := ks, locals := 32 * d } : Room) (va_Pc av (fun U => U.heap.size = sz ∧ va_P (dC, dI) vwCl w0 U.heap ∧ bm_E dC dI dA U ∧ va_D (fun _ => True) w0)) (va_Qv (fun u : va_W => post dA u) (fun u t => va_P (dC, dI) vwCl u t.heap ∧ va_D (va_A w0 sz) u) (va_A w0 sz)) kc ks (va_A w0 sz)
theorem bm_intro {d kc ks nL : Nat} {y : MethodName} {cc : ByteArray} {av : List Value} {w0 : va_W} {post : (Nat → ClassId) → va_W → Prop} (hy : plainName y.cls = true) (hy2 : y.name = "<init>") (hlen : (lg_sl av).length ≤ nL)
    (k : ∀ X : BT, BX X d kc ks y.cls cc nL → BI X → (∀ (pc : Nat) (lv : List (Nat × Value)) (ws : va_W), decode cc pc = .ok (.return_, 1) → post (bdA X) ws → BW X nL pc kc ks lv [] ws) → BW X nL 0 0 0 (lv_args 0 av) [] w0) : BM d kc ks y cc nL av w0 post := by
  intro l dC dI dA sz
  refine Met.ofW (cc := cc) (maxL := nL) (ret := none) hy rfl ?_
  intro p e s m args below meth c s₁ B hml hv
  obtain ⟨rfl, hsz, hP, hE, hD0⟩ := hv
  subst hsz
  have hts := atoms_spec (ws := .code y cc nL none :: am_BW) B.pre
  have hl := lv_entry av (n := nL) hlen
  rw [lg_entry_eq]
  generalize (lg_sl av ++ List.replicate (nL - (lg_sl av).length) Slot.unset).toArray = ls at hl ⊢
  have hin : meth.name = "<init>" := (name_of_methodNamed B.named B.method).1.trans hy2
  refine k (p, l, e, (headSpec (.code y cc nL none :: am_BW) ({ frames := d, cells := kc, slots := ks, locals := 32 * d } : Room)).room, s, m, av.toArray, below, meth, c, MQ below (va_Qv (fun u : va_W => post dA u) (fun u t => va_P (dC, dI) vwCl u t.heap ∧ va_D (va_A w0 s.heap.size) u) (va_A w0 s.heap.size)) av.toArray s kc ks (va_A w0 s.heap.size), dC, dI, dA, va_A w0 s.heap.size)
    ⟨B.exec, B.bytes, hml, findClass_of_methodNamed B.named, fun w hw => hts w (List.mem_cons_of_mem _ hw), hE, fun q hq => Or.inr hq, Nat.le_refl _, Nat.le_refl _, Nat.le_refl _, Nat.le_refl _⟩ hin (fun pc lv ws hd hp => ?_) s.heap [] ls hP hD0.self va_S.rf hl
  intro H locs ls' hP' hD' hS' hl'
  exact W.vret B.exec B.bytes B.returns (fun t ht _ => ⟨⟨ws, rfl, hp, by rw [ht]; exact hP', hD'⟩, hS'.F ht⟩) hS'.2.2 hd B.notSynchronized
theorem bm_join {A0 : Nat → Prop} {D : va_G} {cl : List vw_C} {ws u : va_W} {b : Nat} {e : va_E} {H H1 : Heap} (hP : va_P D cl (ws ++ [(b, e)]) H) (hD : va_D A0 (ws ++ [(b, e)])) (hk : ∀ q : Nat, q < H.size → ¬ va_A [(b, e)] H.size q → H1[q]? = H[q]?) (hF : ∀ q, va_A [(b, e)] H.size q → A0 q) (hP1 : va_P D cl u H1) (hD1 : va_D (va_A [(b, e)] H.size) u) : va_P D cl (ws ++ u) H1 ∧ va_D A0 (ws ++ u) := by
  have hlast : (ws ++ [(b, e)])[ws.length]? = some (b, e) := by
    rw [List.getElem?_append_right (Nat.le_refl _), Nat.sub_self]
    rfl
  have hw : ∀ (k : Nat) (q : Nat × va_E), ws[k]? = some q → (ws ++ [(b, e)])[k]? = some q ∧ k < ws.length := fun k q hq => by
    have hl : k < ws.length := (List.getElem?_eq_some_iff.mp hq).1
    exact ⟨by rw [List.getElem?_append_left hl]; exact hq, hl⟩
  have hap : ∀ (k : Nat) (q : Nat × va_E), ws[k]? = some q → q.1 < H.size ∧ ¬ va_A [(b, e)] H.size q.1 := fun k q hq => by
    obtain ⟨h1, h2⟩ := hw k q hq
    have hlt := (hP k q h1).lt
    refine ⟨hlt, fun h => ?_⟩
    rcases h with ⟨j, f, hj⟩ | h
    · have hj0 : j < 1 := (List.getElem?_eq_some_iff.mp hj).1
      rw [show j = 0 by omega] at hj
      cases hj
      have := hD.1 k ws.length q _ h1 hlast rfl
      omega
    · omega
  refine ⟨va_P.app (fun k q hq => (hP k q (hw k q hq).1).kept (hk q.1 (hap k q hq).1 (hap k q hq).2)) hP1, va_D.app ⟨fun i j x y hx hy hxy => hD.1 i j x y (hw i x hx).1 (hw j y hy).1 hxy, fun k q hq => hD.2 k q (hw k q hq).1⟩ (hD1.weaken (fun k q _ h => hF q.1 h)) (fun i j x y hx hy hxy => (hap i x hx).2 (by rw [hxy]; exact hD1.2 j y hy))⟩
/-- a constructor's own words -/
def bm_Y (y : MethodName) (cy : ByteArray) (nLy np : Nat) : Prop := Cond.code y cy nLy none ∈ am_BW ∧ Cond.initialized y.cls ∈ am_BW ∧ Cond.instanceMethod y ∈ am_BW ∧ y.name = "<init>" ∧ (y.cls ≠ "java/lang/invoke/MethodHandle" ∧ y.cls ≠ "java/lang/invoke/VarHandle" ∧ (parseMethodDescriptor y.desc).map (fun d => d.parameters.length) = some np) ∧ nLy ≤ 13
section BLD3
variable {X : BT} {d kc ks pc n nL cells slots : Nat} {own : String} {cc : ByteArray} {lv : List (Nat × Value)} {st stk : List Value} {ws : va_W}
variable {y : MethodName} {cy : ByteArray} {nLy np dy ky sy idx b c1 s1 : Nat} {As : List Value} {e : va_E} {post : (Nat → ClassId) → va_W → Prop}
theorem bm_Dc : va_D (fun _ => True) [(b, e)] := ⟨fun i j x y hx hy _ => by
  have h1 : i < 1 := (List.getElem?_eq_some_iff.mp hx).1
  have h2 : j < 1 := (List.getElem?_eq_some_iff.mp hy).1
  omega, fun _ _ _ => trivial⟩
theorem bm_at {D : va_G} {H : Heap} (hP : va_P D vwCl (ws ++ [(b, e)]) H) : va_P D vwCl [(b, e)] H := fun k q hq => by
  have h1 : k < 1 := (List.getElem?_eq_some_iff.mp hq).1
  rw [show k = 0 by omega] at hq
  cases hq
  exact hP ws.length _ (by rw [List.getElem?_append_right (Nat.le_refl _), Nat.sub_self]; rfl)
theorem bm_free {A0 : Nat → Prop} {H0 H : Heap} {locs : List Loc} (hD : va_D A0 (ws ++ [(b, e)])) (hS : va_S A0 H0 H locs) (hA : ∀ q, H0.size ≤ q → A0 q) : ∀ q, va_A [(b, e)] H.size q → A0 q := by
  intro q h
  rcases h with ⟨j, f, hj⟩ | h
  · have hj0 : j < 1 := (List.getElem?_eq_some_iff.mp hj).1
    rw [show j = 0 by omega] at hj
    cases hj
    exact hD.2 ws.length _ (by rw [List.getElem?_append_right (Nat.le_refl _), Nat.sub_self]; rfl)
  · exact hA q (Nat.le_trans hS.1 h)
theorem bm_blind {av : List Value} {dC : Nat → ClassId} {dI : Nat → Nat → Nat} {dA : Nat → ClassId} {sz : Nat} {w0 : va_W} : FrameBlind (va_Pc av (fun U => U.heap.size = sz ∧ va_P (dC, dI) vwCl w0 U.heap ∧ bm_E dC dI dA U ∧ va_D (fun _ => True) w0)) := fun a U g mk q => by
  obtain ⟨q0, q1, qP, qE, qD⟩ := q
  exact ⟨q0, q1, qP, qE.same rfl, qD⟩
theorem bw_cI (C : BX X d kc ks own cc nL) (hd : decode cc pc = .ok (.invokespecial idx, 3)) (hn : pc + 3 = n) (hst : stk = As.reverse ++ .ref b :: st) (hnp : As.length = np) (hY : bm_Y y cy nLy np) (hlk : Cond.methodLink own idx y ∈ am_BW) (hroom : (st.map fun v => v.category).sum ≤ 8) (hM : BM dy ky sy y cy nLy (.ref b :: As) [(b, e)] post) (hdd : dy < d) (e1 : cells + ky = c1) (e2 : slots + sy = s1) (h1 : c1 ≤ kc) (h2 : s1 ≤ ks) (kk : ∀ u, post (bdA X) u → BW X nL n c1 s1 lv st (ws ++ u)) : BW X nL pc cells slots lv stk (ws ++ [(b, e)]) := by
  obtain ⟨p, l, ee, R, s, m, args, below, meth, c, Q, dC, dI, dA, A⟩ := X
  obtain ⟨hx, hb, hml, hown, hts, hE, hA, hfr, hlo, hce, hsl⟩ := C
  obtain ⟨y1, y2, y3, y4, y5, y6⟩ := hY
  subst hn; subst e1; subst e2; subst hst; subst hnp
  intro H locs ls hP hD hS hl
  have hFc := bm_free hD hS hA
  refine va_callv (va_runI (b := b) (As := As) (rest := st) ⟨hx, hb, hml, hown, hts⟩ (hM l dC dI dA H.size) (cwI As.length hts (am_good_code y1) rfl rfl rfl (hts _ y2) (hts _ hlk) (hts _ y3) y4 y5 ⟨by show dy + 1 ≤ _; omega, by show 8 + (nLy + 11) + 32 * dy ≤ _; omega⟩) ⟨bm_blind, fun U hU hW => ⟨rfl, by rw [hU], by rw [hU]; exact bm_at hP, hE.warm hW, bm_Dc⟩⟩ rfl rfl hl.1 rfl (lv_room hroom) hd ⟨by omega, by omega⟩) hS (fun q _ h => hFc q h) hFc (fun u t H1 locs1 ht hvm hw hB hz1 hk1 hS1 => ?_)
  obtain ⟨hP1, hD1⟩ := hB
  rw [ht] at hP1
  obtain ⟨hP2, hD2⟩ := bm_join hP hD hk1 hFc hP1 hD1
  exact kk u hw H1 locs1 ls hP2 hD2 hS1 hl
theorem bw_cN (C : BX X d kc ks RX6 cc nL) (hd : decode cc pc = .ok (.invokespecial idx, 3)) (hn : pc + 3 = n) (hst : stk = As.reverse ++ .ref b :: st) (hnp : As.length = np) (hY : bm_Y y cy nLy np) (hlk : ∀ U, bm_N U → va_Nw (.methodLinkNest RX6 idx y RX6) U) (hroom : (st.map fun v => v.category).sum ≤ 8) (hM : BM dy ky sy y cy nLy (.ref b :: As) [(b, e)] post) (hdd : dy < d) (e1 : cells + ky = c1) (e2 : slots + sy = s1) (h1 : c1 ≤ kc) (h2 : s1 ≤ ks) (kk : ∀ u, post (bdA X) u → BW X nL n c1 s1 lv st (ws ++ u)) : BW X nL pc cells slots lv stk (ws ++ [(b, e)]) := by
  obtain ⟨p, l, ee, R, s, m, args, below, meth, c, Q, dC, dI, dA, A⟩ := X
  obtain ⟨hx, hb, hml, hown, hts, hE, hA, hfr, hlo, hce, hsl⟩ := C
  obtain ⟨y1, y2, y3, y4, y5, y6⟩ := hY
  subst hn; subst e1; subst e2; subst hst; subst hnp
  intro H locs ls hP hD hS hl
  have hFc := bm_free hD hS hA
  refine va_callv (va_runIN (b := b) (As := As) (rest := st) ⟨hx, hb, hml, hown, hts⟩ (hM l dC dI dA H.size) ⟨va_cnB As.length hts (am_good_code y1) rfl rfl rfl (hlk s hE.2.2) (hts _ y2) y5 ⟨by show dy + 1 ≤ _; omega, by show 8 + (nLy + 11) + 32 * dy ≤ _; omega⟩, y4, hts _ y3⟩ ⟨bm_blind, fun U hU hW => ⟨rfl, by rw [hU], by rw [hU]; exact bm_at hP, hE.warm hW, bm_Dc⟩⟩ rfl rfl hl.1 rfl (lv_room hroom) hd ⟨by omega, by omega⟩) hS (fun q _ h => hFc q h) hFc (fun u t H1 locs1 ht hvm hw hB hz1 hk1 hS1 => ?_)
  obtain ⟨hP1, hD1⟩ := hB
  rw [ht] at hP1
  obtain ⟨hP2, hD2⟩ := bm_join hP hD hk1 hFc hP1 hD1
  exact kk u hw H1 locs1 ls hP2 hD2 hS1 hl
end BLD3
