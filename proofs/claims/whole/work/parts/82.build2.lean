/-! the builder: rows of rows, fields, cells -/
section BLD2
variable {X : BT} {d kc ks pc n nL cells slots : Nat} {own : String} {cc : ByteArray} {lv : List (Nat × Value)} {st : List Value} {ws tl : va_W}
theorem bm_outE (dA : Nat → ClassId) (N q : Nat) : vp_cell (dA 3) (N, .inr (.inr (.inr (.inr (fun j => if j < N then some (q + 1 + j) else none))))) = mg_out (dA 3) N q N := by
  rw [vp_cell_q]
  unfold mg_out
  congr 1
  funext j
  show va_rf (if j < N then some (q + 1 + j) else none) = _
  by_cases h : j < N
  · rw [if_pos h, if_pos h]; rfl
  · rw [if_neg h, if_neg h]; rfl
theorem bw_multi {N K idx c1 s1 : Nat} {v w : Int32} (C : BX X d kc ks own cc nL) (hd : decode cc pc = .ok (.multianewarray idx 2, 4)) (hn : pc + 4 = n) (hcl : Cond.classLink own idx "[[I" ∈ am_BW) (hv : ¬ v < 0) (hw : ¬ w < 0) (hN : v.toNatClampNeg = N) (hK : w.toNatClampNeg = K) (hb1 : N * 4 ≤ 536870912) (hb2 : K * 4 ≤ 536870912) (e1 : cells + 1 + N = c1) (e2 : slots + N + N * K = s1) (h1 : c1 ≤ kc) (h2 : s1 ≤ ks)
    (kk : ∀ q : Nat, BW X nL n c1 s1 lv (.ref q :: st) (ws ++ ((q, aR (bdA X) N q) :: (List.range N).map (fun j => (q + 1 + j, aI (bdA X) K))))) : BW X nL pc cells slots lv (.int w :: .int v :: st) ws := by
  obtain ⟨p, l, e, R, s, m, args, below, meth, c, Q, dC, dI, dA, A⟩ := X
  obtain ⟨hx, hb, hml, hown, hts, hE, hA, hfr, hlo, hce, hsl⟩ := C
  subst hn; subst e1; subst e2
  intro H locs ls hP hD hS hl
  obtain ⟨k3, k0, cx, g1, g2, g3, g4, g5⟩ := hE.2.1
  refine mg_W hx hb hown (hts _ hcl) g3 g1 g2 g4 g5 hv hw hN hK hb1 hb2 (by omega) (by omega) hd (fun H1 z1 o1 k1 r1 => ?_)
  have hlt : ∀ (k : Nat) (x : Nat × va_E), ws[k]? = some x → x.1 < H.size := fun k x hx => (hP k x hx).lt
  have hat : ∀ (k : Nat) (x : Nat × va_E), ((H.size, aR dA N H.size) :: (List.range N).map (fun j => (H.size + 1 + j, aI dA K)))[k]? = some x → x.1 = H.size + k ∧ va_at (dC, dI) vwCl x H1 := fun k x hx => by
    match k, hx with
    | 0, hx =>
      cases hx
      refine ⟨rfl, ?_⟩
      show H1[H.size]? = some (vp_cell (dA 3) (N, .inr (.inr (.inr (.inr (fun j => if j < N then some (H.size + 1 + j) else none))))))
      rw [bm_outE]
      exact o1
    | j + 1, hx =>
      rw [List.getElem?_cons_succ, List.getElem?_map] at hx
      by_cases hj : j < N
      · rw [List.getElem?_range hj] at hx
        cases hx
        refine ⟨by show H.size + 1 + j = _; omega, ?_⟩
        show H1[H.size + 1 + j]? = some (vp_cell (dA 0) (K, .inl (fun _ => 0)))
        rw [r1 j hj]
        rfl
      · rw [List.getElem?_eq_none (by rw [List.length_range]; omega)] at hx
        cases hx
  refine kk H.size H1 _ ls ((hP.kept (fun k x hx => k1 x.1 (hlt k x hx))).app (fun k x hx => (hat k x hx).2)) (hD.app ⟨fun i j x y hx hy hxy => ?_, fun k x hx => ?_⟩ (fun i j x y hx hy => ?_)) ⟨by have := hS.1; omega, fun q q1 q2 => (k1 q (by have := hS.1; omega)).trans (hS.2.1 q q1 q2), fun x hx => ?_⟩ hl
  · have a1 := (hat i x hx).1
    have a2 := (hat j y hy).1
    omega
  · rw [(hat k x hx).1]
    exact hA _ (by have := hS.1; omega)
  · have a1 := hlt i x hx
    have a2 := (hat j y hy).1
    omega
  · rcases List.mem_append.mp hx with h | h
    · exact hS.2.2 x h
    · obtain ⟨j, -, rfl⟩ := List.mem_map.mp h
      exact hA _ hS.1
theorem bw_putF {h0 ci k idx N : Nat} {Cn : String} {T : u_T} {fs : List Value} {v : Value} {ty : FieldType} (ty0 : Nat → FieldType) (C : BX X d kc ks own cc nL) (hI : BI X) (hd : decode cc pc = .ok (.putfield idx, 3)) (hn : pc + 3 = n) (hin : ∀ w ∈ u_ws Cn T N, w ∈ am_BW) (hty : ∀ k, k < N → parseFieldDescriptor (T k).2.2.1 = some (ty0 k)) (hnm : ∀ a, a < N → ∀ b, b < N → a ≠ b → (T a).2.1 ≠ (T b).2.1) (hc : vwCl[ci]? = some (Cn, T, N)) (hk : k < N) (hlk : Cond.fieldLink own idx (T k).1 (T k).2.1 (T k).2.2.1 ∈ am_BW) (hfin : (T k).2.2.2 = true) (hdc : (T k).1 = own) (htk : parseFieldDescriptor (T k).2.2.1 = some ty) (hnw : narrow ty v = v) (hft : fits ty v = true) (hl0 : k < fs.length)
    (kk : BW X nL n cells slots lv st ((h0, .inr (ci, fs.set k v)) :: tl)) : BW X nL pc cells slots lv (v :: .ref h0 :: st) ((h0, .inr (ci, fs)) :: tl) := by
  obtain ⟨p, l, e, R, s, m, args, below, meth, c, Q, dC, dI, dA, A⟩ := X
  obtain ⟨hx, hb, hml, hown, hts, hE, hA, hfr, hlo, hce, hsl⟩ := C
  subst hn
  intro H locs ls hP hD hS hl
  exact va_putF (D := (dC, dI)) hx hb hts hin ty0 hty hnm hown hE.1 hP hD hS 0 rfl hc k hk (hts _ hlk) (fun _ h => h) hfin hI hdc htk hnw hft hl0 hd (fun H1 locs1 hP1 hD1 hS1 => kk H1 locs1 ls hP1 hD1 hS1 hl)
theorem bw_put {h0 ci k idx N : Nat} {Cn : String} {T : u_T} {fs : List Value} {v : Value} {ty : FieldType} (ty0 : Nat → FieldType) (C : BX X d kc ks own cc nL) (hd : decode cc pc = .ok (.putfield idx, 3)) (hn : pc + 3 = n) (hin : ∀ w ∈ u_ws Cn T N, w ∈ am_BW) (hty : ∀ k, k < N → parseFieldDescriptor (T k).2.2.1 = some (ty0 k)) (hnm : ∀ a, a < N → ∀ b, b < N → a ≠ b → (T a).2.1 ≠ (T b).2.1) (hc : vwCl[ci]? = some (Cn, T, N)) (hk : k < N) (hlk : Cond.fieldLink own idx (T k).1 (T k).2.1 (T k).2.2.1 ∈ am_BW) (hfin : (T k).2.2.2 = false) (htk : parseFieldDescriptor (T k).2.2.1 = some ty) (hnw : narrow ty v = v) (hft : fits ty v = true) (hl0 : k < fs.length)
    (kk : BW X nL n cells slots lv st ((h0, .inr (ci, fs.set k v)) :: tl)) : BW X nL pc cells slots lv (v :: .ref h0 :: st) ((h0, .inr (ci, fs)) :: tl) := by
  obtain ⟨p, l, e, R, s, m, args, below, meth, c, Q, dC, dI, dA, A⟩ := X
  obtain ⟨hx, hb, hml, hown, hts, hE, hA, hfr, hlo, hce, hsl⟩ := C
  subst hn
  intro H locs ls hP hD hS hl
  exact va_put (D := (dC, dI)) hx hb hts hin ty0 hty hnm hown hE.1 hP hD hS 0 rfl hc k hk (hts _ hlk) (fun _ h => h) hfin htk hnw hft hl0 hd (fun H1 locs1 hP1 hD1 hS1 => kk H1 locs1 ls hP1 hD1 hS1 hl)
theorem bw_get {h0 ci k idx N : Nat} {Cn : String} {T : u_T} {fs : List Value} {v : Value} (C : BX X d kc ks own cc nL) (hd : decode cc pc = .ok (.getfield idx, 3)) (hn : pc + 3 = n) (hin : ∀ w ∈ u_ws Cn T N, w ∈ am_BW) (hc : vwCl[ci]? = some (Cn, T, N)) (hk : k < N) (hlk : Cond.fieldLink own idx (T k).1 (T k).2.1 (T k).2.2.1 ∈ am_BW) (hv : fs[k]? = some v) (kk : BW X nL n cells slots lv (v :: st) ((h0, .inr (ci, fs)) :: tl)) : BW X nL pc cells slots lv (.ref h0 :: st) ((h0, .inr (ci, fs)) :: tl) := by
  obtain ⟨p, l, e, R, s, m, args, below, meth, c, Q, dC, dI, dA, A⟩ := X
  obtain ⟨hx, hb, hml, hown, hts, hE, hA, hfr, hlo, hce, hsl⟩ := C
  subst hn
  intro H locs ls hP hD hS hl
  exact va_get (D := (dC, dI)) hx hb hts hin hown hE.1 hP 0 rfl hc k hk (hts _ hlk) (fun _ h => h) hv hd (kk H locs ls hP hD hS hl)
theorem bw_iast {q N : Nat} {i v : Int32} {f : Nat → Int32} {e0 : Nat × va_E} (C : BX X d kc ks own cc nL) (hd : decode cc pc = .ok (.iastore, 1)) (hn : pc + 1 = n) (hi : vp_in i N) (kk : BW X nL n cells slots lv st (e0 :: (q, .inl (bdA X 0, N, .inl (upd f i.toNatClampNeg v))) :: tl)) : BW X nL pc cells slots lv (.int v :: .int i :: .ref q :: st) (e0 :: (q, .inl (bdA X 0, N, .inl f)) :: tl) := by
  obtain ⟨p, l, e, R, s, m, args, below, meth, c, Q, dC, dI, dA, A⟩ := X
  obtain ⟨hx, hb, hml, hown, hts, hE, hA, hfr, hlo, hce, hsl⟩ := C
  subst hn
  intro H locs ls hP hD hS hl
  exact va_iast (D := (dC, dI)) hx hb hE.1 hP hD hS 1 0 rfl rfl hi hd (fun H1 locs1 hP1 hD1 hS1 => kk H1 locs1 ls hP1 hD1 hS1 hl)
theorem bm_c2 {dC : Nat → ClassId} {dI : Nat → Nat → Nat} {dA : Nat → ClassId} {s : State} {cA : ClassId} (h : va_K (dC, dI) vwCl (am_ty dA ++ [(cA, .object "RegretLine$Sheet")]) s) : cA = dA 2 := by
  obtain ⟨k1, c1, h1, h2, h3, h4⟩ := (h.2 4 _ rfl).2
  obtain ⟨k2, c2, g1, g2, g3, g4⟩ := (h.2 2 _ rfl).2
  exact Option.some.inj (h4.symm.trans g4)
theorem bw_anew {N idx c1 s1 : Nat} {v : Int32} (C : BX X d kc ks own cc nL) (hd : decode cc pc = .ok (.anewarray idx, 3)) (hn : pc + 3 = n) (hcl : Cond.classLink own idx "RegretLine$Sheet" ∈ am_BW) (hv : ¬ v < 0) (hN : v.toNatClampNeg = N) (hbt : N * 4 ≤ 536870912) (e1 : cells + 1 = c1) (e2 : slots + N = s1) (h1 : c1 ≤ kc) (h2 : s1 ≤ ks)
    (kk : ∀ q : Nat, BW X nL n c1 s1 lv (.ref q :: st) (ws ++ [(q, .inl (bdA X 2, N, .inr (.inr (.inr (.inr (fun _ => none))))))])) : BW X nL pc cells slots lv (.int v :: st) ws := by
  obtain ⟨p, l, e, R, s, m, args, below, meth, c, Q, dC, dI, dA, A⟩ := X
  obtain ⟨hx, hb, hml, hown, hts, hE, hA, hfr, hlo, hce, hsl⟩ := C
  subst hn; subst e1; subst e2
  intro H locs ls hP hD hS hl
  refine va_newq hx hb hown (hts _ hcl) hE.2.2.2.2.2 hE.1 hP hD hS hA hv hN hbt (by omega) (by omega) hd (fun q cA H1 hK1 hP1 hD1 hS1 => ?_)
  cases bm_c2 hK1
  exact kk q H1 locs ls hP1 hD1 hS1 hl
theorem bw_aast {q N v : Nat} {i : Int32} {f : Nat → Option Nat} {vs : List Value} {e0 : Nat × va_E} (qk : Nat) (C : BX X d kc ks own cc nL) (hd : decode cc pc = .ok (.aastore, 1)) (hn : pc + 1 = n) (hi : vp_in i N) (hv : (e0 :: (q, .inl (bdA X 2, N, .inr (.inr (.inr (.inr f))))) :: tl)[qk]? = some (v, .inr (3, vs))) (kk : BW X nL n cells slots lv st (e0 :: (q, .inl (bdA X 2, N, .inr (.inr (.inr (.inr (va_up f i.toNatClampNeg (some v))))))) :: tl)) : BW X nL pc cells slots lv (.ref v :: .int i :: .ref q :: st) (e0 :: (q, .inl (bdA X 2, N, .inr (.inr (.inr (.inr f))))) :: tl) := by
  obtain ⟨p, l, e, R, s, m, args, below, meth, c, Q, dC, dI, dA, A⟩ := X
  obtain ⟨hx, hb, hml, hown, hts, hE, hA, hfr, hlo, hce, hsl⟩ := C
  subst hn
  intro H locs ls hP hD hS hl
  exact va_astq (D := (dC, dI)) (r := (RX3, TX3, 3)) hx hb hE.1 hP hD hS 1 2 qk 3 rfl rfl hv rfl hi hd (fun H1 locs1 hP1 hD1 hS1 => kk H1 locs1 ls hP1 hD1 hS1 hl)
end BLD2
