/-! what the tables say at the law's start -/
theorem st_K {s : State} {args : Array Value} (hts : ∀ w ∈ lw_tbl, w.before args s = true) : ∃ (dC : Nat → ClassId) (dI : Nat → Nat → Nat) (dA : Nat → ClassId), bm_E dC dI dA s := by
  have htb : ∀ w ∈ am_BW, w.before args s = true := fun w hw => hts w (List.mem_filter.mp hw).1
  obtain ⟨c0, i0, k0⟩ := u_known (C := RX0) (T := TX0) (N := 8) (n := 8) htb inBX0 (hts _ wT_X0)
  obtain ⟨c1, i1, k1⟩ := u_known (C := RX1) (T := TX1) (N := 4) (n := 4) htb inBX1 (hts _ wT_X1)
  obtain ⟨c2, i2, k2⟩ := u_known (C := RX2) (T := TX2) (N := 3) (n := 3) htb inBX2 (hts _ wT_X2)
  obtain ⟨c3, i3, k3⟩ := u_known (C := RX3) (T := TX3) (N := 3) (n := 3) htb inBX3 (hts _ wT_X3)
  obtain ⟨c4, i4, k4⟩ := u_known (C := RX5) (T := TX5) (N := 12) (n := 12) htb inBX5 (hts _ wT_X5)
  obtain ⟨c5, i5, k5⟩ := u_known (C := RX6) (T := TX6) (N := 9) (n := 9) htb inBX6 (hts _ wT_X6)
  obtain ⟨c6, i6, k6⟩ := u_known (C := RX7) (T := TX7) (N := 30) (n := 30) htb inBX7 (hts _ wT_X7)
  obtain ⟨a0, ka0, x0, f0, g0, e0⟩ := Cond.arrayClass_spec (htb _ wA_int)
  obtain ⟨a1, ka1, x1, f1, g1, e1⟩ := Cond.arrayClass_spec (htb _ wA_boolean)
  obtain ⟨x2, a2, ka2, f2, -, g2, e2, h2⟩ := Cond.arrayOver_spec (hts _ wO_78)
  obtain ⟨x3, a3, ka3, f3, -, g3, e3, h3⟩ := arrayOverA_spec (hts _ wO_104)
  have hx3 : x3 = a0 := Option.some.inj (f3.symm.trans f0)
  subst hx3
  refine ⟨fun k => [c0, c1, c2, c3, c4, c5, c6].getD k 0, fun k => [i0, i1, i2, i3, i4, i5, i6].getD k i0, fun k => [x3, a1, a2, a3].getD k 0, ⟨fun k q hq => ?_, fun k q hq => ?_⟩, ⟨ka3, ka0, x0, g3, e3, h3, g0, e0⟩, ⟨va_Nw.of rfl (hts _ wMN_X6_17), va_Nw.of rfl (hts _ wMN_X6_20), va_Nw.of rfl (hts _ wMN_X6_30), va_AO.of (hts _ wO_78)⟩⟩
  · match k, hq with
    | 0, hq => cases hq; exact k0
    | 1, hq => cases hq; exact k1
    | 2, hq => cases hq; exact k2
    | 3, hq => cases hq; exact k3
    | 4, hq => cases hq; exact k4
    | 5, hq => cases hq; exact k5
    | 6, hq => cases hq; exact k6
    | k + 7, hq => simp [vwCl] at hq
  · match k, hq with
    | 0, hq => cases hq; exact ⟨fun _ _ => ⟨(fun _ h => by cases h), ka0, g0, x0, e0⟩, f0⟩
    | 1, hq => cases hq; exact ⟨fun _ _ => ⟨(fun _ h => by cases h), ka1, g1, x1, e1⟩, f1⟩
    | 2, hq => cases hq; exact ⟨fun _ _ => ⟨(fun _ h => by cases h), ka2, g2, x2, e2⟩, ka2, x2, g2, e2, f2, h2⟩
    | 3, hq => cases hq; exact ⟨fun _ _ => ⟨(fun _ h => by cases h), ka3, g3, x3, e3⟩, h3⟩
    | k + 4, hq => simp [am_ty] at hq
