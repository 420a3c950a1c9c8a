/-! the law: its script -/
/-- the script lies at the cell 87: Ln ints -/
def LX (X : AMX) (Ln : Nat) (xs : Nat → Int32) : Prop := match X with
  | (p, l, e, R, s, m, args, below, meth, c, cells, slots, Q, dC, dI, dA, ad, A) => va_X (ad 87) Ln xs s s.heap ∧ ad 87 < s.heap.size ∧ ¬ A (ad 87)
def xz (xs : Nat → Int32) (z : Int) : Int := (xs z.toNat).toInt
theorem xz_r (xs : Nat → Int32) (z : Int) : rng (xz xs z) := by
  unfold xz
  have h1 := Int32.le_toInt (xs z.toNat)
  have h2 := Int32.toInt_lt (xs z.toNat)
  omega
section LAW1
variable {X : AMX} {d pc n nL Ln : Nat} {own : String} {cc : ByteArray} {L : List (Option AV)} {st : List AV} {S : Mem} {xs : Nat → Int32}
theorem aw_sld {z : Int} (C : CX X d own cc nL) (hd : decode cc pc = .ok (.iaload, 1)) (hn : pc + 1 = n) (E : LX X Ln xs) (h0 : 0 ≤ z) (h1 : z < Ln) (hL : Ln ≤ 384) (kk : AW X cc nL n L (.inl (xz xs z) :: st) S) : AW X cc nL pc L (.inl z :: .inr (.inr 87) :: st) S := by
  obtain ⟨p, l, e, R, s, m, args, below, meth, c0, cells, slots, Q, dC, dI, dA, ad, A⟩ := X
  obtain ⟨hx, hb, hml, hown, hts, hK, hD, hA, hNw, hfr, hlo, hce, hsl⟩ := C
  obtain ⟨hX, hbl, hbA⟩ := E
  subst hn
  intro H locs ls hP hS hl
  refine va_sld hx hb hX hbl hbA hS (am_in h0 h1 (by omega)) hd ?_
  have h := kk H locs ls hP hS hl
  rw [am_cl h0 (by omega)]
  have e1 : am_v ad (.inl (xz xs z)) = .int (xs z.toNat) := by
    show Value.int (Int32.ofInt (xs z.toNat).toInt) = _
    rw [Int32.ofInt_toInt]
  rw [List.map_cons, e1] at h
  exact h
theorem aw_slen (C : CX X d own cc nL) (hd : decode cc pc = .ok (.arraylength, 1)) (hn : pc + 1 = n) (E : LX X Ln xs) (hL : Ln ≤ 384) (kk : AW X cc nL n L (.inl (Ln : Int) :: st) S) : AW X cc nL pc L (.inr (.inr 87) :: st) S := by
  obtain ⟨p, l, e, R, s, m, args, below, meth, c0, cells, slots, Q, dC, dI, dA, ad, A⟩ := X
  obtain ⟨hx, hb, hml, hown, hts, hK, hD, hA, hNw, hfr, hlo, hce, hsl⟩ := C
  obtain ⟨hX, hbl, hbA⟩ := E
  subst hn
  intro H locs ls hP hS hl
  refine va_slen hx hb hX hbl hbA hS hd ?_
  have h := kk H locs ls hP hS hl
  rw [List.map_cons, show am_v ad (.inl (Ln : Int)) = .int (Int32.ofNat Ln) from congrArg Value.int Int32.ofInt_eq_ofNat] at h
  exact h
theorem lcmp_same (z : Int) : lg_cmp (Int64.ofInt z) (Int64.ofInt z) = Int32.ofInt 0 := by
  unfold lg_cmp
  rw [if_neg (by simp [Int64.lt_irrefl]), if_pos rfl]
  rfl
end LAW1
