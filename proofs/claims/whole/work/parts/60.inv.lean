/-! class and model agree -/
/-- the train -/
def IT (S : Mem) : Prop := MW S ∧ (∀ c, 0 ≤ c → c < 3 → 0 ≤ S 70 c ∧ S 70 c ≤ 4) ∧ (S 66 5 = 0 ↔ S 66 6 = 0) ∧ (S 10 8 = S 66 5 ∧ S 10 9 = S 66 6 ∧ S 10 10 = S 66 7 ∧ S 10 11 = S 66 8) ∧ (∀ c, 0 ≤ c → c < 3 → S 11 c = S 70 c) ∧ (∀ m, 0 ≤ m → m < S 66 5 → S 12 m = S 71 m ∧ S 13 m = S 72 m ∧ S 14 m = S 73 m) ∧ (∀ p, 0 ≤ p → p < S 66 6 → S 15 p = S 74 p ∧ S 16 p = S 75 p ∧ S 17 p = S 76 p) ∧ CG S
/-- the readings -/
def IR (S : Mem) : Prop := MR S ∧ S 46 3 = S 66 26 ∧ ∀ k, 0 ≤ k → k < S 66 26 → S 47 k = S 84 k ∧ S 48 k = S 85 k ∧ S 49 k = S 86 k
/-- the sheets -/
def IS (S : Mem) : Prop := MH S ∧ (∀ (j : Nat) (x : Int), j < 4 → rng (S (6 + j) x)) ∧ ∀ j : Nat, j < 4 → S (2 + j) 1 = (if S 67 j = -9 then -1 else S 67 j) ∧ S (2 + j) 2 = S 68 j ∧ ∀ i, 0 ≤ i → i < 60 → S (6 + j) i = S 69 (60 * j + i)
def IF (S : Mem) : Prop := S 0 7 = S 66 1 ∧ S 0 8 = S 66 0
def Inv (S : Mem) : Prop := IT S ∧ IR S ∧ IS S ∧ IF S ∧ EZ S
section INV
variable {S S' : Mem}
theorem IT_TW (h : IT S) : TW 10 S := by
  obtain ⟨⟨t1, t2, t3, t4, t5, t6⟩, -, -, ⟨a1, a2, a3, a4⟩, -, b2, b3, -⟩ := h
  unfold TW
  rw [a1, a2, a3, a4]
  refine ⟨t1, t2, t3, t4, fun m m0 m1 => ?_, fun p p0 p1 => ?_⟩
  · obtain ⟨e1, e2, e3⟩ := b2 m m0 m1
    show (S 12 m = 0 ∨ S 12 m = 1) ∧ tok (S 66 6) (S 13 m) (S 14 m)
    rw [e1, e2, e3]
    exact t5 m m0 m1
  · obtain ⟨e1, e2, e3⟩ := b3 p p0 p1
    show (0 ≤ S 15 p ∧ S 15 p ≤ 2) ∧ (0 ≤ S 16 p ∧ S 16 p ≤ 59) ∧ (0 ≤ S 17 p ∧ S 17 p ≤ 9)
    rw [e1, e2, e3]
    exact t6 p p0 p1
/-- the regrets agree -/
theorem IT_rg (h : IT S) : ∀ (m : Nat), (m : Int) ≤ S 66 5 → ∀ p, 0 ≤ p → p < S 66 6 → rg (S 15) (S 17) (S 16) (S 12) (S 13) (S 14) m p = RM S m p := by
  obtain ⟨⟨t1, t2, t3, t4, t5, t6⟩, -, -, ⟨a1, a2, a3, a4⟩, -, b2, b3, -⟩ := h
  exact rg_congr (fun p p0 p1 => (b3 p p0 p1).1) (fun p p0 p1 => (b3 p p0 p1).2.2) (fun p p0 p1 => (b3 p p0 p1).2.1) b2 (fun m m0 m1 => by rw [(b2 m m0 m1).2.1, (b2 m m0 m1).2.2]; exact (t5 m m0 m1).2)
theorem IT_row (h : IT S) (m : Nat) (hm : (m : Int) ≤ S 66 5) (p : Int) (p0 : 0 ≤ p) (p1 : p < S 66 6) : S (19 + m) p = RM S m p := by
  have hr := IT_rg h m hm p p0 p1
  obtain ⟨-, -, -, ⟨a1, a2, a3, a4⟩, -, -, -, G⟩ := h
  rw [G m (by rw [a1]; exact hm) p p0 (by rw [a2]; exact p1)]
  exact hr
theorem Inv_XW (h : Inv S) : XW S := by
  obtain ⟨T, R, H, F, Z⟩ := h
  obtain ⟨W, t2, t3, ⟨a1, a2, a3, a4⟩, b1, b2, b3, G⟩ := id T
  obtain ⟨⟨h1, h2⟩, h3, h4⟩ := H
  refine ⟨IT_TW T, fun c c0 c1 => by rw [b1 c c0 c1]; exact t2 c c0 c1, fun m hm p p0 p1 => ?_, fun j hj => ?_, h3, by rw [a1, a2]; exact t3⟩
  · rw [a1] at hm
    rw [a2] at p1
    rw [IT_row T m hm p p0 p1]
    exact RM_r W m p p0 p1
  · obtain ⟨e1, e2, -⟩ := h4 j hj
    have hk := h1 j (by omega) (by omega)
    rw [e1, e2]
    refine ⟨?_, hk.2⟩
    split
    · decide
    · omega
theorem Inv_XR (h : Inv S) : XR S := by
  obtain ⟨T, ⟨⟨r1, r2⟩, r3, r4⟩, -, -, -⟩ := h
  obtain ⟨-, -, -, ⟨a1, a2, -, -⟩, -⟩ := T
  unfold XR
  rw [r3]
  refine ⟨r1, fun k k0 k1 => ?_⟩
  obtain ⟨e1, e2, e3⟩ := r4 k k0 k1
  rw [e1, e2, e3, a1, a2]
  exact r2 k k0 k1
theorem IT_o (h : IT S) (hc : ∀ c, (10 ≤ c ∧ c < 18) ∨ (19 ≤ c ∧ c < 28) ∨ (70 ≤ c ∧ c < 77) → S' c = S c) (h66 : ∀ x, 5 ≤ x → x ≤ 8 → S' 66 x = S 66 x) : IT S' := by
  unfold IT MW CG
  rw [h66 5 (by decide) (by decide), h66 6 (by decide) (by decide), h66 7 (by decide) (by decide), h66 8 (by decide) (by decide), hc 10 (by omega), hc 11 (by omega), hc 12 (by omega), hc 13 (by omega), hc 14 (by omega), hc 15 (by omega), hc 16 (by omega), hc 17 (by omega), hc 70 (by omega), hc 71 (by omega), hc 72 (by omega), hc 73 (by omega), hc 74 (by omega), hc 75 (by omega), hc 76 (by omega)]
  obtain ⟨W, t2, t3, a, b1, b2, b3, G⟩ := h
  refine ⟨W, t2, t3, a, b1, b2, b3, fun m hm p p0 p1 => ?_⟩
  have : m ≤ 8 := by obtain ⟨⟨_, _⟩, _⟩ := W; have := a.1; omega
  rw [hc (19 + m) (by omega)]
  exact G m hm p p0 p1
theorem IR_o (h : IR S) (hc : ∀ c, (46 ≤ c ∧ c < 50) ∨ (84 ≤ c ∧ c < 87) → S' c = S c) (h5 : S' 66 5 = S 66 5) (h6 : S' 66 6 = S 66 6) (h26 : S' 66 26 = S 66 26) : IR S' := by
  unfold IR MR
  rw [h5, h6, h26, hc 46 (by omega), hc 47 (by omega), hc 48 (by omega), hc 49 (by omega), hc 84 (by omega), hc 85 (by omega), hc 86 (by omega)]
  exact h
theorem IS_o (h : IS S) (hc : ∀ c, (2 ≤ c ∧ c < 10) ∨ (67 ≤ c ∧ c < 70) → S' c = S c) : IS S' := by
  obtain ⟨h1, h2, h3⟩ := h
  refine ⟨MH_o h1 (hc 67 (by omega)) (hc 68 (by omega)) (hc 69 (by omega)), fun j x hj => by rw [hc (6 + j) (by omega)]; exact h2 j x hj, fun j hj => ?_⟩
  rw [hc (2 + j) (by omega), hc (6 + j) (by omega), hc 67 (by omega), hc 68 (by omega), hc 69 (by omega)]
  exact h3 j hj
theorem EZ_o (h : EZ S) (h0 : S' 0 6 = S 0 6) (hm : 0 ≤ S 10 8 ∧ S 10 8 ≤ 8) (hc : ∀ c, (10 ≤ c ∧ c < 12) ∨ (19 ≤ c ∧ c < 28) ∨ c = 53 ∨ c = 65 → S' c = S c) : EZ S' := by
  have hd : duC S' = duC S := by
    funext m p
    unfold duC
    rw [hc 10 (by omega), hc (19 + (min m 8).toNat) (by omega)]
  unfold EZ LE RWS
  rw [h0, hd, hc 10 (by omega), hc 11 (by omega), hc 53 (by omega), hc 65 (by omega)]
  exact h
end INV
