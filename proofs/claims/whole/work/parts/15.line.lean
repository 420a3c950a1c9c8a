/-! a whole text, and the line by it -/
def nSe (q : Fn) (c : Int) : Int := q (1 + c) - 48
def nTu (q : Fn) (m : Int) : Int := if q (5 + m) = 117 then 1 else 0
def nKd (q : Fn) (mc p : Int) : Int := kdOf (q (5 + mc + 5 * p + 1))
def nBg (q : Fn) (mc p : Int) : Int := 10 * (q (5 + mc + 5 * p + 2) - 48) + q (5 + mc + 5 * p + 3) - 48
def nFd (q : Fn) (mc p : Int) : Int := q (5 + mc + 5 * p + 4) - 48
def okP (q : Fn) (a : Int) : Prop := q a = 44 ∧ (q (a + 1) = 112 ∨ q (a + 1) = 119 ∨ q (a + 1) = 104) ∧ (48 ≤ q (a + 2) ∧ q (a + 2) ≤ 53) ∧ (48 ≤ q (a + 3) ∧ q (a + 3) ≤ 57) ∧ (48 ≤ q (a + 4) ∧ q (a + 4) ≤ 57)
def OKT (q : Fn) (n : Int) (mc P : Nat) : Prop := (1 ≤ mc ∧ mc ≤ 8) ∧ (1 ≤ P ∧ P ≤ 4) ∧ n = 5 + mc + 5 * P ∧ (∀ c, 0 ≤ c → c < 3 → 48 ≤ q (1 + c) ∧ q (1 + c) ≤ 52) ∧ (∀ m : Nat, m < mc → q (5 + m) = 45 ∨ q (5 + m) = 117) ∧ (∀ p : Nat, p < P → okP q (5 + mc + 5 * p))
theorem ffP_s {q : Fn} {n K : Int} {r part a : Nat} (h : ffP q n K (r + 1) part a = -1) : (a : Int) < n ∧ fitP part (q a) = true ∧ ffP q n K r (part + 1) (a + 1) = -1 := by
  unfold ffP at h
  by_cases c : n ≤ (a : Int) ∨ fitP part (q a) = false
  · rw [if_pos c] at h; omega
  · rw [if_neg c] at h
    refine ⟨by omega, ?_, h⟩
    cases e : fitP part (q a) with
    | true => rfl
    | false => exact absurd (Or.inr e) c
theorem ffH_s {q : Fn} {n K : Int} {r a : Nat} (h : ffH q n K (r + 1) a = -1) : (a : Int) < n ∧ fitH a (q a) = true ∧ ffH q n K r (a + 1) = -1 := by
  unfold ffH at h
  by_cases c : n ≤ (a : Int) ∨ fitH a (q a) = false
  · rw [if_pos c] at h; omega
  · rw [if_neg c] at h
    refine ⟨by omega, ?_, h⟩
    cases e : fitH a (q a) with
    | true => rfl
    | false => exact absurd (Or.inr e) c
theorem ffP_ok {q : Fn} {n K : Int} {a : Nat} (h : ffP q n K 5 0 a = -1) : (a : Int) + 5 ≤ n ∧ okP q a ∧ K = -1 := by
  obtain ⟨a0, f0, h⟩ := ffP_s h
  obtain ⟨a1, f1, h⟩ := ffP_s h
  obtain ⟨a2, f2, h⟩ := ffP_s h
  obtain ⟨a3, f3, h⟩ := ffP_s h
  obtain ⟨a4, f4, h⟩ := ffP_s h
  have g0 : q a = 44 := by simpa [fitP] using f0
  have g1 : q ((a : Int) + 1) = 112 ∨ q ((a : Int) + 1) = 119 ∨ q ((a : Int) + 1) = 104 := by simpa [fitP] using f1
  have g2 : 48 ≤ q ((a + 1 + 1 : Nat) : Int) ∧ q ((a + 1 + 1 : Nat) : Int) ≤ 53 := of_decide_eq_true f2
  have g3 : 48 ≤ q ((a + 1 + 1 + 1 : Nat) : Int) ∧ q ((a + 1 + 1 + 1 : Nat) : Int) ≤ 57 := of_decide_eq_true f3
  have g4 : 48 ≤ q ((a + 1 + 1 + 1 + 1 : Nat) : Int) ∧ q ((a + 1 + 1 + 1 + 1 : Nat) : Int) ≤ 57 := of_decide_eq_true f4
  exact ⟨by omega, ⟨g0, g1, g2, g3, g4⟩, h⟩
theorem ffA_ok {q : Fn} {n : Int} : ∀ (r p a : Nat), (a : Int) ≤ n → ffA q n r p a = -1 → ∃ j : Nat, j ≤ r ∧ n = a + 5 * j ∧ (∀ x : Nat, x < j → okP q (a + 5 * x)) ∧ (p = 0 → 1 ≤ r → 1 ≤ j)
  | 0, p, a, ha, h => by
    unfold ffA ffE at h
    split at h
    · omega
    · exact ⟨0, by omega, by omega, fun x hx => by omega, fun _ h => by omega⟩
  | r + 1, p, a, ha, h => by
    unfold ffA at h
    split at h
    · obtain ⟨h1, h2, h3⟩ := ffP_ok h
      obtain ⟨j, j1, j2, j3, -⟩ := ffA_ok r (p + 1) (a + 5) (by omega) h3
      refine ⟨j + 1, by omega, by omega, fun x hx => ?_, fun _ _ => by omega⟩
      cases x with
      | zero => simpa using h2
      | succ x =>
        have := j3 x (by omega)
        rw [show (((a + 5 : Nat) : Int) + 5 * (x : Int)) = (a : Int) + 5 * ((x + 1 : Nat) : Int) by omega] at this
        exact this
    · unfold ffE at h
      split at h
      · omega
      · exact ⟨0, by omega, by omega, fun x hx => by omega, fun _ _ => by omega⟩
theorem mcF_ok {q : Fn} {n : Int} : ∀ (r a : Nat), ∃ j : Nat, j ≤ r ∧ mcF q n r a = a + j ∧ (j = 0 ∨ (a : Int) + j ≤ n) ∧ ∀ m : Nat, m < j → (q ((a : Int) + m) = 45 ∨ q ((a : Int) + m) = 117)
  | 0, a => ⟨0, by omega, rfl, Or.inl rfl, fun m hm => by omega⟩
  | r + 1, a => by
    unfold mcF
    split
    · rename_i h
      obtain ⟨j, j1, j2, j3, j4⟩ := mcF_ok (q := q) (n := n) r (a + 1)
      refine ⟨j + 1, by omega, by omega, Or.inr (by omega), fun m hm => ?_⟩
      cases m with
      | zero => simpa [isM] using h.2
      | succ m =>
        have := j4 m (by omega)
        rw [show (((a + 1 : Nat) : Int) + (m : Int)) = (a : Int) + ((m + 1 : Nat) : Int) by omega] at this
        exact this
    · exact ⟨0, by omega, rfl, Or.inl rfl, fun m hm => by omega⟩
theorem ff_ok {q : Fn} {n : Int} (h : ff q n = -1) : ∃ mc P : Nat, OKT q n mc P ∧ mcF q n 8 5 = 5 + mc := by
  obtain ⟨mc, m1, m2, m3, m4⟩ := mcF_ok (q := q) (n := n) 8 5
  unfold ff at h
  rw [m2] at h
  obtain ⟨a0, f0, h⟩ := ffH_s h
  obtain ⟨a1, f1, h⟩ := ffH_s h
  obtain ⟨a2, f2, h⟩ := ffH_s h
  obtain ⟨a3, f3, h⟩ := ffH_s h
  obtain ⟨a4, f4, h⟩ := ffH_s h
  have g1 : 48 ≤ q 1 ∧ q 1 ≤ 52 := of_decide_eq_true f1
  have g2 : 48 ≤ q 2 ∧ q 2 ≤ 52 := of_decide_eq_true f2
  have g3 : 48 ≤ q 3 ∧ q 3 ≤ 52 := of_decide_eq_true f3
  change ffM q n (5 + mc) = -1 at h
  unfold ffM at h
  split at h
  · omega
  · obtain ⟨P, p1, p2, p3, p4⟩ := ffA_ok 4 0 (5 + mc) (by omega) h
    have p5 := p4 rfl (by omega)
    refine ⟨mc, P, ⟨⟨by omega, m1⟩, ⟨p5, p1⟩, by omega, fun c c0 c1 => ?_, fun m hm => ?_, fun p hp => ?_⟩, m2⟩
    · rcases (show c = 0 ∨ c = 1 ∨ c = 2 by omega) with rfl | rfl | rfl
      · exact g1
      · exact g2
      · exact g3
    · simpa using m4 m hm
    · have := p3 p hp
      rw [show (((5 + mc : Nat) : Int) + 5 * (p : Int)) = 5 + mc + 5 * p by omega] at this
      exact this
