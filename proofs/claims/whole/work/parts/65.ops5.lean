/-! a call of both: readings, trace, faults -/
section OPR
variable {S S' : Mem} {p w k m a b c v : Int}
theorem IR_add (R : IR S) (h8 : S 66 26 < 8) (p0 : 0 ≤ p) (p1 : p < S 66 6) (m0 : 0 ≤ m) (m1 : m ≤ S 66 5) (c0 : 0 ≤ c) (c1 : c ≤ 2) (e5 : S' 66 5 = S 66 5) (e6 : S' 66 6 = S 66 6) (e26 : S' 66 26 = S 66 26 + 1) (e46 : S' 46 3 = S 66 26 + 1) (e47 : S' 47 = fu (S 47) (S 66 26) p) (e48 : S' 48 = fu (S 48) (S 66 26) m) (e49 : S' 49 = fu (S 49) (S 66 26) c) (e84 : S' 84 = fu (S 84) (S 66 26) p) (e85 : S' 85 = fu (S 85) (S 66 26) m) (e86 : S' 86 = fu (S 86) (S 66 26) c) : IR S' := by
  obtain ⟨⟨r1, r2⟩, r3, r4⟩ := R
  unfold IR MR
  rw [e5, e6, e26, e46, e47, e48, e49, e84, e85, e86]
  refine ⟨⟨by omega, fun k k0 k1 => ?_⟩, rfl, fun k k0 k1 => ?_⟩
  · by_cases ek : k = S 66 26
    · rw [ek, fu_s, fu_s, fu_s]; omega
    · rw [fu_n ek, fu_n ek, fu_n ek]; exact r2 k k0 (by omega)
  · by_cases ek : k = S 66 26
    · rw [ek, fu_s, fu_s, fu_s, fu_s, fu_s, fu_s]; exact ⟨rfl, rfl, rfl⟩
    · rw [fu_n ek, fu_n ek, fu_n ek, fu_n ek, fu_n ek, fu_n ek]; exact r4 k k0 (by omega)
theorem op_reading (I : Inv S) (hp : rng p) (hm : rng m) (hc : rng c) : AMi 1 yX6_reading cX6_reading 4 (some .int) [.inr (.inr 0), .inl p, .inl m, .inl c] S (fun z S1 => AMi 1 yX7_reading cX7_reading 4 (some .int) [.inr (.inr 66), .inl p, .inl m, .inl c] S1 (fun z' S2 => z' = z ∧ Inv S2)) := by
  obtain ⟨T, R, H, F, Z⟩ := id I
  obtain ⟨W, t2, t3, ⟨a1, a2, a3, a4⟩, b1, b2, b3, G⟩ := id T
  obtain ⟨⟨r1, r2⟩, r3, r4⟩ := id R
  refine ami_mono (x_reading hp hm hc (by rw [a1]; exact W.1) (by rw [a2]; exact W.2.1) (by rw [r3]; exact r1)) (fun z S1 h => ?_)
  obtain ⟨hz, hS1⟩ := h
  rw [a1, a2, r3] at hz hS1
  by_cases e : p < 0 ∨ S 66 6 ≤ p ∨ m < 0 ∨ S 66 5 < m ∨ c < 0 ∨ 3 ≤ c ∨ 8 ≤ S 66 26
  · rw [if_pos e] at hS1
    subst hS1
    refine ami_mono (m_reading hp hm hc W.1 W.2.1 r1) (fun z' S2 h => ?_)
    obtain ⟨hz', hS2⟩ := h
    rw [if_pos e] at hS2
    subst hS2
    exact ⟨by rw [hz, hz'], I⟩
  · rw [if_neg e] at hS1
    have o1 : ∀ d, d < 46 ∨ 50 ≤ d → S1 d = S d := fun d h => by rw [hS1, st2_o d (by omega), st2_o d (by omega), st2_o d (by omega), st2_o d (by omega)]
    have e66 := o1 66 (by omega)
    refine ami_mono (m_reading (S := S1) hp hm hc (by rw [e66]; exact W.1) (by rw [e66]; exact W.2.1) (by rw [e66]; exact r1)) (fun z' S2 h => ?_)
    obtain ⟨hz', hS2⟩ := h
    rw [e66, if_neg e] at hS2
    rw [e66] at hz'
    have o2 : ∀ d, d < 66 ∨ (67 ≤ d ∧ d < 84) ∨ 87 ≤ d → S2 d = S1 d := fun d h => by rw [hS2, st2_o d (by omega), st2_o d (by omega), st2_o d (by omega), st2_o d (by omega)]
    have o : ∀ d, d < 46 ∨ (50 ≤ d ∧ d < 66) ∨ (67 ≤ d ∧ d < 84) ∨ 87 ≤ d → S2 d = S d := fun d h => by rw [o2 d (by omega), o1 d (by omega)]
    have q66 : S2 66 = fu (S 66) 26 (S 66 26 + 1) := by rw [hS2, st2_fu, st2_o 66 (by decide), st2_o 66 (by decide), st2_o 66 (by decide), e66]
    have q : ∀ x, x ≠ 26 → S2 66 x = S 66 x := fun x hx => by rw [q66, fu_n hx]
    refine ⟨by rw [hz, hz'], IT_o T (fun d h => o d (by omega)) (fun x x1 x2 => q x (by omega)), ?_, IS_o H (fun d h => o d (by omega)), ?_, EZ_o Z (by rw [o 0 (by omega)]) (by rw [a1]; exact W.1) (fun d h => o d (by omega))⟩
    · refine IR_add (p := p) (m := m) (c := c) R (by omega) (by omega) (by omega) (by omega) (by omega) (by omega) (by omega) (q 5 (by decide)) (q 6 (by decide)) (by rw [q66, fu_s]) ?_ ?_ ?_ ?_ ?_ ?_ ?_
      · rw [o2 46 (by omega), hS1, st2_s]
      · rw [o2 47 (by omega), hS1, st2_o 47 (by decide), st2_o 47 (by decide), st2_o 47 (by decide), st2_fu]
      · rw [o2 48 (by omega), hS1, st2_o 48 (by decide), st2_o 48 (by decide), st2_fu, st2_o 48 (by decide)]
      · rw [o2 49 (by omega), hS1, st2_o 49 (by decide), st2_fu, st2_o 49 (by decide), st2_o 49 (by decide)]
      · rw [hS2, st2_o 84 (by decide), st2_o 84 (by decide), st2_o 84 (by decide), st2_fu, o1 84 (by omega)]
      · rw [hS2, st2_o 85 (by decide), st2_o 85 (by decide), st2_fu, st2_o 85 (by decide), o1 85 (by omega)]
      · rw [hS2, st2_o 86 (by decide), st2_fu, st2_o 86 (by decide), st2_o 86 (by decide), o1 86 (by omega)]
    · unfold IF
      rw [o 0 (by omega), q 0 (by decide), q 1 (by decide)]
      exact F
theorem op_back (I : Inv S) (hk : rng k) : AMi 0 yX6_back cX6_back 2 (some .int) [.inr (.inr 0), .inl k] S (fun z S1 => AMi 1 yX7_back cX7_back 2 (some .int) [.inr (.inr 66), .inl k] S1 (fun z' S2 => z' = z ∧ Inv S2)) := by
  obtain ⟨T, R, H, F, Z⟩ := id I
  obtain ⟨W, t2, t3, ⟨a1, a2, a3, a4⟩, b1, b2, b3, G⟩ := id T
  obtain ⟨⟨r1, r2⟩, r3, r4⟩ := id R
  refine ami_mono (x_back hk (by rw [r3]; exact r1)) (fun z S1 h => ?_)
  obtain ⟨hz, hS1⟩ := h
  rw [r3] at hz hS1
  by_cases e : k < 0 ∨ S 66 26 < k
  · rw [if_pos e] at hS1
    subst hS1
    refine ami_mono (m_back hk r1) (fun z' S2 h => ?_)
    obtain ⟨hz', hS2⟩ := h
    rw [if_pos e] at hS2
    subst hS2
    exact ⟨by rw [hz, hz'], I⟩
  · rw [if_neg e] at hS1
    have o1 : ∀ d, d ≠ 46 → S1 d = S d := fun d h => by rw [hS1, st2_o d h]
    have e66 := o1 66 (by omega)
    refine ami_mono (m_back (S := S1) hk (by rw [e66]; exact r1)) (fun z' S2 h => ?_)
    obtain ⟨hz', hS2⟩ := h
    rw [e66, if_neg e] at hS2
    rw [e66] at hz'
    have o : ∀ d, d ≠ 46 → d ≠ 66 → S2 d = S d := fun d h1 h2 => by rw [hS2, st2_o d h2, o1 d h1]
    have q66 : S2 66 = fu (S 66) 26 (S 66 26 - k) := by rw [hS2, st2_fu, e66]
    have q : ∀ x, x ≠ 26 → S2 66 x = S 66 x := fun x hx => by rw [q66, fu_n hx]
    have q46 : S2 46 3 = S 66 26 - k := by rw [hS2, st2_o 46 (by decide), hS1, st2_s]
    refine ⟨by rw [hz, hz'], IT_o T (fun d h => o d (by omega) (by omega)) (fun x x1 x2 => q x (by omega)), ?_, IS_o H (fun d h => o d (by omega) (by omega)), ?_, EZ_o Z (by rw [o 0 (by omega) (by omega)]) (by rw [a1]; exact W.1) (fun d h => o d (by omega) (by omega))⟩
    · unfold IR MR
      rw [q46, q 5 (by decide), q 6 (by decide), q66, fu_s, o 47 (by decide) (by decide), o 48 (by decide) (by decide), o 49 (by decide) (by decide), o 84 (by decide) (by decide), o 85 (by decide) (by decide), o 86 (by decide) (by decide)]
      exact ⟨⟨by omega, fun x x0 x1 => r2 x x0 (by omega)⟩, rfl, fun x x0 x1 => r4 x x0 (by omega)⟩
    · unfold IF
      rw [o 0 (by decide) (by decide), q 0 (by decide), q 1 (by decide)]
      exact F
theorem Inv_trc (I : Inv S) (v : Int) : Inv (st2 (st2 S 0 7 v) 66 1 v) := by
  have o : ∀ d, d ≠ 0 → d ≠ 66 → st2 (st2 S 0 7 v) 66 1 v d = S d := fun d h1 h2 => by rw [st2_o d h2, st2_o d h1]
  have q0 : st2 (st2 S 0 7 v) 66 1 v 0 = fu (S 0) 7 v := by rw [st2_o 0 (by decide), st2_fu]
  have q66 : st2 (st2 S 0 7 v) 66 1 v 66 = fu (S 66) 1 v := by rw [st2_fu, st2_o 66 (by decide)]
  refine Inv_keep I (fun d h1 h2 _ => o d h1 h2) (by rw [q0, fu_n (show (6 : Int) ≠ 7 by decide)]) ?_ (fun x x1 x2 => by rw [q66, fu_n (show x ≠ 1 by omega)]) (by rw [q66, fu_n (show (26 : Int) ≠ 1 by decide)])
  unfold IF
  rw [q0, q66, fu_s, fu_s, fu_n (show (8 : Int) ≠ 7 by decide), fu_n (show (0 : Int) ≠ 1 by decide)]
  exact ⟨rfl, I.2.2.2.1.2⟩
theorem Inv_flt (I : Inv S) (v : Int) : Inv (st2 (st2 S 0 8 v) 66 0 v) := by
  have o : ∀ d, d ≠ 0 → d ≠ 66 → st2 (st2 S 0 8 v) 66 0 v d = S d := fun d h1 h2 => by rw [st2_o d h2, st2_o d h1]
  have q0 : st2 (st2 S 0 8 v) 66 0 v 0 = fu (S 0) 8 v := by rw [st2_o 0 (by decide), st2_fu]
  have q66 : st2 (st2 S 0 8 v) 66 0 v 66 = fu (S 66) 0 v := by rw [st2_fu, st2_o 66 (by decide)]
  refine Inv_keep I (fun d h1 h2 _ => o d h1 h2) (by rw [q0, fu_n (show (6 : Int) ≠ 8 by decide)]) ?_ (fun x x1 x2 => by rw [q66, fu_n (show x ≠ 0 by omega)]) (by rw [q66, fu_n (show (26 : Int) ≠ 0 by decide)])
  unfold IF
  rw [q0, q66, fu_s, fu_s, fu_n (show (7 : Int) ≠ 8 by decide), fu_n (show (1 : Int) ≠ 0 by decide)]
  exact ⟨I.2.2.2.1.1, rfl⟩
theorem MW_x0 (W : MW S) (i v : Int) : MW (st2 S 0 i v) := MW_o W (fun d h1 h2 => st2_o d (by omega))
theorem op_tell (I : Inv S) (hp : rng p) : AMi 4 yX6_tell cX6_tell 2 (some .int) [.inr (.inr 0), .inl p] S (fun z S1 => AMi 1 yX7_tell cX7_tell 3 (some .int) [.inr (.inr 66), .inl p] S1 (fun z' S2 => z' = z ∧ Inv S2)) := by
  obtain ⟨T, R, H, F, Z⟩ := id I
  obtain ⟨W, t2, t3, ⟨a1, a2, a3, a4⟩, b1, b2, b3, G⟩ := id T
  refine ami_mono (x_tell hp (by rw [a2]; exact W.2.1) (fun p p0 p1 => ((IT_TW T).2.2.2.2.2 p p0 p1).1)) (fun z S1 h => ?_)
  obtain ⟨hz, hS1⟩ := h
  rw [a2] at hz hS1
  by_cases e : p < 0 ∨ S 66 6 ≤ p
  · rw [if_pos e] at hS1 hz
    subst hS1
    refine ami_mono (m_tell hp W) (fun z' S2 h => ?_)
    obtain ⟨hz', hS2⟩ := h
    rw [if_pos e] at hS2 hz'
    subst hS2
    exact ⟨by rw [hz, hz'], I⟩
  · obtain ⟨e1, e2, e3⟩ := b3 p (by omega) (by omega)
    rw [if_neg e] at hS1 hz
    have o1 : ∀ d, d ≠ 0 → S1 d = S d := fun d h => by rw [hS1, st2_o d h]
    refine ami_mono (m_tell (S := S1) hp (by rw [hS1]; exact MW_x0 W _ _)) (fun z' S2 h => ?_)
    obtain ⟨hz', hS2⟩ := h
    rw [o1 66 (by decide), o1 74 (by decide), if_neg e] at hS2
    rw [o1 66 (by decide), o1 74 (by decide), o1 76 (by decide), if_neg e] at hz'
    refine ⟨by rw [hz, hz', e1, e3], ?_⟩
    rw [hS2, hS1, e1, F.1]
    exact Inv_trc I _
theorem op_call (I : Inv S) (hp : rng p) : AMi 1 yX6_call cX6_call 2 (some .int) [.inr (.inr 0), .inl p] S (fun z S1 => AMi 1 yX7_call cX7_call 2 (some .int) [.inr (.inr 66), .inl p] S1 (fun z' S2 => z' = z ∧ Inv S2)) := by
  obtain ⟨T, R, H, F, Z⟩ := id I
  obtain ⟨W, t2, t3, ⟨a1, a2, a3, a4⟩, b1, b2, b3, G⟩ := id T
  refine ami_mono (x_call hp (by rw [a2]; exact W.2.1) (fun p p0 p1 => ((IT_TW T).2.2.2.2.2 p p0 p1).1)) (fun z S1 h => ?_)
  obtain ⟨hz, hS1⟩ := h
  rw [a2] at hz hS1
  by_cases e : p < 0 ∨ S 66 6 ≤ p
  · rw [if_pos e] at hS1 hz
    subst hS1
    refine ami_mono (m_call hp W) (fun z' S2 h => ?_)
    obtain ⟨hz', hS2⟩ := h
    rw [if_pos e] at hS2 hz'
    subst hS2
    exact ⟨by rw [hz, hz'], I⟩
  · obtain ⟨e1, e2, e3⟩ := b3 p (by omega) (by omega)
    rw [if_neg e] at hS1 hz
    have o1 : ∀ d, d ≠ 0 → S1 d = S d := fun d h => by rw [hS1, st2_o d h]
    refine ami_mono (m_call (S := S1) hp (by rw [hS1]; exact MW_x0 W _ _)) (fun z' S2 h => ?_)
    obtain ⟨hz', hS2⟩ := h
    rw [o1 66 (by decide), o1 74 (by decide), if_neg e] at hS2
    rw [o1 66 (by decide), o1 74 (by decide), if_neg e] at hz'
    refine ⟨by rw [hz, hz', e1], ?_⟩
    rw [hS2, hS1, e1, F.1]
    exact Inv_trc I _
theorem op_as (I : Inv S) (hp : rng p) (hk : rng k) : AMi 1 yX6_as cX6_as 3 (some .int) [.inr (.inr 0), .inl p, .inl k] S (fun z S1 => AMi 1 yX7_as cX7_as 3 (some .int) [.inr (.inr 66), .inl p, .inl k] S1 (fun z' S2 => z' = z ∧ Inv S2)) := by
  obtain ⟨T, R, H, F, Z⟩ := id I
  obtain ⟨W, t2, t3, ⟨a1, a2, a3, a4⟩, b1, b2, b3, G⟩ := id T
  refine ami_mono (x_as hp hk (by rw [a2]; exact W.2.1) (fun p p0 p1 => ((IT_TW T).2.2.2.2.2 p p0 p1).1)) (fun z S1 h => ?_)
  obtain ⟨hz, hS1⟩ := h
  rw [a2] at hz hS1
  have o1 : ∀ d, d ≠ 0 → S1 d = S d := fun d h => by rw [hS1, st2_o d h]
  refine ami_mono (m_as (S := S1) hp hk (by rw [hS1]; exact MW_x0 W _ _)) (fun z' S2 h => ?_)
  obtain ⟨hz', hS2⟩ := h
  rw [o1 66 (by decide), o1 74 (by decide)] at hS2 hz'
  by_cases e : p < 0 ∨ S 66 6 ≤ p
  · rw [if_pos e] at hS1 hz hS2 hz'
    rw [hz, hz', hS2, hS1]
    exact ⟨rfl, Inv_flt I _⟩
  · obtain ⟨e1, e2, e3⟩ := b3 p (by omega) (by omega)
    rw [if_neg e] at hS1 hz hS2 hz'
    rw [e1] at hS1 hz
    rw [hz, hz', hS2, hS1]
    exact ⟨rfl, Inv_flt I _⟩
end OPR
