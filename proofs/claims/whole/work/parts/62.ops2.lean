/-! a call of both: what changes the train's numbers -/
section OPT
variable {S S' : Mem} {p w k m a b c v : Int}
theorem EZ_0 (h : S' 0 6 = 0) : EZ S' := Or.inl h
theorem CG_o (G : CG S) (h8 : S' 10 8 = S 10 8) (h9 : S' 10 9 = S 10 9) (hm : S 10 8 ≤ 8) (hc : ∀ c, (12 ≤ c ∧ c < 18) ∨ (19 ≤ c ∧ c < 28) → S' c = S c) : CG S' := fun m h p p0 p1 => by
  rw [h8] at h
  rw [h9] at p1
  rw [hc (19 + m) (by omega), hc 12 (by omega), hc 13 (by omega), hc 14 (by omega), hc 15 (by omega), hc 16 (by omega), hc 17 (by omega)]
  exact G m h p p0 p1
theorem op_seats (I : Inv S) (hc : rng c) (hv : rng v) : AMi 1 yX6_seats cX6_seats 4 (some .int) [.inr (.inr 0), .inl c, .inl v] S (fun z S1 => AMi 1 yX7_seats cX7_seats 4 (some .int) [.inr (.inr 66), .inl c, .inl v] S1 (fun z' S2 => z' = z ∧ Inv S2)) := by
  obtain ⟨T, R, H, F, Z⟩ := id I
  obtain ⟨W, t2, t3, ⟨a1, a2, a3, a4⟩, b1, b2, b3, G⟩ := id T
  refine ami_mono (x_seats hc hv (by rw [a1]; exact W.1)) (fun z S1 h => ?_)
  obtain ⟨hz, hS1⟩ := h
  rw [a1] at hz hS1
  by_cases e : S 66 5 = 0 ∨ c < 0 ∨ 3 ≤ c ∨ v < 0 ∨ 4 < v
  · rw [if_pos e] at hS1
    subst hS1
    refine ami_mono (m_seats hc hv W.1) (fun z' S2 h => ?_)
    obtain ⟨hz', hS2⟩ := h
    rw [if_pos e] at hS2
    subst hS2
    refine ⟨?_, I⟩
    rw [hz, hz']
    by_cases e1 : S2 66 5 = 0
    · rw [if_pos e1, if_pos e1]
    · rw [if_neg e1, if_neg e1, if_pos (by omega), if_pos (by omega)]
  · rw [if_neg e] at hS1
    subst hS1
    refine ami_mono (m_seats (S := st2 (st2 S 11 c v) 0 6 0) hc hv W.1) (fun z' S2 h => ?_)
    obtain ⟨hz', hS2⟩ := h
    have e5 : st2 (st2 S 11 c v) 0 6 0 66 5 = S 66 5 := rfl
    rw [e5, if_neg e] at hS2
    rw [e5] at hz'
    subst hS2
    have o : ∀ d, d ≠ 0 → d ≠ 11 → d ≠ 70 → st2 (st2 (st2 S 11 c v) 0 6 0) 70 c v d = S d := fun d h1 h2 h3 => by rw [st2_o d h3, st2_o d h1, st2_o d h2]
    refine ⟨?_, ⟨W, fun d d0 d1 => ?_, t3, ⟨a1, a2, a3, a4⟩, fun d d0 d1 => ?_, b2, b3, CG_o G rfl rfl (by rw [a1]; exact W.1.2) (fun d q => o d (by omega) (by omega) (by omega))⟩, R, IS_o H (fun d q => o d (by omega) (by omega) (by omega)), F, EZ_0 rfl⟩
    · rw [hz, hz', if_neg (by omega), if_neg (by omega), if_neg (by omega), if_neg (by omega)]
      exact (b1 c (by omega) (by omega)).symm
    · by_cases ed : d = c
      · rw [ed, st2_s]; omega
      · rw [st2_n ed]; exact t2 d d0 d1
    · by_cases ed : d = c
      · rw [ed, st2_s]; show st2 S 11 c v 11 c = v; exact st2_s _ _ _ _
      · rw [st2_n ed]; show st2 S 11 c v 11 d = S 70 d; rw [st2_n ed]; exact b1 d d0 d1
theorem op_limits (I : Inv S) (ha : rng a) (hb : rng b) : AMi 1 yX6_limits cX6_limits 4 (some .int) [.inr (.inr 0), .inl a, .inl b] S (fun z S1 => AMi 1 yX7_limits cX7_limits 4 (some .int) [.inr (.inr 66), .inl a, .inl b] S1 (fun z' S2 => z' = z ∧ Inv S2)) := by
  obtain ⟨T, R, H, F, Z⟩ := id I
  obtain ⟨W, t2, t3, ⟨a1, a2, a3, a4⟩, b1, b2, b3, G⟩ := id T
  refine ami_mono (x_limits ha hb (by rw [a1]; exact W.1)) (fun z S1 h => ?_)
  obtain ⟨hz, hS1⟩ := h
  rw [a1] at hz hS1
  by_cases e : S 66 5 = 0 ∨ a < 0 ∨ b < a ∨ 99 < b
  · rw [if_pos e] at hS1
    subst hS1
    refine ami_mono (m_limits ha hb W.1) (fun z' S2 h => ?_)
    obtain ⟨hz', hS2⟩ := h
    rw [if_pos e] at hS2
    subst hS2
    refine ⟨?_, I⟩
    rw [hz, hz', a3, a4]
  · rw [if_neg e] at hS1
    subst hS1
    refine ami_mono (m_limits (S := st2 (st2 (st2 S 10 10 a) 10 11 b) 0 6 0) ha hb W.1) (fun z' S2 h => ?_)
    obtain ⟨hz', hS2⟩ := h
    have e5 : st2 (st2 (st2 S 10 10 a) 10 11 b) 0 6 0 66 5 = S 66 5 := rfl
    rw [e5, if_neg e] at hS2
    rw [e5] at hz'
    subst hS2
    obtain ⟨s1, s2, s3, s4, s5, s6⟩ := id W
    have o : ∀ d, d ≠ 0 → d ≠ 10 → d ≠ 66 → st2 (st2 (st2 (st2 (st2 S 10 10 a) 10 11 b) 0 6 0) 66 7 a) 66 8 b d = S d := fun d h1 h2 h3 => by rw [st2_o d h3, st2_o d h3, st2_o d h1, st2_o d h2, st2_o d h2]
    refine ⟨?_, ⟨⟨s1, s2, ⟨show 0 ≤ a by omega, show a ≤ 99 by omega⟩, ⟨show 0 ≤ b by omega, show b ≤ 99 by omega⟩, s5, s6⟩, t2, t3, ⟨a1, a2, rfl, rfl⟩, b1, b2, b3, CG_o G rfl rfl (by rw [a1]; exact W.1.2) (fun d q => o d (by omega) (by omega) (by omega))⟩, R, IS_o H (fun d q => o d (by omega) (by omega) (by omega)), F, EZ_0 rfl⟩
    rw [hz, hz']
    show _ = if S 66 5 = 0 then -3 else if a < 0 ∨ b < a ∨ 99 < b then -2 else 100 * S 10 10 + S 10 11
    rw [a3, a4]
    rfl
end OPT
