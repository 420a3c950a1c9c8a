/-! a call of both: talk -/
section OPK
variable {S S' : Mem} {p w k m a b c v : Int}
theorem op_talk (I : Inv S) (hm : rng m) (ha : rng a) (hb : rng b) : AMi 6 yX6_talk cX6_talk 6 (some .int) [.inr (.inr 0), .inl m, .inl a, .inl b] S (fun z S1 => AMi 1 yX7_talk cX7_talk 6 (some .int) [.inr (.inr 66), .inl m, .inl a, .inl b] S1 (fun z' S2 => z' = z ∧ Inv S2)) := by
  obtain ⟨T, R, H, F, Z⟩ := id I
  obtain ⟨W, t2, t3, ⟨a1, a2, a3, a4⟩, b1, b2, b3, G⟩ := id T
  refine ami_mono (x_talk hm ha hb (IT_TW T)) (fun z S1 h => ?_)
  obtain ⟨hz, hS1⟩ := h
  rw [a1, a2] at hz hS1
  by_cases e : S 66 5 = 0 ∨ m < 0 ∨ S 66 5 ≤ m ∨ (¬ (a = -9 ∧ b = -9) ∧ (a < 0 ∨ S 66 6 ≤ a ∨ b < 0 ∨ S 66 6 ≤ b ∨ a = b))
  · rw [if_pos e] at hS1
    subst hS1
    refine ami_mono (m_talk hm ha hb W) (fun z' S2 h => ?_)
    obtain ⟨hz', hS2⟩ := h
    rw [if_pos e] at hS2
    subst hS2
    refine ⟨?_, I⟩
    rw [hz, hz']
    by_cases e1 : S2 66 5 = 0
    · rw [if_pos e1, if_pos e1]
    · rw [if_neg e1, if_neg e1]
      by_cases e2 : m < 0 ∨ S2 66 5 ≤ m
      · rw [if_pos e2, if_pos e2]
      · rw [if_neg e2, if_neg e2, if_pos (by omega), if_pos (by omega)]
  · obtain ⟨-, em, en⟩ := b2 m (by omega) (by omega)
    rw [if_neg e] at hS1
    have hRA := hS1
    obtain ⟨g1, g2, g3⟩ := hS1
    have o1 : ∀ d, d ≠ 0 → d ≠ 13 → d ≠ 14 → d < 19 ∨ 28 ≤ d → S1 d = S d := fun d h1 h2 h3 h4 => by rw [g1 d h1 h4, st2_o d h3, st2_o d h2]
    have e66 := o1 66 (by decide) (by decide) (by decide) (by omega)
    have W1 : MW S1 := MW_o W (fun c h1 h2 => o1 c (by omega) (by omega) (by omega) (by omega))
    refine ami_mono (m_talk hm ha hb W1) (fun z' S2 h => ?_)
    obtain ⟨hz', hS2⟩ := h
    rw [e66, if_neg e] at hS2
    rw [e66, o1 72 (by decide) (by decide) (by decide) (by omega), o1 73 (by decide) (by decide) (by decide) (by omega)] at hz'
    subst hS2
    have o : ∀ d, d ≠ 0 → d ≠ 13 → d ≠ 14 → d ≠ 72 → d ≠ 73 → d < 19 ∨ 28 ≤ d → st2 (st2 S1 72 m a) 73 m b d = S d := fun d h1 h2 h3 h4 h5 h6 => by rw [st2_o d h5, st2_o d h4, o1 d h1 h2 h3 h6]
    have v13 : st2 (st2 S1 72 m a) 73 m b 13 = fu (S 13) m a := by rw [st2_o 13 (by decide), st2_o 13 (by decide), g1 13 (by decide) (by omega), st2_o 13 (by decide), st2_fu]
    have v14 : st2 (st2 S1 72 m a) 73 m b 14 = fu (S 14) m b := by rw [st2_o 14 (by decide), st2_o 14 (by decide), g1 14 (by decide) (by omega), st2_fu, st2_o 14 (by decide)]
    have v72 : st2 (st2 S1 72 m a) 73 m b 72 = fu (S 72) m a := by rw [st2_o 72 (by decide), st2_fu, o1 72 (by decide) (by decide) (by decide) (by omega)]
    have v73 : st2 (st2 S1 72 m a) 73 m b 73 = fu (S 73) m b := by rw [st2_fu, st2_o 73 (by decide), o1 73 (by decide) (by decide) (by decide) (by omega)]
    have v0 : st2 (st2 S1 72 m a) 73 m b 0 = fu (S 0) 6 0 := by rw [st2_o 0 (by decide), st2_o 0 (by decide), g2, st2_fu]; rfl
    have q66 := o 66 (by decide) (by decide) (by decide) (by decide) (by decide) (by omega)
    refine ⟨?_, ⟨?_, ?_, ?_, ?_, ?_, ?_, ?_, ?_⟩, ?_, ?_, ?_, ?_⟩
    · rw [hz, hz', em, en]
    · obtain ⟨s1, s2, s3, s4, s5, s6⟩ := id W
      unfold MW
      rw [q66, o 71 (by decide) (by decide) (by decide) (by decide) (by decide) (by omega), v72, v73, o 74 (by decide) (by decide) (by decide) (by decide) (by decide) (by omega), o 75 (by decide) (by decide) (by decide) (by decide) (by decide) (by omega), o 76 (by decide) (by decide) (by decide) (by decide) (by decide) (by omega)]
      refine ⟨s1, s2, s3, s4, fun x x0 x1 => ⟨(s5 x x0 x1).1, ?_⟩, s6⟩
      by_cases ex : x = m
      · rw [ex, fu_s, fu_s]; unfold tok; omega
      · rw [fu_n ex, fu_n ex]; exact (s5 x x0 x1).2
    · rw [o 70 (by decide) (by decide) (by decide) (by decide) (by decide) (by omega)]; exact t2
    · rw [q66]; exact t3
    · rw [q66, o 10 (by decide) (by decide) (by decide) (by decide) (by decide) (by omega)]; exact ⟨a1, a2, a3, a4⟩
    · rw [o 70 (by decide) (by decide) (by decide) (by decide) (by decide) (by omega), o 11 (by decide) (by decide) (by decide) (by decide) (by decide) (by omega)]; exact b1
    · rw [q66, v13, v14, v72, v73, o 12 (by decide) (by decide) (by decide) (by decide) (by decide) (by omega), o 71 (by decide) (by decide) (by decide) (by decide) (by decide) (by omega)]
      intro x x0 x1
      refine ⟨(b2 x x0 x1).1, ?_⟩
      by_cases ex : x = m
      · rw [ex, fu_s, fu_s, fu_s, fu_s]; exact ⟨rfl, rfl⟩
      · rw [fu_n ex, fu_n ex, fu_n ex, fu_n ex]; exact (b2 x x0 x1).2
    · rw [q66, o 15 (by decide) (by decide) (by decide) (by decide) (by decide) (by omega), o 16 (by decide) (by decide) (by decide) (by decide) (by decide) (by omega), o 17 (by decide) (by decide) (by decide) (by decide) (by decide) (by omega), o 74 (by decide) (by decide) (by decide) (by decide) (by decide) (by omega), o 75 (by decide) (by decide) (by decide) (by decide) (by decide) (by omega), o 76 (by decide) (by decide) (by decide) (by decide) (by decide) (by omega)]; exact b3
    · exact RA_CG hRA (by show S 10 8 ≤ 8; rw [a1]; exact W.1.2) (fun d hd => by rw [st2_o d (by omega), st2_o d (by omega)])
    · exact IR_o R (fun d q => o d (by omega) (by omega) (by omega) (by omega) (by omega) (by omega)) (by rw [q66]) (by rw [q66]) (by rw [q66])
    · exact IS_o H (fun d q => o d (by omega) (by omega) (by omega) (by omega) (by omega) (by omega))
    · unfold IF; rw [q66, v0]; exact F
    · exact EZ_0 (by rw [v0, fu_s])
end OPK
