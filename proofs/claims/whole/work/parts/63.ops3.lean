/-! a call of both: dig, talk -/
section OPD
variable {S S' : Mem} {p w k m a b c v : Int}
theorem RA_CG {S0 S1 S2 : Mem} (h : RA S0 S1) (hm : S0 10 8 ≤ 8) (hc : ∀ c, c < 66 → S2 c = S1 c) : CG S2 := by
  obtain ⟨g1, g2, g3⟩ := h
  have e : ∀ c, 10 ≤ c → c < 18 → S2 c = S0 c := fun c h1 h2 => by rw [hc c (by omega), g1 c (by omega) (by omega)]
  intro j hj q q0 q1
  rw [e 10 (by omega) (by omega)] at hj q1
  rw [hc (19 + j) (by omega), g3 j hj q q0 q1, e 12 (by omega) (by omega), e 13 (by omega) (by omega), e 14 (by omega) (by omega), e 15 (by omega) (by omega), e 16 (by omega) (by omega), e 17 (by omega) (by omega)]
theorem st2_id (S : Mem) (c : Nat) (i : Int) : st2 S c i (S c i) = S := by
  funext c' i'
  unfold st2
  by_cases h : c' = c ∧ i' = i
  · rw [if_pos h, h.1, h.2]
  · rw [if_neg h]
theorem op_dig (I : Inv S) (hm : rng m) (hb : b = 0 ∨ b = 1) : AMi 6 yX6_dig cX6_dig 3 (some .int) [.inr (.inr 0), .inl m, .inl b] S (fun z S1 => AMi 1 yX7_dig cX7_dig 4 (some .int) [.inr (.inr 66), .inl m, .inl b] S1 (fun z' S2 => z' = z ∧ Inv S2)) := by
  obtain ⟨T, R, H, F, Z⟩ := id I
  obtain ⟨W, t2, t3, ⟨a1, a2, a3, a4⟩, b1, b2, b3, G⟩ := id T
  refine ami_mono (x_dig hm hb (IT_TW T)) (fun z S1 h => ?_)
  obtain ⟨hz, hS1⟩ := h
  rw [a1] at hz hS1
  by_cases e : S 66 5 = 0 ∨ m < 0 ∨ S 66 5 ≤ m
  · rw [if_pos (by omega)] at hS1
    subst hS1
    refine ami_mono (m_dig hm hb W) (fun z' S2 h => ?_)
    obtain ⟨hz', hS2⟩ := h
    rw [if_pos e] at hS2
    subst hS2
    refine ⟨?_, I⟩
    rw [hz, hz']
    by_cases e1 : S2 66 5 = 0
    · rw [if_pos e1, if_pos e1]
    · rw [if_neg e1, if_neg e1, if_pos (by omega), if_pos (by omega)]
  · obtain ⟨em, -, -⟩ := b2 m (by omega) (by omega)
    by_cases e2 : S 12 m = b
    · rw [if_pos (by omega)] at hS1
      subst hS1
      refine ami_mono (m_dig hm hb W) (fun z' S2 h => ?_)
      obtain ⟨hz', hS2⟩ := h
      rw [if_neg e, ← e2, em, st2_id] at hS2
      subst hS2
      refine ⟨?_, I⟩
      rw [hz, hz', em]
    · rw [if_neg (by omega)] at hS1
      have hRA := hS1
      obtain ⟨g1, g2, g3⟩ := hS1
      have o1 : ∀ d, d ≠ 0 → d ≠ 12 → d < 19 ∨ 28 ≤ d → S1 d = S d := fun d h1 h2 h3 => by rw [g1 d h1 h3, st2_o d h2]
      have e66 := o1 66 (by decide) (by decide) (by omega)
      have W1 : MW S1 := MW_o W (fun c h1 h2 => o1 c (by omega) (by omega) (by omega))
      refine ami_mono (m_dig hm hb W1) (fun z' S2 h => ?_)
      obtain ⟨hz', hS2⟩ := h
      rw [e66, if_neg e] at hS2
      rw [e66, o1 71 (by decide) (by decide) (by omega)] at hz'
      subst hS2
      have o : ∀ d, d ≠ 0 → d ≠ 12 → d ≠ 71 → d < 19 ∨ 28 ≤ d → st2 S1 71 m b d = S d := fun d h1 h2 h3 h4 => by rw [st2_o d h3, o1 d h1 h2 h4]
      have v12 : st2 S1 71 m b 12 = fu (S 12) m b := by rw [st2_o 12 (by decide), g1 12 (by decide) (by omega), st2_fu]
      have v71 : st2 S1 71 m b 71 = fu (S 71) m b := by rw [st2_fu, o1 71 (by decide) (by decide) (by omega)]
      have v0 : st2 S1 71 m b 0 = fu (S 0) 6 0 := by rw [st2_o 0 (by decide), g2, st2_fu]; rfl
      refine ⟨?_, ⟨?_, ?_, ?_, ?_, ?_, ?_, ?_, ?_⟩, ?_, ?_, ?_, ?_⟩
      · rw [hz, hz', em]
      · obtain ⟨s1, s2, s3, s4, s5, s6⟩ := id W
        unfold MW
        rw [o 66 (by decide) (by decide) (by decide) (by omega), o 72 (by decide) (by decide) (by decide) (by omega), o 73 (by decide) (by decide) (by decide) (by omega), o 74 (by decide) (by decide) (by decide) (by omega), o 75 (by decide) (by decide) (by decide) (by omega), o 76 (by decide) (by decide) (by decide) (by omega), v71]
        refine ⟨s1, s2, s3, s4, fun x x0 x1 => ⟨?_, (s5 x x0 x1).2⟩, s6⟩
        by_cases ex : x = m
        · rw [ex, fu_s]; exact hb
        · rw [fu_n ex]; exact (s5 x x0 x1).1
      · rw [o 70 (by decide) (by decide) (by decide) (by omega)]; exact t2
      · rw [o 66 (by decide) (by decide) (by decide) (by omega)]; exact t3
      · rw [o 66 (by decide) (by decide) (by decide) (by omega), o 10 (by decide) (by decide) (by decide) (by omega)]; exact ⟨a1, a2, a3, a4⟩
      · rw [o 70 (by decide) (by decide) (by decide) (by omega), o 11 (by decide) (by decide) (by decide) (by omega)]; exact b1
      · rw [o 66 (by decide) (by decide) (by decide) (by omega), v12, v71, o 13 (by decide) (by decide) (by decide) (by omega), o 14 (by decide) (by decide) (by decide) (by omega), o 72 (by decide) (by decide) (by decide) (by omega), o 73 (by decide) (by decide) (by decide) (by omega)]
        intro x x0 x1
        refine ⟨?_, (b2 x x0 x1).2⟩
        by_cases ex : x = m
        · rw [ex, fu_s, fu_s]
        · rw [fu_n ex, fu_n ex]; exact (b2 x x0 x1).1
      · rw [o 66 (by decide) (by decide) (by decide) (by omega), o 15 (by decide) (by decide) (by decide) (by omega), o 16 (by decide) (by decide) (by decide) (by omega), o 17 (by decide) (by decide) (by decide) (by omega), o 74 (by decide) (by decide) (by decide) (by omega), o 75 (by decide) (by decide) (by decide) (by omega), o 76 (by decide) (by decide) (by decide) (by omega)]; exact b3
      · exact RA_CG hRA (by show S 10 8 ≤ 8; rw [a1]; exact W.1.2) (fun d hd => st2_o d (by omega))
      · exact IR_o R (fun d q => o d (by omega) (by omega) (by omega) (by omega)) (by rw [o 66 (by decide) (by decide) (by decide) (by omega)]) (by rw [o 66 (by decide) (by decide) (by decide) (by omega)]) (by rw [o 66 (by decide) (by decide) (by decide) (by omega)])
      · exact IS_o H (fun d q => o d (by omega) (by omega) (by omega) (by omega))
      · unfold IF; rw [o 66 (by decide) (by decide) (by decide) (by omega), v0]; exact F
      · exact EZ_0 (by rw [v0, fu_s])
end OPD
