/-! a call of both: cell, copy -/
section OPC
variable {S S' : Mem} {p w m a b c v t i j n o : Int}
theorem fCl_eq {k : Nat} (H : IS S) (hk : k < 4) (t i : Int) : fCl (S (2 + k) 1) (S (2 + k) 2) t i = fMl (S 67 (k : Int)) (S 68 (k : Int)) t i := by
  obtain ⟨g1, g2, g3, g4⟩ := IS_l H hk
  unfold fCl fMl
  rw [g3]
  by_cases q : S 67 (k : Int) = -9
  · rw [if_pos q, if_pos (g1.mpr q)]
  · rw [if_neg q, if_neg (fun h => q (g1.mp h)), (g2 q).1]
theorem fCs_eq {k : Nat} (H : IS S) (hk : k < 4) (t i n : Int) : fCs (S (2 + k) 1) (S (2 + k) 2) t i n = fMs (S 67 (k : Int)) (S 68 (k : Int)) t i n := by
  obtain ⟨g1, g2, g3, g4⟩ := IS_l H hk
  unfold fCs fMs
  rw [g3]
  by_cases q : S 67 (k : Int) = -9
  · rw [if_pos q, if_pos (g1.mpr q)]
  · rw [if_neg q, if_neg (fun h => q (g1.mp h)), (g2 q).1]
theorem op_cell {k : Int} (I : Inv S) (hk : rng k) (hi : rng i) (ht : rng t) : AMl 2 yX6_cell cX6_cell 5 (some .long) [.inr (.inr 0), .inl k, .inl i, .inl t] S (fun z S1 => AMl 2 yX7_cell cX7_cell 4 (some .long) [.inr (.inr 66), .inl k, .inl i, .inl t] S1 (fun z' S2 => z' = z ∧ Inv S2)) := by
  obtain ⟨T, R, H, F, Z⟩ := id I
  refine aml_mono (x_cell hk hi ht (IS_s H) H.2.1) (fun z S1 h => ?_)
  obtain ⟨hz, hS1⟩ := h
  by_cases e : k < 0 ∨ 4 ≤ k ∨ t < 0 ∨ 3 ≤ t
  · rw [if_pos (by omega)] at hS1 hz
    subst hS1
    refine aml_mono (m_cell hk hi ht (MH_x0 H.1 _ _)) (fun z' S2 h => ?_)
    obtain ⟨hz', hS2⟩ := h
    rw [if_pos (by omega)] at hS2 hz'
    rw [hz, hz', hS2]
    exact ⟨rfl, Inv_flt I 0⟩
  · obtain ⟨κ, rfl⟩ : ∃ κ : Nat, k = (κ : Int) := ⟨k.toNat, by omega⟩
    have hκ : κ < 4 := by omega
    rw [Int.toNat_natCast, fCl_eq H hκ] at hS1 hz
    rw [if_neg e] at hS1
    have o1 : ∀ d, d ≠ 0 → S1 d = S d := fun d h => by rw [hS1, st2_o d h]
    refine aml_mono (m_cell (S := S1) hk hi ht (MH_o H.1 (o1 67 (by omega)) (o1 68 (by omega)) (o1 69 (by omega)))) (fun z' S2 h => ?_)
    obtain ⟨hz', hS2⟩ := h
    rw [o1 67 (by omega), o1 68 (by omega)] at hS2 hz'
    rw [if_neg e] at hS2
    rw [o1 69 (by omega)] at hz'
    refine ⟨?_, by rw [hS2, hS1]; exact Inv_flt I _⟩
    by_cases f0 : fMl (S 67 (κ : Int)) (S 68 (κ : Int)) t i = 0
    · rw [if_neg (fun h => by rcases h with h | h | h | h | h <;> first | omega | exact h f0)] at hz hz'
      rw [hz, hz']
      have hi2 : 0 ≤ i ∧ i < 60 := by
        have := (H.1.1 (κ : Int) (by omega) (by omega)).2
        unfold fMl at f0
        omega
      exact ((H.2.2 κ hκ).2.2 i hi2.1 hi2.2).symm
    · rw [if_pos (Or.inr (Or.inr (Or.inr (Or.inr f0))))] at hz hz'
      rw [hz, hz']
theorem op_copy {k : Int} (I : Inv S) (hk : rng k) (hi : rng i) (ho : rng o) (hj : rng j) (hn : rng n) : AMi 1 yX6_copy cX6_copy 8 (some .int) [.inr (.inr 0), .inl k, .inl i, .inl o, .inl j, .inl n] S (fun z S1 => AMi 2 yX7_copy cX7_copy 10 (some .int) [.inr (.inr 66), .inl k, .inl i, .inl o, .inl j, .inl n] S1 (fun z' S2 => z' = z ∧ Inv S2)) := by
  obtain ⟨T, R, H, F, Z⟩ := id I
  refine ami_mono (x_copy hk hi ho hj hn (IS_s H)) (fun z S1 h => ?_)
  by_cases e : k < 0 ∨ 4 ≤ k ∨ o < 0 ∨ 4 ≤ o
  · rw [if_pos e] at h
    obtain ⟨hz, rfl⟩ := h
    refine ami_mono (m_copy hk hi ho hj hn (MH_x0 H.1 _ _)) (fun z' S2 h => ?_)
    rw [if_pos e] at h
    obtain ⟨hz', rfl⟩ := h
    rw [hz, hz']
    exact ⟨rfl, Inv_flt I 0⟩
  · rw [if_neg e] at h
    obtain ⟨κ, rfl⟩ : ∃ κ : Nat, k = (κ : Int) := ⟨k.toNat, by omega⟩
    obtain ⟨ω, rfl⟩ : ∃ κ : Nat, o = (κ : Int) := ⟨o.toNat, by omega⟩
    have hκ : κ < 4 := by omega
    have hω : ω < 4 := by omega
    obtain ⟨g1, g2, g3, g4⟩ := IS_l H hκ
    obtain ⟨w1, w2, w3, w4⟩ := IS_l H hω
    rw [Int.toNat_natCast, Int.toNat_natCast, g3, w3] at h
    by_cases e2 : S 67 (κ : Int) = -9 ∨ S 67 (ω : Int) = -9
    · rw [if_pos (by rcases e2 with q | q; exact Or.inl (g1.mpr q); exact Or.inr (w1.mpr q))] at h
      obtain ⟨hz, rfl⟩ := h
      refine ami_mono (m_copy hk hi ho hj hn (MH_x0 H.1 _ _)) (fun z' S2 h => ?_)
      rw [st2_o 67 (by decide), st2_o 68 (by decide), if_neg e, if_pos e2] at h
      obtain ⟨hz', rfl⟩ := h
      rw [hz, hz']
      exact ⟨rfl, Inv_flt I 1⟩
    · rw [if_neg (by rintro (q | q); exact e2 (Or.inl (g1.mp q)); exact e2 (Or.inr (w1.mp q)))] at h
      obtain ⟨g5, g6⟩ := g2 (fun q => e2 (Or.inl q))
      obtain ⟨w5, w6⟩ := w2 (fun q => e2 (Or.inr q))
      rw [g5, w5] at h
      by_cases e3 : S 67 (κ : Int) ≠ S 67 (ω : Int)
      · rw [if_pos e3] at h
        obtain ⟨hz, rfl⟩ := h
        refine ami_mono (m_copy hk hi ho hj hn (MH_x0 H.1 _ _)) (fun z' S2 h => ?_)
        rw [st2_o 67 (by decide), st2_o 68 (by decide), if_neg e, if_neg e2, if_pos e3] at h
        obtain ⟨hz', rfl⟩ := h
        rw [hz, hz']
        exact ⟨rfl, Inv_flt I 2⟩
      · rw [if_neg e3] at h
        by_cases e4 : n < 0 ∨ (i < 0 ∨ S 68 (κ : Int) < i ∨ S 68 (κ : Int) - i < n) ∨ (j < 0 ∨ S 68 (ω : Int) < j ∨ S 68 (ω : Int) - j < n)
        · rw [if_pos e4] at h
          obtain ⟨hz, rfl⟩ := h
          refine ami_mono (m_copy hk hi ho hj hn (MH_x0 H.1 _ _)) (fun z' S2 h => ?_)
          rw [st2_o 67 (by decide), st2_o 68 (by decide), if_neg e, if_neg e2, if_neg e3, if_pos e4] at h
          obtain ⟨hz', rfl⟩ := h
          rw [hz, hz']
          exact ⟨rfl, Inv_flt I 3⟩
        · rw [if_neg e4] at h
          obtain ⟨hz, hS1⟩ := h
          have c2 : ∀ (Q : Mem) (c d : Nat) (x : Int), d ≠ 6 + ω → cp2 Q c x (6 + ω) j n d = Q d := fun Q c d x h => funext fun x => if_neg (fun q => h q.1)
          have cR : ∀ (Q : Mem) (s t a b : Int) (d : Nat), d ≠ 69 → cpR Q s t a b d = Q d := fun Q s t a b d h => funext fun x => if_neg (fun q => h q.1)
          have o1 : ∀ d, d ≠ 0 → d ≠ 6 + ω → S1 d = S d := fun d h0 h1 => by rw [hS1, c2 _ _ _ _ h1, st2_o d h0]
          refine ami_mono (m_copy (S := S1) hk hi ho hj hn (MH_o H.1 (o1 67 (by omega) (by omega)) (o1 68 (by omega) (by omega)) (o1 69 (by omega) (by omega)))) (fun z' S2 h => ?_)
          rw [o1 67 (by omega) (by omega), o1 68 (by omega) (by omega), if_neg e, if_neg e2, if_neg e3, if_neg e4] at h
          obtain ⟨hz', hS2⟩ := h
          have oo : ∀ d, d ≠ 0 → d ≠ 6 + ω → d ≠ 66 → d ≠ 69 → S2 d = S d := fun d h0 h1 h2 h3 => by rw [hS2, cR _ _ _ _ _ _ h3, st2_o d h2, o1 d h0 h1]
          have q0 : S2 0 = fu (S 0) 8 0 := by rw [hS2, cR _ _ _ _ _ _ (by omega), st2_o 0 (by omega), hS1, c2 _ _ _ _ (by omega), st2_fu]
          have q66 : S2 66 = fu (S 66) 0 0 := by rw [hS2, cR _ _ _ _ _ _ (by omega), st2_fu, o1 66 (by omega) (by omega)]
          have e69 : ∀ x, st2 S1 66 0 0 69 x = S 69 x := fun x => by rw [st2_o 69 (by omega), o1 69 (by omega) (by omega)]
          have q69s : ∀ x : Int, 60 * (ω : Int) + j ≤ x → x < 60 * (ω : Int) + j + n → S2 69 x = S 69 (60 * (κ : Int) + i + (x - (60 * (ω : Int) + j))) := fun x x0 x1 => by
            rw [hS2]
            refine (if_pos ⟨rfl, by omega, by omega⟩).trans ?_
            exact e69 _
          have q69 : ∀ x : Int, ¬ (60 * (ω : Int) + j ≤ x ∧ x < 60 * (ω : Int) + j + n) → S2 69 x = S 69 x := fun x h => by
            rw [hS2]
            refine (if_neg (fun q => h (by omega))).trans ?_
            exact e69 _
          have e6 : S2 (6 + ω) = S1 (6 + ω) := by rw [hS2, cR _ _ _ _ _ _ (by omega), st2_o _ (by omega)]
          have q6s : ∀ x : Int, j ≤ x → x < j + n → S2 (6 + ω) x = S (6 + κ) (i + (x - j)) := fun x x0 x1 => by
            rw [e6, hS1]
            refine (if_pos ⟨rfl, by omega, by omega⟩).trans ?_
            rw [st2_o _ (by omega)]
          have q6 : ∀ x : Int, ¬ (j ≤ x ∧ x < j + n) → S2 (6 + ω) x = S (6 + ω) x := fun x h => by
            rw [e6, hS1]
            refine (if_neg (fun q => h (by omega))).trans ?_
            rw [st2_o _ (by omega)]
          refine ⟨by rw [hz, hz'], Inv_sh I (fun d h1 h2 h3 h4 => oo d (by omega) (by omega) (by omega) (by omega)) (fun x hx => by rw [q0, fu_n hx]) (fun x hx => by rw [q66, fu_n hx]) (by rw [q0, q66, fu_s, fu_s]) ?_⟩
          refine IS_upd H hω (fun x hj hn => oo _ (by omega) (by omega) (by omega) (by omega)) (fun x hj hn => oo _ (by omega) (by omega) (by omega) (by omega)) (fun x hx => ⟨by rw [oo 67 (by omega) (by omega) (by omega) (by omega)], by rw [oo 68 (by omega) (by omega) (by omega) (by omega)]⟩) (fun x hx => q69 x (by omega)) ?_ ?_ ?_ ?_ ?_ ?_
          · rw [oo 67 (by omega) (by omega) (by omega) (by omega), oo 68 (by omega) (by omega) (by omega) (by omega)]
            exact ⟨Or.inr w6, w4⟩
          · intro x
            by_cases hx : 60 * (ω : Int) + j ≤ x ∧ x < 60 * (ω : Int) + j + n
            · rw [q69s x hx.1 hx.2]; exact H.1.2 _
            · rw [q69 x hx]; exact H.1.2 x
          · intro x
            by_cases hx : j ≤ x ∧ x < j + n
            · rw [q6s x hx.1 hx.2]; exact H.2.1 κ _ hκ
            · rw [q6 x hx]; exact H.2.1 ω x hω
          · rw [oo 67 (by omega) (by omega) (by omega) (by omega), oo _ (by omega) (by omega) (by omega) (by omega)]; exact (H.2.2 ω hω).1
          · rw [oo 68 (by omega) (by omega) (by omega) (by omega), oo _ (by omega) (by omega) (by omega) (by omega)]; exact w3
          · intro x x0 x1
            by_cases hx : j ≤ x ∧ x < j + n
            · rw [q6s x hx.1 hx.2, q69s _ (by omega) (by omega), (H.2.2 κ hκ).2.2 _ (by omega) (by omega)]
              exact congrArg (S 69) (by omega)
            · rw [q6 x hx, q69 _ (by omega)]; exact (H.2.2 ω hω).2.2 x x0 x1
end OPC
