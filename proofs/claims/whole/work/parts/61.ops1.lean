/-! a call of both: alike, and in agreement again -/
section OPS
variable {S S' : Mem} {p w k m a b c v : Int}
theorem Inv_keep (h : Inv S) (hc : ∀ c, c ≠ 0 → c ≠ 66 → c < 28 ∨ (46 ≤ c ∧ c < 51) ∨ (53 ≤ c ∧ c < 77) ∨ 84 ≤ c → S' c = S c) (h0 : S' 0 6 = S 0 6) (hF : IF S') (h66 : ∀ x, 5 ≤ x → x ≤ 8 → S' 66 x = S 66 x) (h26 : S' 66 26 = S 66 26) : Inv S' := by
  obtain ⟨T, R, H, F, Z⟩ := h
  have hm : 0 ≤ S 10 8 ∧ S 10 8 ≤ 8 := by rw [T.2.2.2.1.1]; exact T.1.1
  exact ⟨IT_o T (fun c q => hc c (by omega) (by omega) (by omega)) h66, IR_o R (fun c q => hc c (by omega) (by omega) (by omega)) (h66 5 (by decide) (by decide)) (h66 6 (by decide) (by decide)) h26, IS_o H (fun c q => hc c (by omega) (by omega) (by omega)), hF, EZ_o Z h0 hm (fun c q => hc c (by omega) (by omega) (by omega))⟩
/-- only what neither side keeps has changed -/
theorem Inv_fr {S1 : Mem} {lo hi lo' hi' : Nat} (h : Inv S) (f1 : fr lo hi S S1) (f2 : fr lo' hi' S1 S') (h1 : (28 ≤ lo ∧ hi ≤ 46) ∨ (51 ≤ lo ∧ hi ≤ 53)) (h2 : 77 ≤ lo' ∧ hi' ≤ 84) : Inv S' := by
  have e : ∀ c, c < 28 ∨ (46 ≤ c ∧ c < 51) ∨ (53 ≤ c ∧ c < 77) ∨ 84 ≤ c → S' c = S c := fun c hc => by rw [f2 c (by omega), f1 c (by omega)]
  refine Inv_keep h (fun c _ _ hc => e c hc) (by rw [e 0 (by omega)]) ?_ (fun x _ _ => by rw [e 66 (by omega)]) (by rw [e 66 (by omega)])
  unfold IF
  rw [e 0 (by omega), e 66 (by omega)]
  exact h.2.2.2.1
theorem Inv_frm {lo' hi' : Nat} (h : Inv S) (f2 : fr lo' hi' S S') (h2 : 77 ≤ lo' ∧ hi' ≤ 84) : Inv S' := Inv_fr (lo := 28) (hi := 28) h (fr_rf _ _ _) f2 (by omega) h2
theorem op_ofPassenger (I : Inv S) (hp : rng p) (hw : rng w) : AMi 1 yX6_ofPassenger cX6_ofPassenger 3 (some .int) [.inr (.inr 0), .inl p, .inl w] S (fun z S1 => AMi 1 yX7_ofPassenger cX7_ofPassenger 3 (some .int) [.inr (.inr 66), .inl p, .inl w] S1 (fun z' S2 => z' = z ∧ Inv S2)) := by
  obtain ⟨⟨W, t2, t3, ⟨a1, a2, a3, a4⟩, b1, b2, b3, G⟩, R, H, F, Z⟩ := id I
  refine ami_mono (x_ofPassenger hp hw (by rw [a2]; exact W.2.1)) (fun z S1 h => ?_)
  obtain ⟨hz, rfl⟩ := h
  refine ami_mono (m_ofPassenger hp hw W.2.1) (fun z' S2 h => ?_)
  obtain ⟨hz', rfl⟩ := h
  refine ⟨?_, I⟩
  rw [hz, hz', a2]
  by_cases e : p < 0 ∨ S2 66 6 ≤ p
  · rw [if_pos e, if_pos e]
  · obtain ⟨e1, e2, e3⟩ := b3 p (by omega) (by omega)
    rw [if_neg e, if_neg e, e1, e2, e3]
theorem op_regret (I : Inv S) (hp : rng p) (hm : rng m) : AMi 1 yX6_regret cX6_regret 3 (some .int) [.inr (.inr 0), .inl p, .inl m] S (fun z S1 => AMi 3 yX7_regret cX7_regret 3 (some .int) [.inr (.inr 66), .inl p, .inl m] S1 (fun z' S2 => z' = z ∧ Inv S2)) := by
  obtain ⟨T, R, H, F, Z⟩ := id I
  obtain ⟨W, t2, t3, ⟨a1, a2, a3, a4⟩, b1, b2, b3, G⟩ := id T
  refine ami_mono (x_regret hp hm (by rw [a1]; exact W.1) (by rw [a2]; exact W.2.1)) (fun z S1 h => ?_)
  obtain ⟨hz, rfl⟩ := h
  refine ami_mono (m_regret hp hm W) (fun z' S2 h => ?_)
  obtain ⟨f, hz'⟩ := h
  refine ⟨?_, Inv_frm I f (by omega)⟩
  rw [hz, hz', a1, a2]
  by_cases e : p < 0 ∨ S1 66 6 ≤ p
  · rw [if_pos e, if_pos e]
  · rw [if_neg e, if_neg e]
    by_cases e2 : m < 0 ∨ S1 66 5 < m
    · rw [if_pos e2, if_pos e2]
    · rw [if_neg e2, if_neg e2, IT_row T m.toNat (by omega) p (by omega) (by omega)]
theorem op_due (I : Inv S) (hp : rng p) (hm : rng m) : AMi 1 yX6_due cX6_due 3 (some .int) [.inr (.inr 0), .inl p, .inl m] S (fun z S1 => AMi 4 yX7_due cX7_due 4 (some .int) [.inr (.inr 66), .inl p, .inl m] S1 (fun z' S2 => z' = z ∧ Inv S2)) := by
  obtain ⟨T, R, H, F, Z⟩ := id I
  obtain ⟨W, t2, t3, ⟨a1, a2, a3, a4⟩, b1, b2, b3, G⟩ := id T
  have X := Inv_XW I
  obtain ⟨s1, s2, s3, s4, -⟩ := id W
  refine ami_mono (x_due hp hm (by rw [a1]; exact W.1) (by rw [a2]; exact W.2.1) (by rw [a3]; omega) (by rw [a4]; omega) (fun m hm p p0 p1 => by have := X.2.2.1 m hm p p0 p1; omega)) (fun z S1 h => ?_)
  obtain ⟨hz, rfl⟩ := h
  refine ami_mono (m_due hp hm W) (fun z' S2 h => ?_)
  obtain ⟨f, hz'⟩ := h
  refine ⟨?_, Inv_frm I f (by omega)⟩
  rw [hz, hz', a1, a2, a3, a4]
  by_cases e : p < 0 ∨ S1 66 6 ≤ p
  · rw [if_pos e, if_pos e]
  · rw [if_neg e, if_neg e]
    by_cases e2 : m < 0 ∨ S1 66 5 < m
    · rw [if_pos e2, if_pos e2]
    · rw [if_neg e2, if_neg e2, IT_row T m.toNat (by omega) p (by omega) (by omega)]
theorem op_trace (I : Inv S) : AMi 0 yX6_trace cX6_trace 1 (some .int) [.inr (.inr 0)] S (fun z S1 => AMi 0 yX7_trace cX7_trace 1 (some .int) [.inr (.inr 66)] S1 (fun z' S2 => z' = z ∧ Inv S2)) := by
  refine ami_mono x_trace (fun z S1 h => ?_)
  obtain ⟨hz, rfl⟩ := h
  refine ami_mono m_trace (fun z' S2 h => ?_)
  obtain ⟨hz', rfl⟩ := h
  exact ⟨by rw [hz, hz']; exact I.2.2.2.1.1.symm, I⟩
theorem op_fault (I : Inv S) : AMi 0 yX6_fault cX6_fault 1 (some .int) [.inr (.inr 0)] S (fun z S1 => AMi 0 yX7_fault cX7_fault 1 (some .int) [.inr (.inr 66)] S1 (fun z' S2 => z' = z ∧ Inv S2)) := by
  refine ami_mono x_fault (fun z S1 h => ?_)
  obtain ⟨hz, rfl⟩ := h
  refine ami_mono m_fault (fun z' S2 h => ?_)
  obtain ⟨hz', rfl⟩ := h
  exact ⟨by rw [hz, hz']; exact I.2.2.2.1.2.symm, I⟩
theorem op_many (I : Inv S) (hw : rng w) : AMi 0 yX6_many cX6_many 2 (some .int) [.inr (.inr 0), .inl w] S (fun z S1 => AMi 0 yX7_many cX7_many 2 (some .int) [.inr (.inr 66), .inl w] S1 (fun z' S2 => z' = z ∧ Inv S2)) := by
  obtain ⟨⟨W, t2, t3, ⟨a1, a2, a3, a4⟩, b1, b2, b3, G⟩, R, H, F, Z⟩ := id I
  refine ami_mono (x_many hw) (fun z S1 h => ?_)
  obtain ⟨hz, rfl⟩ := h
  refine ami_mono (m_many hw) (fun z' S2 h => ?_)
  obtain ⟨hz', rfl⟩ := h
  exact ⟨by rw [hz, hz', a1, a2, R.2.1], I⟩
end OPS
