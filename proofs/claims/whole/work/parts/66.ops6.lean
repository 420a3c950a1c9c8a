/-! a call of both: sheets -/
section OPH
variable {S S' : Mem} {p w m a b c v t i j n o : Int}
theorem IS_upd {k : Nat} (H : IS S) (hk : k < 4) (o2 : ∀ j : Nat, j < 4 → j ≠ k → S' (2 + j) = S (2 + j)) (o6 : ∀ j : Nat, j < 4 → j ≠ k → S' (6 + j) = S (6 + j)) (o67 : ∀ x : Int, x ≠ (k : Int) → S' 67 x = S 67 x ∧ S' 68 x = S 68 x) (o69 : ∀ x : Int, x < 60 * (k : Int) ∨ 60 * (k : Int) + 60 ≤ x → S' 69 x = S 69 x) (n67 : (S' 67 (k : Int) = -9 ∨ (0 ≤ S' 67 (k : Int) ∧ S' 67 (k : Int) ≤ 2)) ∧ (0 ≤ S' 68 (k : Int) ∧ S' 68 (k : Int) ≤ 60)) (n69 : ∀ x, rng (S' 69 x)) (n6 : ∀ x, rng (S' (6 + k) x)) (e1 : S' (2 + k) 1 = (if S' 67 (k : Int) = -9 then -1 else S' 67 (k : Int))) (e2 : S' (2 + k) 2 = S' 68 (k : Int)) (e6 : ∀ i, 0 ≤ i → i < 60 → S' (6 + k) i = S' 69 (60 * (k : Int) + i)) : IS S' := by
  obtain ⟨⟨h1, h2⟩, h3, h4⟩ := H
  refine ⟨⟨fun x x0 x1 => ?_, n69⟩, fun j x hj => ?_, fun j hj => ?_⟩
  · by_cases ex : x = (k : Int)
    · rw [ex]; exact n67
    · rw [(o67 x ex).1, (o67 x ex).2]; exact h1 x x0 x1
  · by_cases ej : j = k
    · rw [ej]; exact n6 x
    · rw [o6 j hj ej]; exact h3 j x hj
  · by_cases ej : j = k
    · subst ej; exact ⟨e1, e2, e6⟩
    · rw [o2 j hj ej, o6 j hj ej, (o67 j (by omega)).1, (o67 j (by omega)).2]
      obtain ⟨g1, g2, g3⟩ := h4 j hj
      exact ⟨g1, g2, fun i i0 i1 => by rw [o69 _ (by omega)]; exact g3 i i0 i1⟩
theorem IS_l {k : Nat} (H : IS S) (hk : k < 4) : (S (2 + k) 1 = -1 ↔ S 67 (k : Int) = -9) ∧ (S 67 (k : Int) ≠ -9 → S (2 + k) 1 = S 67 (k : Int) ∧ 0 ≤ S 67 (k : Int) ∧ S 67 (k : Int) ≤ 2) ∧ S (2 + k) 2 = S 68 (k : Int) ∧ (0 ≤ S 68 (k : Int) ∧ S 68 (k : Int) ≤ 60) := by
  obtain ⟨⟨h1, h2⟩, h3, h4⟩ := H
  obtain ⟨g1, g2, g3⟩ := h4 k hk
  obtain ⟨g4, g5⟩ := h1 (k : Int) (by omega) (by omega)
  refine ⟨?_, ?_, g2, g5⟩
  · rw [g1]
    split <;> omega
  · intro q
    rw [g1, if_neg q]
    omega
theorem IS_s (H : IS S) : ∀ j : Nat, j < 4 → rng (S (2 + j) 1) ∧ 0 ≤ S (2 + j) 2 ∧ S (2 + j) 2 ≤ 60 := fun j hj => by
  obtain ⟨g1, g2, g3, g4⟩ := IS_l H hj
  rw [g3]
  refine ⟨?_, g4⟩
  by_cases q : S 67 (j : Int) = -9
  · rw [g1.mpr q]; decide
  · have := g2 q
    omega
theorem MH_x0 (H : MH S) (i v : Int) : MH (st2 S 0 i v) := MH_o H rfl rfl rfl
/-- all but the sheets and the faults is kept -/
theorem Inv_sh (I : Inv S) (hc : ∀ c, c ≠ 0 → c ≠ 66 → (c < 2 ∨ 10 ≤ c) → (c < 67 ∨ 70 ≤ c) → S' c = S c) (h0 : ∀ x, x ≠ 8 → S' 0 x = S 0 x) (h66 : ∀ x, x ≠ 0 → S' 66 x = S 66 x) (hf : S' 0 8 = S' 66 0) (hS : IS S') : Inv S' := by
  obtain ⟨T, R, H, F, Z⟩ := id I
  refine ⟨IT_o T (fun c q => hc c (by omega) (by omega) (by omega) (by omega)) (fun x x1 x2 => h66 x (by omega)), IR_o R (fun c q => hc c (by omega) (by omega) (by omega) (by omega)) (h66 5 (by decide)) (h66 6 (by decide)) (h66 26 (by decide)), hS, ⟨?_, hf⟩, EZ_o Z (h0 6 (by decide)) (by rw [T.2.2.2.1.1]; exact T.1.1) (fun c q => hc c (by omega) (by omega) (by omega) (by omega))⟩
  rw [h0 7 (by decide), h66 1 (by decide)]
  exact F.1
theorem op_lose {k : Int} (I : Inv S) (hk : rng k) : AMi 1 yX6_lose cX6_lose 3 (some .int) [.inr (.inr 0), .inl k] S (fun z S1 => AMi 2 yX7_lose cX7_lose 3 (some .int) [.inr (.inr 66), .inl k] S1 (fun z' S2 => z' = z ∧ Inv S2)) := by
  obtain ⟨T, R, H, F, Z⟩ := id I
  refine ami_mono (x_lose hk (fun j hj => (IS_s H j hj).1)) (fun z S1 h => ?_)
  obtain ⟨hz, hS1⟩ := h
  by_cases e : k < 0 ∨ 4 ≤ k
  · rw [if_pos e] at hS1 hz
    subst hS1
    refine ami_mono (m_lose hk H.1) (fun z' S2 h => ?_)
    obtain ⟨hz', hS2⟩ := h
    rw [if_pos e] at hS2 hz'
    subst hS2
    exact ⟨by rw [hz, hz'], I⟩
  · obtain ⟨κ, rfl⟩ : ∃ κ : Nat, k = (κ : Int) := ⟨k.toNat, by omega⟩
    have hκ : κ < 4 := by omega
    rw [if_neg e, Int.toNat_natCast] at hS1 hz
    have o1 : ∀ d, d ≠ 2 + κ → S1 d = S d := fun d h => by rw [hS1, st2_o d h]
    refine ami_mono (m_lose (S := S1) hk (MH_o H.1 (o1 67 (by omega)) (o1 68 (by omega)) (o1 69 (by omega)))) (fun z' S2 h => ?_)
    obtain ⟨hz', hS2⟩ := h
    rw [if_neg e] at hS2 hz'
    rw [o1 67 (by omega)] at hz'
    obtain ⟨g1, g2, g3, g4⟩ := IS_l H hκ
    have o : ∀ d, d ≠ 2 + κ → d ≠ 67 → S2 d = S d := fun d h1 h2 => by rw [hS2, st2_o d h2, o1 d h1]
    have q67 : S2 67 = fu (S 67) κ (-9) := by rw [hS2, st2_fu, o1 67 (by omega)]
    have q2 : S2 (2 + κ) = fu (S (2 + κ)) 1 (-1) := by rw [hS2, st2_o _ (by omega), hS1, st2_fu]
    refine ⟨?_, Inv_sh I (fun d h1 h2 h3 h4 => o d (by omega) (by omega)) (fun x _ => by rw [o 0 (by omega) (by decide)]) (fun x _ => by rw [o 66 (by omega) (by decide)]) (by rw [o 0 (by omega) (by decide), o 66 (by omega) (by decide)]; exact F.2) ?_⟩
    · rw [hz, hz']
      by_cases q : S 67 (κ : Int) = -9
      · rw [if_pos q, if_pos (g1.mpr q)]
      · rw [if_neg q, if_neg (fun h => q (g1.mp h))]
    · refine IS_upd H hκ (fun j hj hn => o _ (by omega) (by omega)) (fun j hj hn => o _ (by omega) (by omega)) (fun x hx => ⟨by rw [q67, fu_n hx], by rw [o 68 (by omega) (by decide)]⟩) (fun x _ => by rw [o 69 (by omega) (by decide)]) ?_ ?_ ?_ ?_ ?_ ?_
      · rw [q67, fu_s, o 68 (by omega) (by decide)]
        exact ⟨Or.inl rfl, g4⟩
      · rw [o 69 (by omega) (by decide)]; exact H.1.2
      · rw [o (6 + κ) (by omega) (by omega)]; exact fun x => H.2.1 κ x hκ
      · rw [q2, fu_s, q67, fu_s]; rfl
      · rw [q2, fu_n (show (2 : Int) ≠ 1 by decide), o 68 (by omega) (by decide)]; exact g3
      · rw [o (6 + κ) (by omega) (by omega), o 69 (by omega) (by decide)]; exact (H.2.2 κ hκ).2.2
theorem op_sheet {k : Int} (I : Inv S) (hk : rng k) (ht : rng t) (hn : rng n) : AMi 2 yX6_sheet cX6_sheet 4 (some .int) [.inr (.inr 0), .inl k, .inl t, .inl n] S (fun z S1 => AMi 2 yX7_sheet cX7_sheet 5 (some .int) [.inr (.inr 66), .inl k, .inl t, .inl n] S1 (fun z' S2 => z' = z ∧ Inv S2)) := by
  obtain ⟨T, R, H, F, Z⟩ := id I
  refine ami_mono (x_sheet hk ht hn) (fun z S1 h => ?_)
  obtain ⟨hz, hS1⟩ := h
  refine ami_mono (m_sheet (S := S1) hk ht hn) (fun z' S2 h => ?_)
  obtain ⟨hz', hS2⟩ := h
  refine ⟨by rw [hz, hz'], ?_⟩
  by_cases e : k < 0 ∨ 4 ≤ k ∨ t < 0 ∨ 3 ≤ t ∨ 60 < n
  · rw [if_pos e] at hS1 hS2
    rw [hS2, hS1]
    exact Inv_flt I 0
  · rw [if_neg e] at hS1 hS2
    by_cases e2 : n < 0
    · rw [if_pos e2] at hS1 hS2
      rw [hS2, hS1]
      exact Inv_flt I 4
    · rw [if_neg e2] at hS1 hS2
      obtain ⟨κ, rfl⟩ : ∃ κ : Nat, k = (κ : Int) := ⟨k.toNat, by omega⟩
      have hκ : κ < 4 := by omega
      rw [Int.toNat_natCast] at hS1
      have f2 : ∀ (Q : Mem) (c d : Nat), d ≠ c → fl2 Q c 60 0 d = Q d := fun Q c d h => funext fun x => if_neg (fun q => h q.1)
      have f2s : ∀ (Q : Mem) (c : Nat) (x : Int), 0 ≤ x → x < 60 → fl2 Q c 60 0 c x = 0 := fun Q c x x0 x1 => if_pos ⟨rfl, x0, x1⟩
      have fM : ∀ (Q : Mem) (d : Nat), d ≠ 69 → flM Q (κ : Int) 60 d = Q d := fun Q d h => funext fun x => if_neg (fun q => h q.1)
      have fMs : ∀ (Q : Mem) (x : Int), 60 * (κ : Int) ≤ x → x < 60 * (κ : Int) + 60 → flM Q (κ : Int) 60 69 x = 0 := fun Q x x0 x1 => if_pos ⟨rfl, x0, x1⟩
      have fMn : ∀ (Q : Mem) (x : Int), ¬ (60 * (κ : Int) ≤ x ∧ x < 60 * (κ : Int) + 60) → flM Q (κ : Int) 60 69 x = Q 69 x := fun Q x h => if_neg (fun q => h q.2)
      have o1 : ∀ d, d ≠ 0 → d ≠ 2 + κ → d ≠ 6 + κ → S1 d = S d := fun d h0 h1 h2 => by rw [hS1, f2 _ _ _ h2, st2_o d h1, st2_o d h1, st2_o d h0]
      have o2 : ∀ d, d < 66 ∨ 70 ≤ d → S2 d = S1 d := fun d h => by rw [hS2, fM _ _ (by omega), st2_o d (by omega), st2_o d (by omega), st2_o d (by omega)]
      have o : ∀ d, d ≠ 0 → d ≠ 2 + κ → d ≠ 6 + κ → d < 66 ∨ 70 ≤ d → S2 d = S d := fun d h0 h1 h2 h3 => by rw [o2 d h3, o1 d h0 h1 h2]
      have q0 : S2 0 = fu (S 0) 8 0 := by rw [o2 0 (by omega), hS1, f2 _ _ _ (by omega), st2_o 0 (by omega), st2_o 0 (by omega), st2_fu]
      have q66 : S2 66 = fu (S 66) 0 0 := by rw [hS2, fM _ _ (by omega), st2_o 66 (by omega), st2_o 66 (by omega), st2_fu, o1 66 (by omega) (by omega) (by omega)]
      have q67 : S2 67 = fu (S 67) κ t := by rw [hS2, fM _ _ (by omega), st2_o 67 (by omega), st2_fu, st2_o 67 (by omega), o1 67 (by omega) (by omega) (by omega)]
      have q68 : S2 68 = fu (S 68) κ n := by rw [hS2, fM _ _ (by omega), st2_fu, st2_o 68 (by omega), st2_o 68 (by omega), o1 68 (by omega) (by omega) (by omega)]
      have q69s : ∀ x : Int, 60 * (κ : Int) ≤ x → x < 60 * (κ : Int) + 60 → S2 69 x = 0 := fun x x0 x1 => by rw [hS2]; exact fMs _ x x0 x1
      have q69 : ∀ x : Int, ¬ (60 * (κ : Int) ≤ x ∧ x < 60 * (κ : Int) + 60) → S2 69 x = S 69 x := fun x h => by rw [hS2, fMn _ x h, st2_o 69 (by omega), st2_o 69 (by omega), st2_o 69 (by omega), o1 69 (by omega) (by omega) (by omega)]
      have q2 : S2 (2 + κ) = fu (fu (S (2 + κ)) 1 t) 2 n := by rw [o2 _ (by omega), hS1, f2 _ _ _ (by omega), st2_fu, st2_fu, st2_o _ (by omega)]
      have q6s : ∀ x : Int, 0 ≤ x → x < 60 → S2 (6 + κ) x = 0 := fun x x0 x1 => by rw [o2 _ (by omega), hS1]; exact f2s _ _ x x0 x1
      have q6 : ∀ x : Int, ¬ (0 ≤ x ∧ x < 60) → S2 (6 + κ) x = S (6 + κ) x := fun x h => by
        rw [o2 _ (by omega), hS1]
        refine (if_neg (fun q => h q.2)).trans ?_
        rw [st2_o _ (by omega), st2_o _ (by omega), st2_o _ (by omega)]
      refine Inv_sh I (fun d h1 h2 h3 h4 => o d (by omega) (by omega) (by omega) (by omega)) (fun x hx => by rw [q0, fu_n hx]) (fun x hx => by rw [q66, fu_n hx]) (by rw [q0, q66, fu_s, fu_s]) ?_
      refine IS_upd H hκ (fun j hj hn => o _ (by omega) (by omega) (by omega) (by omega)) (fun j hj hn => o _ (by omega) (by omega) (by omega) (by omega)) (fun x hx => ⟨by rw [q67, fu_n hx], by rw [q68, fu_n hx]⟩) (fun x hx => q69 x (by omega)) ?_ ?_ ?_ ?_ ?_ ?_
      · rw [q67, fu_s, q68, fu_s]; omega
      · intro x
        by_cases hx : 60 * (κ : Int) ≤ x ∧ x < 60 * (κ : Int) + 60
        · rw [q69s x hx.1 hx.2]; decide
        · rw [q69 x hx]; exact H.1.2 x
      · intro x
        by_cases hx : 0 ≤ x ∧ x < 60
        · rw [q6s x hx.1 hx.2]; decide
        · rw [q6 x hx]; exact H.2.1 κ x hκ
      · rw [q2, fu_n (show (1 : Int) ≠ 2 by decide), fu_s, q67, fu_s, if_neg (by omega)]
      · rw [q2, fu_s, q68, fu_s]
      · intro i i0 i1
        rw [q6s i i0 i1, q69s _ (by omega) (by omega)]
theorem cutL_r (l v : Int) (h : rng v) : rng (cutL l v) := by
  unfold cutL
  split
  · exact cutB_rng v
  · split
    · exact cutS_rng v
    · exact h
theorem op_put {k : Int} (I : Inv S) (hk : rng k) (hi : rng i) (hv : rng v) : AMi 1 yX6_put cX6_put 5 (some .int) [.inr (.inr 0), .inl k, .inl i, .inl v] S (fun z S1 => AMi 2 yX7_put cX7_put 4 (some .int) [.inr (.inr 66), .inl k, .inl i, .inl v] S1 (fun z' S2 => z' = z ∧ Inv S2)) := by
  obtain ⟨T, R, H, F, Z⟩ := id I
  refine ami_mono (x_put hk hi hv (IS_s H)) (fun z S1 h => ?_)
  obtain ⟨hz, hS1⟩ := h
  by_cases e : k < 0 ∨ 4 ≤ k
  · rw [if_pos e] at hS1 hz
    subst hS1
    refine ami_mono (m_put hk hi hv (MH_x0 H.1 _ _)) (fun z' S2 h => ?_)
    obtain ⟨hz', hS2⟩ := h
    rw [if_pos e] at hS2 hz'
    rw [hz, hz', hS2]
    exact ⟨rfl, Inv_flt I 0⟩
  · obtain ⟨κ, rfl⟩ : ∃ κ : Nat, k = (κ : Int) := ⟨k.toNat, by omega⟩
    have hκ : κ < 4 := by omega
    obtain ⟨g1, g2, g3, g4⟩ := IS_l H hκ
    rw [if_neg e, Int.toNat_natCast, g3] at hS1 hz
    by_cases e2 : S 67 (κ : Int) = -9
    · rw [if_pos (g1.mpr e2)] at hS1 hz
      subst hS1
      refine ami_mono (m_put hk hi hv (MH_x0 H.1 _ _)) (fun z' S2 h => ?_)
      obtain ⟨hz', hS2⟩ := h
      rw [st2_o 67 (by decide), st2_o 68 (by decide), if_neg e, if_pos e2] at hS2 hz'
      rw [hz, hz', hS2]
      exact ⟨rfl, Inv_flt I 1⟩
    · rw [if_neg (fun h => e2 (g1.mp h))] at hS1 hz
      obtain ⟨g5, g6, g7⟩ := g2 e2
      by_cases e3 : i < 0 ∨ S 68 (κ : Int) ≤ i
      · rw [if_pos e3] at hS1 hz
        subst hS1
        refine ami_mono (m_put hk hi hv (MH_x0 H.1 _ _)) (fun z' S2 h => ?_)
        obtain ⟨hz', hS2⟩ := h
        rw [st2_o 67 (by decide), st2_o 68 (by decide), if_neg e, if_neg e2, if_pos e3] at hS2 hz'
        rw [hz, hz', hS2]
        exact ⟨rfl, Inv_flt I 3⟩
      · rw [if_neg e3] at hS1 hz
        rw [g5] at hS1
        have o1 : ∀ d, d ≠ 0 → d ≠ 6 + κ → S1 d = S d := fun d h0 h1 => by rw [hS1, st2_o d h1, st2_o d h0]
        refine ami_mono (m_put (S := S1) hk hi hv (MH_o H.1 (o1 67 (by omega) (by omega)) (o1 68 (by omega) (by omega)) (o1 69 (by omega) (by omega)))) (fun z' S2 h => ?_)
        obtain ⟨hz', hS2⟩ := h
        rw [o1 67 (by omega) (by omega), o1 68 (by omega) (by omega), if_neg e, if_neg e2, if_neg e3] at hS2 hz'
        have o : ∀ d, d ≠ 0 → d ≠ 6 + κ → d ≠ 66 → d ≠ 69 → S2 d = S d := fun d h0 h1 h2 h3 => by rw [hS2, st2_o d h3, st2_o d h2, o1 d h0 h1]
        have q0 : S2 0 = fu (S 0) 8 0 := by rw [hS2, st2_o 0 (by omega), st2_o 0 (by omega), hS1, st2_o 0 (by omega), st2_fu]
        have q66 : S2 66 = fu (S 66) 0 0 := by rw [hS2, st2_o 66 (by omega), st2_fu, o1 66 (by omega) (by omega)]
        have q69 : S2 69 = fu (S 69) (60 * (κ : Int) + i) (cutL (S 67 (κ : Int)) v) := by rw [hS2, st2_fu, st2_o 69 (by omega), o1 69 (by omega) (by omega)]
        have q6 : S2 (6 + κ) = fu (S (6 + κ)) i (cutL (S 67 (κ : Int)) v) := by rw [hS2, st2_o _ (by omega), st2_o _ (by omega), hS1, st2_fu, st2_o _ (by omega)]
        refine ⟨by rw [hz, hz'], Inv_sh I (fun d h1 h2 h3 h4 => o d (by omega) (by omega) (by omega) (by omega)) (fun x hx => by rw [q0, fu_n hx]) (fun x hx => by rw [q66, fu_n hx]) (by rw [q0, q66, fu_s, fu_s]) ?_⟩
        refine IS_upd H hκ (fun j hj hn => o _ (by omega) (by omega) (by omega) (by omega)) (fun j hj hn => o _ (by omega) (by omega) (by omega) (by omega)) (fun x hx => ⟨by rw [o 67 (by omega) (by omega) (by omega) (by omega)], by rw [o 68 (by omega) (by omega) (by omega) (by omega)]⟩) (fun x hx => by rw [q69, fu_n (show x ≠ 60 * (κ : Int) + i by omega)]) ?_ ?_ ?_ ?_ ?_ ?_
        · rw [o 67 (by omega) (by omega) (by omega) (by omega), o 68 (by omega) (by omega) (by omega) (by omega)]
          exact ⟨Or.inr ⟨g6, g7⟩, g4⟩
        · intro x
          rw [q69]
          by_cases hx : x = 60 * (κ : Int) + i
          · rw [hx, fu_s]; exact cutL_r _ _ hv
          · rw [fu_n hx]; exact H.1.2 x
        · intro x
          rw [q6]
          by_cases hx : x = i
          · rw [hx, fu_s]; exact cutL_r _ _ hv
          · rw [fu_n hx]; exact H.2.1 κ x hκ
        · rw [o 67 (by omega) (by omega) (by omega) (by omega), o _ (by omega) (by omega) (by omega) (by omega)]; exact (H.2.2 κ hκ).1
        · rw [o 68 (by omega) (by omega) (by omega) (by omega), o _ (by omega) (by omega) (by omega) (by omega)]; exact g3
        · intro x x0 x1
          rw [q6, q69]
          by_cases hx : x = i
          · rw [hx, fu_s, fu_s]
          · rw [fu_n hx, fu_n (show 60 * (κ : Int) + x ≠ 60 * (κ : Int) + i by omega)]; exact (H.2.2 κ hκ).2.2 x x0 x1
end OPH
