/-! a call of both: line -/
section TXC
variable {q q' : Fn} {n : Int}
theorem ffH_congr {K K' : Int} (h : ∀ x, 0 ≤ x → x < n → q x = q' x) (hK : K = K') : ∀ r a : Nat, ffH q n K r a = ffH q' n K' r a
  | 0, _ => hK
  | r + 1, a => by
    show (if n ≤ (a : Int) ∨ fitH a (q a) = false then (a : Int) else ffH q n K r (a + 1)) = (if n ≤ (a : Int) ∨ fitH a (q' a) = false then (a : Int) else ffH q' n K' r (a + 1))
    by_cases c : n ≤ (a : Int)
    · rw [if_pos (Or.inl c), if_pos (Or.inl c)]
    · rw [h a (by omega) (by omega), ffH_congr h hK r (a + 1)]
theorem ffP_congr {K K' : Int} (h : ∀ x, 0 ≤ x → x < n → q x = q' x) (hK : K = K') : ∀ r part a : Nat, ffP q n K r part a = ffP q' n K' r part a
  | 0, _, _ => hK
  | r + 1, part, a => by
    show (if n ≤ (a : Int) ∨ fitP part (q a) = false then (a : Int) else ffP q n K r (part + 1) (a + 1)) = (if n ≤ (a : Int) ∨ fitP part (q' a) = false then (a : Int) else ffP q' n K' r (part + 1) (a + 1))
    by_cases c : n ≤ (a : Int)
    · rw [if_pos (Or.inl c), if_pos (Or.inl c)]
    · rw [h a (by omega) (by omega), ffP_congr h hK r (part + 1) (a + 1)]
theorem mcF_congr (h : ∀ x, 0 ≤ x → x < n → q x = q' x) : ∀ r a : Nat, mcF q n r a = mcF q' n r a
  | 0, _ => rfl
  | r + 1, a => by
    show (if (a : Int) < n ∧ isM (q a) = true then mcF q n r (a + 1) else a) = (if (a : Int) < n ∧ isM (q' a) = true then mcF q' n r (a + 1) else a)
    by_cases c : (a : Int) < n
    · rw [h a (by omega) (by omega), mcF_congr h r (a + 1)]
    · rw [if_neg (fun k => c k.1), if_neg (fun k => c k.1)]
theorem ffA_congr (h : ∀ x, 0 ≤ x → x < n → q x = q' x) : ∀ r p a : Nat, ffA q n r p a = ffA q' n r p a
  | 0, _, _ => rfl
  | r + 1, p, a => by
    show (if p = 0 ∨ (a : Int) < n then ffP q n (ffA q n r (p + 1) (a + 5)) 5 0 a else ffE n a) = (if p = 0 ∨ (a : Int) < n then ffP q' n (ffA q' n r (p + 1) (a + 5)) 5 0 a else ffE n a)
    rw [ffP_congr h (ffA_congr h r (p + 1) (a + 5)) 5 0 a]
theorem ff_congr (h : ∀ x, 0 ≤ x → x < n → q x = q' x) : ff q n = ff q' n := by
  unfold ff
  refine ffH_congr h ?_ 5 0
  unfold ffM
  rw [mcF_congr h 8 5, ffA_congr h 4 0 _]
theorem okP_congr {a : Int} (h : ∀ x, 0 ≤ x → x < n → q x = q' x) (h0 : 0 ≤ a) (h1 : a + 5 ≤ n) (O : okP q a) : okP q' a := by
  unfold okP at O ⊢
  rw [← h a (by omega) (by omega), ← h (a + 1) (by omega) (by omega), ← h (a + 2) (by omega) (by omega), ← h (a + 3) (by omega) (by omega), ← h (a + 4) (by omega) (by omega)]
  exact O
theorem OKT_congr {mc P : Nat} (h : ∀ x, 0 ≤ x → x < n → q x = q' x) (O : OKT q n mc P) : OKT q' n mc P := by
  obtain ⟨o1, o2, o3, o4, o5, o6⟩ := O
  refine ⟨o1, o2, o3, fun c c0 c1 => ?_, fun m hm => ?_, fun p hp => okP_congr h (by omega) (by omega) (o6 p hp)⟩
  · rw [← h (1 + c) (by omega) (by omega)]; exact o4 c c0 c1
  · rw [← h (5 + (m : Int)) (by omega) (by omega)]; exact o5 m hm
theorem OKT_uniq {mc P mc' P' : Nat} (O : OKT q n mc P) (O' : OKT q n mc' P') : mc = mc' ∧ P = P' := by
  obtain ⟨o1, o2, o3, o4, o5, o6⟩ := O
  obtain ⟨w1, w2, w3, w4, w5, w6⟩ := O'
  have g := (o6 0 (by omega)).1
  have g' := (w6 0 (by omega)).1
  rw [show (5 + (mc : Int) + 5 * ((0 : Nat) : Int)) = 5 + (mc : Int) by omega] at g
  rw [show (5 + (mc' : Int) + 5 * ((0 : Nat) : Int)) = 5 + (mc' : Int) by omega] at g'
  have e : mc = mc' := by
    rcases Nat.lt_trichotomy mc mc' with k | k | k
    · have := w5 mc k
      omega
    · exact k
    · have := o5 mc' k
      omega
  exact ⟨e, by omega⟩
theorem kd_r {c : Int} (h : c = 112 ∨ c = 119 ∨ c = 104) : 0 ≤ kdOf c ∧ kdOf c ≤ 2 := by unfold kdOf; omega
end TXC
section OPL
variable {S S' : Mem} {k t i n : Int}
theorem line_Inv {q q' : Fn} {mc P : Nat} {A S1 S2 : Mem} (I : Inv S) (hq : ∀ x, 0 ≤ x → x < n → q x = q' x) (O : OKT q n mc P) (D : RDL q mc P (st2 S 0 8 0) A) (E : RA (st2 A 46 3 0) S1) (L : MLT q' mc P (st2 S1 66 0 0) S2) : Inv S2 := by
  obtain ⟨T, R, H, F, Z⟩ := id I
  obtain ⟨o1, o2, o3, o4, o5, o6⟩ := id O
  obtain ⟨d1, d2, d3, d4, d5, d6, d7, d8, d9⟩ := D
  obtain ⟨g1, g2, g3⟩ := id E
  obtain ⟨l1, l2, l3, l4, l5, l6, l7⟩ := L
  obtain ⟨v5, v6, v7, v8, v26⟩ := l3
  have c66 : ∀ c, c < 66 → S2 c = S1 c := fun c hc => by rw [l1 c (by omega), st2_o c (by omega)]
  have cA : ∀ c, c ≠ 0 → c < 19 ∨ 28 ≤ c → c ≠ 46 → S1 c = A c := fun c h0 h1 h2 => by rw [g1 c h0 h1, st2_o c h2]
  have cS : ∀ c, c ≠ 0 → c < 10 ∨ 28 ≤ c → c ≠ 46 → S1 c = S c := fun c h0 h1 h2 => by rw [cA c h0 (by omega) h2, d1 c (by omega), st2_o c h0]
  have c2A : ∀ c, 10 ≤ c → c < 18 → S2 c = A c := fun c h0 h1 => by rw [c66 c (by omega), cA c (by omega) (by omega) (by omega)]
  have q0 : S2 0 = fu (fu (S 0) 8 0) 6 0 := by rw [c66 0 (by omega), g2, st2_fu, st2_o 0 (by decide), d1 0 (by omega), st2_fu]
  have e10 := c2A 10 (by omega) (by omega)
  have eS : ∀ x, 0 ≤ x → x < 3 → nSe q' x = nSe q x := fun x x0 x1 => by unfold nSe; rw [hq (1 + x) (by omega) (by omega)]
  have eT : ∀ x : Int, 0 ≤ x → x < mc → nTu q' x = nTu q x := fun x x0 x1 => by unfold nTu; rw [hq (5 + x) (by omega) (by omega)]
  have eP : ∀ x : Int, 0 ≤ x → x < P → nKd q' mc x = nKd q mc x ∧ nBg q' mc x = nBg q mc x ∧ nFd q' mc x = nFd q mc x := fun x x0 x1 => by
    unfold nKd nBg nFd
    rw [hq (5 + (mc : Int) + 5 * x + 1) (by omega) (by omega), hq (5 + (mc : Int) + 5 * x + 2) (by omega) (by omega), hq (5 + (mc : Int) + 5 * x + 3) (by omega) (by omega), hq (5 + (mc : Int) + 5 * x + 4) (by omega) (by omega)]
    exact ⟨rfl, rfl, rfl⟩
  refine ⟨⟨?_, ?_, ?_, ?_, ?_, ?_, ?_, ?_⟩, ?_, ?_, ?_, ?_⟩
  · unfold MW
    rw [v5, v6, v7, v8]
    refine ⟨by omega, by omega, by omega, by omega, fun m m0 m1 => ?_, fun p p0 p1 => ?_⟩
    · rw [l5 m m0 m1, (l7 m m0 (by omega)).1, (l7 m m0 (by omega)).2]
      refine ⟨?_, Or.inl ⟨rfl, rfl⟩⟩
      unfold nTu
      split
      · exact Or.inr rfl
      · exact Or.inl rfl
    · obtain ⟨e1, e2, e3⟩ := l6 p p0 p1
      obtain ⟨f1, f2, f3⟩ := eP p p0 p1
      rw [e1, e2, e3, f1, f2, f3]
      obtain ⟨π, rfl⟩ : ∃ π : Nat, p = (π : Int) := ⟨p.toNat, by omega⟩
      obtain ⟨h1, h2, h3, h4, h5⟩ := o6 π (by omega)
      refine ⟨kd_r h2, ?_, ?_⟩
      · unfold nBg; omega
      · unfold nFd; omega
  · intro c c0 c1
    rw [l4 c c0 c1, eS c c0 c1]
    have := o4 c c0 c1
    unfold nSe
    omega
  · rw [v5, v6]; omega
  · rw [e10, v5, v6, v7, v8]; exact ⟨d2, d3, d4, d5⟩
  · intro c c0 c1
    rw [c2A 11 (by omega) (by omega), d6 c c0 c1, l4 c c0 c1, eS c c0 c1]
  · rw [v5]
    intro m m0 m1
    rw [c2A 12 (by omega) (by omega), c2A 13 (by omega) (by omega), c2A 14 (by omega) (by omega), d7 m m0 m1, l5 m m0 m1, eT m m0 m1, (l7 m m0 (by omega)).1, (l7 m m0 (by omega)).2]
    exact ⟨rfl, d9 m m0 (by omega)⟩
  · rw [v6]
    intro p p0 p1
    obtain ⟨e1, e2, e3⟩ := l6 p p0 p1
    obtain ⟨f1, f2, f3⟩ := eP p p0 p1
    rw [c2A 15 (by omega) (by omega), c2A 16 (by omega) (by omega), c2A 17 (by omega) (by omega), e1, e2, e3, f1, f2, f3]
    exact d8 p p0 p1
  · exact RA_CG E (by rw [st2_o 10 (by decide), d2]; omega) c66
  · unfold IR MR
    have q46 : S2 46 3 = 0 := by rw [c66 46 (by omega), g1 46 (by omega) (by omega), st2_s]
    rw [v26, q46]
    exact ⟨⟨by decide, fun x x0 x1 => absurd x1 (by omega)⟩, rfl, fun x x0 x1 => absurd x1 (by omega)⟩
  · refine IS_o H (fun c hc => ?_)
    rw [l1 c (by omega), st2_o c (by omega)]
    exact cS c (by omega) (by omega) (by omega)
  · unfold IF
    rw [q0, l2.1, l2.2, st2_s, st2_n (show (1 : Int) ≠ 0 by decide), cS 66 (by omega) (by omega) (by omega), fu_n (show (7 : Int) ≠ 6 by decide), fu_n (show (7 : Int) ≠ 8 by decide), fu_n (show (8 : Int) ≠ 6 by decide), fu_s]
    exact ⟨F.1, rfl⟩
  · exact EZ_0 (by rw [q0, fu_s])
theorem op_line (I : Inv S) (hk : rng k) (ht : rng t) (hi : rng i) (hn : rng n) : AMi 6 yX6_line cX6_line 7 (some .int) [.inr (.inr 0), .inl k, .inl t, .inl i, .inl n] S (fun z S1 => AMi 4 yX7_line cX7_line 7 (some .int) [.inr (.inr 66), .inl k, .inl t, .inl i, .inl n] S1 (fun z' S2 => z' = z ∧ Inv S2)) := by
  obtain ⟨T, R, H, F, Z⟩ := id I
  refine ami_mono (x_line hk ht hi hn (Inv_XW I)) (fun z S1 h => ?_)
  by_cases e : k < 0 ∨ 4 ≤ k
  · rw [if_pos e] at h
    obtain ⟨hz, rfl⟩ := h
    refine ami_mono (m_line hk ht hi hn (MH_x0 H.1 _ _)) (fun z' S2 h => ?_)
    rw [if_pos e] at h
    obtain ⟨hz', rfl⟩ := h
    rw [hz, hz']
    exact ⟨rfl, Inv_flt I 0⟩
  · rw [if_neg e] at h
    obtain ⟨κ, rfl⟩ : ∃ κ : Nat, k = (κ : Int) := ⟨k.toNat, by omega⟩
    have hκ : κ < 4 := by omega
    rw [Int.toNat_natCast, fCs_eq H hκ] at h
    by_cases e1 : t < 0 ∨ 3 ≤ t
    · rw [if_pos e1] at h
      obtain ⟨hz, rfl⟩ := h
      refine ami_mono (m_line hk ht hi hn (MH_x0 H.1 _ _)) (fun z' S2 h => ?_)
      rw [if_neg e, if_pos e1] at h
      obtain ⟨hz', rfl⟩ := h
      rw [hz, hz']
      exact ⟨rfl, Inv_flt I 0⟩
    · rw [if_neg e1] at h
      by_cases e2 : fMs (S 67 (κ : Int)) (S 68 (κ : Int)) t i n ≠ 0
      · rw [if_pos e2] at h
        obtain ⟨hz, rfl⟩ := h
        refine ami_mono (m_line hk ht hi hn (MH_x0 H.1 _ _)) (fun z' S2 h => ?_)
        rw [st2_o 67 (by decide), st2_o 68 (by decide), if_neg e, if_neg e1, if_pos e2] at h
        obtain ⟨hz', rfl⟩ := h
        rw [hz, hz']
        exact ⟨rfl, Inv_flt I _⟩
      · rw [if_neg e2] at h
        obtain ⟨-, -, n0, i0, hin⟩ := fMs_0 (Decidable.not_not.mp e2)
        have hl := (H.1.1 (κ : Int) (by omega) (by omega)).2
        have hq : ∀ x : Int, 0 ≤ x → x < n → S (6 + κ) (i + x) = mq S (60 * (κ : Int) + i) x := fun x x0 x1 => by
          show _ = S 69 (60 * (κ : Int) + i + x)
          rw [(H.2.2 κ hκ).2.2 (i + x) (by omega) (by omega), Int.add_assoc]
        have hff : ff (fun j => S (6 + κ) (i + j)) n = ff (mq S (60 * (κ : Int) + i)) n := ff_congr hq
        rw [hff] at h
        by_cases e3 : ff (mq S (60 * (κ : Int) + i)) n ≠ -1
        · rw [if_pos e3] at h
          obtain ⟨hz, rfl⟩ := h
          refine ami_mono (m_line hk ht hi hn (MH_x0 H.1 _ _)) (fun z' S2 h => ?_)
          have em : mq (st2 S 0 8 0) (60 * (κ : Int) + i) = mq S (60 * (κ : Int) + i) := rfl
          rw [em, st2_o 67 (by decide), st2_o 68 (by decide), if_neg e, if_neg e1, if_neg e2, if_pos e3] at h
          obtain ⟨hz', f1, f2⟩ := h
          rw [hz, hz']
          have I' := Inv_flt I 0
          refine ⟨rfl, Inv_keep I' (fun c h0 h66 hc => f1 c h66 (by omega)) (by rw [f1 0 (by decide) (by omega)]) ?_ (fun x x0 x1 => f2 x (by omega) (by omega) (by omega)) (f2 26 (by decide) (by decide) (by decide))⟩
          unfold IF
          rw [f1 0 (by decide) (by omega), f2 1 (by decide) (by decide) (by decide), f2 0 (by decide) (by decide) (by decide)]
          exact I'.2.2.2.1
        · rw [if_neg e3] at h
          obtain ⟨mc, P, A, O, D, E, hz⟩ := h
          have c69 : ∀ c, 67 ≤ c → S1 c = S c := fun c hc => by rw [E.1 c (by omega) (by omega), st2_o c (by omega), D.1 c (by omega), st2_o c (by omega)]
          refine ami_mono (m_line (S := S1) hk ht hi hn (MH_o H.1 (c69 67 (by omega)) (c69 68 (by omega)) (c69 69 (by omega)))) (fun z' S2 h => ?_)
          have em : mq S1 (60 * (κ : Int) + i) = mq S (60 * (κ : Int) + i) := by
            unfold mq
            rw [c69 69 (by omega)]
          rw [em, c69 67 (by omega), c69 68 (by omega), if_neg e, if_neg e1, if_neg e2, if_neg e3] at h
          obtain ⟨mc', P', O', L, hz'⟩ := h
          obtain ⟨rfl, rfl⟩ := OKT_uniq (OKT_congr hq O) O'
          exact ⟨by rw [hz, hz'], line_Inv I hq O D E L⟩
end OPL
