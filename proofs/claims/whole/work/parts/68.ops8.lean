/-! a call of both: help, began, kinds, fadings, odds, seating -/
section OPB
variable {S S' : Mem} {p w m a b c v t i j n o : Int}
theorem op_help (I : Inv S) (ha : rng a) (hb : rng b) (hm : rng m) : AMi 4 yX6_help cX6_help 6 (some .int) [.inr (.inr 0), .inl a, .inl b, .inl m] S (fun z S1 => AMi 4 yX7_help cX7_help 8 (some .int) [.inr (.inr 66), .inl a, .inl b, .inl m] S1 (fun z' S2 => z' = z ∧ Inv S2)) := by
  obtain ⟨T, R, H, F, Z⟩ := id I
  obtain ⟨W, t2, t3, ⟨a1, a2, a3, a4⟩, b1, b2, b3, G⟩ := id T
  obtain ⟨s1, s2, s3, s4, s5, s6⟩ := id W
  refine ami_mono (x_help ha hb hm (Inv_XW I) G) (fun z S1 h => ?_)
  obtain ⟨f1, hz⟩ := h
  rw [a1, a2, a3, a4] at hz
  have o1 : ∀ d, 46 ≤ d → S1 d = S d := fun d h => f1 d (by omega)
  refine ami_mono (m_help (S := S1) ha hb hm (MW_o W (fun d h1 h2 => o1 d (by omega)))) (fun z' S2 h => ?_)
  obtain ⟨f2, hz'⟩ := h
  rw [o1 66 (by decide), o1 71 (by decide), o1 72 (by decide), o1 73 (by decide), o1 74 (by decide), o1 75 (by decide), o1 76 (by decide)] at hz'
  refine ⟨?_, Inv_fr I f1 f2 (by omega) (by omega)⟩
  rw [hz, hz']
  by_cases e : a < 0 ∨ S 66 6 ≤ a ∨ b < 0 ∨ S 66 6 ≤ b ∨ a = b
  · rw [if_pos e, if_pos e]
  · rw [if_neg e, if_neg e]
    by_cases e2 : m < 0 ∨ S 66 5 ≤ m
    · rw [if_pos e2, if_pos e2]
    · rw [if_neg e2, if_neg e2]
      have c1 : ∀ p, 0 ≤ p → p < S 66 6 → dsm (S 66 7) (S 66 8) (rg (S 15) (S 17) (S 16) (S 12) (S 13) (S 14)) (S 66 5).toNat p = dsm (S 66 7) (S 66 8) (rg (S 74) (S 76) (S 75) (S 71) (S 72) (S 73)) (S 66 5).toNat p := fun p p0 p1 => dsm_congr (fun j hj => IT_rg T j (by omega) p p0 p1)
      have hfu : ∀ (f g : Fn) (x v : Int), 0 ≤ x → x < S 66 5 → (f x = g x) → fu f m v x = fu g m v x := fun f g x v _ _ h => by
        unfold fu
        rw [h]
      have c2 : ∀ p, 0 ≤ p → p < S 66 6 → dsm (S 66 7) (S 66 8) (rg (S 15) (S 17) (S 16) (S 12) (fu (S 13) m a) (fu (S 14) m b)) (S 66 5).toNat p = dsm (S 66 7) (S 66 8) (rg (S 74) (S 76) (S 75) (S 71) (fu (S 72) m a) (fu (S 73) m b)) (S 66 5).toNat p := fun p p0 p1 => dsm_congr (fun j hj => by
        refine rg_congr (mi := S 66 5) (pe := S 66 6) (fun p p0 p1 => (b3 p p0 p1).1) (fun p p0 p1 => (b3 p p0 p1).2.2) (fun p p0 p1 => (b3 p p0 p1).2.1) (fun x x0 x1 => ⟨(b2 x x0 x1).1, hfu _ _ x a x0 x1 (b2 x x0 x1).2.1, hfu _ _ x b x0 x1 (b2 x x0 x1).2.2⟩) (fun x x0 x1 => ?_) j (by omega) p p0 p1
        by_cases ex : x = m
        · rw [ex, fu_s, fu_s]
          unfold tok
          omega
        · rw [fu_n ex, fu_n ex, (b2 x x0 x1).2.1, (b2 x x0 x1).2.2]
          exact (s5 x x0 x1).2)
      rw [c1 a (by omega) (by omega), c1 b (by omega) (by omega), c2 a (by omega) (by omega), c2 b (by omega) (by omega)]
theorem fu_c {f g : Fn} {i v x : Int} (h : f x = g x) : fu f i v x = fu g i v x := by
  unfold fu
  rw [h]
theorem bVM {ex ex' : Nat} (T : IT S) (R : IR S) (hex : (ex = 33 ∧ ex' = 74) ∨ (ex = 34 ∧ ex' = 75) ∨ (ex = 35 ∧ ex' = 76)) : bV ex S p = bM ex' S p := by
  obtain ⟨W, t2, t3, ⟨a1, a2, a3, a4⟩, b1, b2, b3, G⟩ := id T
  obtain ⟨s1, s2, s3, s4, s5, s6⟩ := id W
  obtain ⟨⟨r1, r2⟩, r3, r4⟩ := id R
  funext v
  have ht : ∀ m, 0 ≤ m → m < S 66 5 → tok (S 66 6) (S 13 m) (S 14 m) := fun m m0 m1 => by rw [(b2 m m0 m1).2.1, (b2 m m0 m1).2.2]; exact (s5 m m0 m1).2
  have hR : ∀ (m : Nat), (m : Int) ≤ S 66 5 → ∀ x, 0 ≤ x → x < S 66 6 → Rv ex S p v m x = RvM ex' S p v m x := by
    rcases hex with ⟨rfl, rfl⟩ | ⟨rfl, rfl⟩ | ⟨rfl, rfl⟩
    · exact rg_congr (kd := fu (S 15) p v) (fd := S 17) (bg := S 16) (kd' := fu (S 74) p v) (fd' := S 76) (bg' := S 75) (fun p p0 p1 => fu_c (b3 p p0 p1).1) (fun p p0 p1 => (b3 p p0 p1).2.2) (fun p p0 p1 => (b3 p p0 p1).2.1) b2 ht
    · exact rg_congr (kd := S 15) (fd := S 17) (bg := fu (S 16) p v) (kd' := S 74) (fd' := S 76) (bg' := fu (S 75) p v) (fun p p0 p1 => (b3 p p0 p1).1) (fun p p0 p1 => (b3 p p0 p1).2.2) (fun p p0 p1 => fu_c (b3 p p0 p1).2.1) b2 ht
    · exact rg_congr (kd := S 15) (fd := fu (S 17) p v) (bg := S 16) (kd' := S 74) (fd' := fu (S 76) p v) (bg' := S 75) (fun p p0 p1 => (b3 p p0 p1).1) (fun p p0 p1 => fu_c (b3 p p0 p1).2.2) (fun p p0 p1 => (b3 p p0 p1).2.1) b2 ht
  have hk : ∀ k, 0 ≤ k → k < S 66 26 → Rv ex S p v (S 48 k).toNat (S 47 k) = RvM ex' S p v (S 85 k).toNat (S 84 k) := fun k k0 k1 => by
    obtain ⟨e1, e2, e3⟩ := r4 k k0 k1
    obtain ⟨q1, q2, q3⟩ := r2 k k0 k1
    rw [e1, e2]
    exact hR _ (by omega) _ q1.1 q1.2
  unfold bV bM
  refine congrArg bB (propext ?_)
  unfold soR
  rw [a3, a4, r3]
  constructor
  · intro h k k0 k1
    have := h k k0 k1
    rw [hk k k0 k1, (r4 k k0 k1).2.2] at this
    exact this
  · intro h k k0 k1
    have := h k k0 k1
    rw [← hk k k0 k1, ← (r4 k k0 k1).2.2] at this
    exact this
theorem bM_o {S1 : Mem} {ex : Nat} (o1 : ∀ d, 46 ≤ d → S1 d = S d) : bM ex S1 p = bM ex S p := by
  funext v
  unfold bM RvM
  rw [o1 66 (by decide), o1 71 (by decide), o1 72 (by decide), o1 73 (by decide), o1 74 (by decide), o1 75 (by decide), o1 76 (by decide), o1 84 (by decide), o1 85 (by decide), o1 86 (by decide)]
theorem MR_o {S1 : Mem} (R : MR S) (o1 : ∀ d, 46 ≤ d → S1 d = S d) : MR S1 := by
  unfold MR
  rw [o1 66 (by decide), o1 84 (by decide), o1 85 (by decide), o1 86 (by decide)]
  exact R
theorem op_began (I : Inv S) (hp : rng p) (hw : rng w) : AMi 6 yX6_began cX6_began 6 (some .int) [.inr (.inr 0), .inl p, .inl w] S (fun z S1 => AMi 3 yX7_began cX7_began 7 (some .int) [.inr (.inr 66), .inl p, .inl w] S1 (fun z' S2 => z' = z ∧ Inv S2)) := by
  obtain ⟨T, R, H, F, Z⟩ := id I
  obtain ⟨W, t2, t3, ⟨a1, a2, a3, a4⟩, b1, b2, b3, G⟩ := id T
  refine ami_mono (x_began hp hw (IT_TW T) (Inv_XR I)) (fun z S1 h => ?_)
  obtain ⟨f1, hz⟩ := h
  rw [a2, bVM (ex' := 75) T R (by omega)] at hz
  have o1 : ∀ d, 46 ≤ d → S1 d = S d := fun d h => f1 d (by omega)
  refine ami_mono (m_began (S := S1) hp hw (MW_o W (fun d h1 h2 => o1 d (by omega))) (MR_o R.1 o1)) (fun z' S2 h => ?_)
  obtain ⟨f2, hz'⟩ := h
  rw [o1 66 (by decide), bM_o o1] at hz'
  exact ⟨by rw [hz, hz'], Inv_fr I f1 f2 (by omega) (by omega)⟩
theorem op_kinds (I : Inv S) (hp : rng p) : AMi 6 yX6_kinds cX6_kinds 4 (some .int) [.inr (.inr 0), .inl p] S (fun z S1 => AMi 3 yX7_kinds cX7_kinds 5 (some .int) [.inr (.inr 66), .inl p] S1 (fun z' S2 => z' = z ∧ Inv S2)) := by
  obtain ⟨T, R, H, F, Z⟩ := id I
  obtain ⟨W, t2, t3, ⟨a1, a2, a3, a4⟩, b1, b2, b3, G⟩ := id T
  refine ami_mono (x_kinds hp (IT_TW T) (Inv_XR I)) (fun z S1 h => ?_)
  obtain ⟨f1, hz⟩ := h
  rw [a2, bVM (ex' := 74) T R (by omega)] at hz
  have o1 : ∀ d, 46 ≤ d → S1 d = S d := fun d h => f1 d (by omega)
  refine ami_mono (m_kinds (S := S1) hp (MW_o W (fun d h1 h2 => o1 d (by omega))) (MR_o R.1 o1)) (fun z' S2 h => ?_)
  obtain ⟨f2, hz'⟩ := h
  rw [o1 66 (by decide), bM_o o1] at hz'
  exact ⟨by rw [hz, hz'], Inv_fr I f1 f2 (by omega) (by omega)⟩
theorem op_fadings (I : Inv S) (hp : rng p) : AMi 6 yX6_fadings cX6_fadings 4 (some .int) [.inr (.inr 0), .inl p] S (fun z S1 => AMi 3 yX7_fadings cX7_fadings 5 (some .int) [.inr (.inr 66), .inl p] S1 (fun z' S2 => z' = z ∧ Inv S2)) := by
  obtain ⟨T, R, H, F, Z⟩ := id I
  obtain ⟨W, t2, t3, ⟨a1, a2, a3, a4⟩, b1, b2, b3, G⟩ := id T
  refine ami_mono (x_fadings hp (IT_TW T) (Inv_XR I)) (fun z S1 h => ?_)
  obtain ⟨f1, hz⟩ := h
  rw [a2, bVM (ex' := 76) T R (by omega)] at hz
  have o1 : ∀ d, 46 ≤ d → S1 d = S d := fun d h => f1 d (by omega)
  refine ami_mono (m_fadings (S := S1) hp (MW_o W (fun d h1 h2 => o1 d (by omega))) (MR_o R.1 o1)) (fun z' S2 h => ?_)
  obtain ⟨f2, hz'⟩ := h
  rw [o1 66 (by decide), bM_o o1] at hz'
  exact ⟨by rw [hz, hz'], Inv_fr I f1 f2 (by omega) (by omega)⟩
theorem op_odds (I : Inv S) (hp : rng p) (hc : rng c) (hw : rng w) : AMl 6 yX6_odds cX6_odds 6 (some .long) [.inr (.inr 0), .inl p, .inl c, .inl w] S (fun z S1 => AMl 2 yX7_odds cX7_odds 7 (some .long) [.inr (.inr 66), .inl p, .inl c, .inl w] S1 (fun z' S2 => z' = z ∧ Inv S2)) := by
  obtain ⟨T, R, H, F, Z⟩ := id I
  obtain ⟨W, t2, t3, ⟨a1, a2, a3, a4⟩, b1, b2, b3, G⟩ := id T
  obtain ⟨s1, s2, s3, s4, s5, s6⟩ := id W
  refine aml_mono (x_odds hp hc hw (Inv_XW I) G) (fun z S1 h => ?_)
  obtain ⟨f1, hz⟩ := h
  rw [a1, a2, a3, a4] at hz
  have o1 : ∀ d, 46 ≤ d → S1 d = S d := fun d h => f1 d (by omega)
  refine aml_mono (m_odds (S := S1) hp hc hw (MW_o W (fun d h1 h2 => o1 d (by omega)))) (fun z' S2 h => ?_)
  obtain ⟨f2, hz'⟩ := h
  rw [o1 66 (by decide), o1 72 (by decide), o1 73 (by decide), o1 74 (by decide), o1 75 (by decide), o1 76 (by decide)] at hz'
  refine ⟨?_, Inv_fr I f1 f2 (by omega) (by omega)⟩
  rw [hz, hz']
  by_cases e : p < 0 ∨ S 66 6 ≤ p ∨ c < 0 ∨ 3 ≤ c ∨ w < 0 ∨ 1 < w
  · rw [if_pos e, if_pos e]
  · rw [if_neg e, if_neg e, wy_congr (kd := S 15) (kd' := S 74) (fd' := S 76) (tA' := S 72) (tB' := S 73) (mi := S 66 5) (pe := S 66 6) (by omega) (by omega) (fun p p0 p1 => (b3 p p0 p1).1) (fun p p0 p1 => (b3 p p0 p1).2.2) (fun m m0 m1 => (b2 m m0 m1).2) (fun m m0 m1 => by rw [(b2 m m0 m1).2.1, (b2 m m0 m1).2.2]; exact (s5 m m0 m1).2) (S 66 5).toNat 0 (S 16) (S 75) (by omega) (fun p p0 p1 => (b3 p p0 p1).2.1)]
theorem duM (T : IT S) {m p : Nat} (hm : (m : Int) ≤ S 66 5) (hp : (p : Int) < S 66 6) : duC S (m : Int) (p : Int) = dM S (m : Int) (p : Int) := by
  have h8 := T.1.1
  rw [duC_n S (by omega)]
  unfold dM
  rw [T.2.2.2.1.2.2.1, T.2.2.2.1.2.2.2, IT_row T m hm p (by omega) hp, Int.toNat_natCast]
theorem dM_o {S1 : Mem} (o1 : ∀ d, 66 < d → S1 d = S d) (h7 : S1 66 7 = S 66 7) (h8 : S1 66 8 = S 66 8) : dM S1 = dM S := by
  funext m p
  unfold dM RM
  rw [h7, h8, o1 71 (by decide), o1 72 (by decide), o1 73 (by decide), o1 74 (by decide), o1 75 (by decide), o1 76 (by decide)]
theorem fr_xst {lo hi : Nat} {S1 : Mem} (h : fr lo hi S S1) (c : Nat) (x v : Int) : fr lo hi (st2 S c x v) (st2 S1 c x v) := fun d hd => by
  funext y
  unfold st2
  rw [h d hd]
theorem op_seating {k : Int} (I : Inv S) (hk : rng k) (ht : rng t) (hi : rng i) (hn : rng n) (hw : rng w) : AMi 4 yX6_seating cX6_seating 6 (some .int) [.inr (.inr 0), .inl k, .inl t, .inl i, .inl n, .inl w] S (fun z S1 => AMi 4 yX7_seating cX7_seating 9 (some .int) [.inr (.inr 66), .inl k, .inl t, .inl i, .inl n, .inl w] S1 (fun z' S2 => z' = z ∧ Inv S2)) := by
  obtain ⟨T, R, H, F, Z⟩ := id I
  obtain ⟨W, t2, t3, ⟨a1, a2, a3, a4⟩, b1, b2, b3, G⟩ := id T
  obtain ⟨s1, s2, s3, s4, s5, s6⟩ := id W
  have hmp : S 66 5 ≠ 0 → 0 < S 66 6 := fun h => by omega
  refine ami_mono (x_seating hk ht hi hn hw (Inv_XW I)) (fun z S1 h => ?_)
  by_cases e : k < 0 ∨ 4 ≤ k
  · rw [if_pos e] at h
    obtain ⟨hz, rfl⟩ := h
    refine ami_mono (m_seating hk ht hi hn hw (MW_x0 W _ _) (MH_x0 H.1 _ _) t2 hmp) (fun z' S2 h => ?_)
    rw [if_pos e] at h
    obtain ⟨hz', rfl⟩ := h
    rw [hz, hz']
    exact ⟨rfl, Inv_flt I 0⟩
  · rw [if_neg e] at h
    obtain ⟨κ, rfl⟩ : ∃ κ : Nat, k = (κ : Int) := ⟨k.toNat, by omega⟩
    have hκ : κ < 4 := by omega
    rw [Int.toNat_natCast, fCs_eq H hκ, a1, a2] at h
    by_cases e1 : t < 0 ∨ 3 ≤ t ∨ ¬ ((0 ≤ w ∧ w ≤ 3) ∨ (10 ≤ w ∧ w ≤ 13))
    · rw [if_pos e1] at h
      obtain ⟨hz, rfl⟩ := h
      refine ami_mono (m_seating hk ht hi hn hw (MW_x0 W _ _) (MH_x0 H.1 _ _) t2 hmp) (fun z' S2 h => ?_)
      rw [if_neg e, if_pos e1] at h
      obtain ⟨hz', rfl⟩ := h
      rw [hz, hz']
      exact ⟨rfl, Inv_flt I 0⟩
    · rw [if_neg e1] at h
      by_cases e2 : fMs (S 67 (κ : Int)) (S 68 (κ : Int)) t i n ≠ 0
      · rw [if_pos e2] at h
        obtain ⟨hz, rfl⟩ := h
        refine ami_mono (m_seating hk ht hi hn hw (MW_x0 W _ _) (MH_x0 H.1 _ _) t2 hmp) (fun z' S2 h => ?_)
        rw [st2_o 67 (by decide), st2_o 68 (by decide), if_neg e, if_neg e1, if_pos e2] at h
        obtain ⟨hz', rfl⟩ := h
        rw [hz, hz']
        exact ⟨rfl, Inv_flt I _⟩
      · rw [if_neg e2] at h
        by_cases e3 : S 66 5 = 0
        · rw [if_pos e3] at h
          obtain ⟨hz, rfl⟩ := h
          refine ami_mono (m_seating hk ht hi hn hw (MW_x0 W _ _) (MH_x0 H.1 _ _) t2 hmp) (fun z' S2 h => ?_)
          rw [st2_o 66 (by decide), st2_o 67 (by decide), st2_o 68 (by decide), if_neg e, if_neg e1, if_neg e2, if_pos e3] at h
          obtain ⟨hz', rfl⟩ := h
          rw [hz, hz']
          exact ⟨rfl, Inv_flt I 0⟩
        · rw [if_neg e3] at h
          by_cases e4 : n ≠ S 66 5 * S 66 6
          · rw [if_pos e4] at h
            obtain ⟨hz, rfl⟩ := h
            refine ami_mono (m_seating hk ht hi hn hw (MW_x0 W _ _) (MH_x0 H.1 _ _) t2 hmp) (fun z' S2 h => ?_)
            rw [st2_o 66 (by decide), st2_o 67 (by decide), st2_o 68 (by decide), if_neg e, if_neg e1, if_neg e2, if_neg e3, if_pos e4] at h
            obtain ⟨hz', rfl⟩ := h
            rw [hz, hz']
            exact ⟨rfl, Inv_flt I 0⟩
          · rw [if_neg e4] at h
            obtain ⟨f1, hz1, hz2⟩ := h
            have o1 : ∀ d, d ≠ 0 → d < 51 ∨ 53 ≤ d → S1 d = S d := fun d h0 h1 => by rw [f1 d h1, st2_o d h0]
            have e66 := o1 66 (by decide) (by omega)
            have e69 := o1 69 (by decide) (by omega)
            refine ami_mono (m_seating (S := S1) hk ht hi hn hw (MW_o W (fun d h1 h2 => o1 d (by omega) (by omega))) (MH_o H.1 (o1 67 (by omega) (by omega)) (o1 68 (by omega) (by omega)) e69) (by rw [o1 70 (by omega) (by omega)]; exact t2) (by rw [e66]; exact hmp)) (fun z' S2 h => ?_)
            have hdM : dM S1 = dM S := dM_o (fun d hd => o1 d (by omega) (by omega)) (by rw [e66]) (by rw [e66])
            rw [e66, o1 67 (by omega) (by omega), o1 68 (by omega) (by omega), e69, o1 70 (by omega) (by omega), hdM, if_neg e, if_neg e1, if_neg e2, if_neg e3, if_neg e4] at h
            obtain ⟨f2, hz1', hz2'⟩ := h
            obtain ⟨-, -, n0, i0, hin⟩ := fMs_0 (Decidable.not_not.mp e2)
            have hl := (H.1.1 (κ : Int) (by omega) (by omega)).2
            have hq : ∀ x : Int, 0 ≤ x → x < n → S (6 + κ) (i + x) = S 69 (60 * (κ : Int) + i + x) := fun x x0 x1 => by
              rw [(H.2.2 κ hκ).2.2 (i + x) (by omega) (by omega), Int.add_assoc]
            refine ⟨?_, Inv_fr (Inv_flt I 0) (fr_xst f1 66 0 0) f2 (by omega) (by omega)⟩
            by_cases q : ∀ x, 0 ≤ x → x < n → 0 ≤ S 69 (60 * (κ : Int) + i + x) ∧ S 69 (60 * (κ : Int) + i + x) < 3
            · rw [hz2' q, hz2 (fun x x0 x1 => by rw [hq x x0 x1]; exact q x x0 x1)]
              symm
              have hn2 : n = (((S 66 5).toNat * (S 66 6).toNat : Nat) : Int) := by
                rw [Int.natCast_mul, Int.toNat_of_nonneg s1.1, Int.toNat_of_nonneg s2.1]
                exact Decidable.not_not.mp e4
              refine aSt_congr (by omega) (by omega) (fun x hx => ?_) (fun m p hm hp => duM T (by omega) (by omega)) b1
              show S (6 + κ) (i + x) = S1 69 (60 * (κ : Int) + i + x)
              rw [e69]
              exact hq x (by omega) (by omega)
            · rw [hz1' q, hz1 (fun h => q (fun x x0 x1 => by rw [← hq x x0 x1]; exact h x x0 x1))]
end OPB
