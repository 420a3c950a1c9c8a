/-! the model: the search itself -/
section MEB
variable {X : AMX} {S : Mem} {M P : Nat} {du : Int → Int → Int}
/-- the table from mile m on -/
def TB (S : Mem) (M P : Nat) (se : Fn) (du : Int → Int → Int) (m : Nat) : Prop := ∀ i : Nat, m ≤ i → i < M → ∀ w : Nat, w < 3 ^ P → S 82 (81 * (i : Int) + w) = sent (tgF M P se du i w)
theorem sent_ne {f : Int} (h : f = 10000 ∨ (0 ≤ f ∧ f ≤ 100)) : (sent f = -9 ↔ f = 10000) ∧ (f ≠ 10000 → sent f = f) ∧ (-9 ≤ sent f ∧ sent f ≤ 100) := by unfold sent; omega
theorem d_bb_loop {post : Int → Mem → Prop} {m w : Nat} (E : EM S M P du) (hm : m + 1 < M) (hw : w < 3 ^ P) (hT : TB S M P (S 70) du (m + 1)) (C : CX X 2 RX7 cX7_bestBehind 7) (hret : ∀ (pc : Nat) (L : List (Option AV)) (z : Int) (S' : Mem), decode cX7_bestBehind pc = .ok (.ireturn, 1) → ((some FieldType.int) = some .int ∨ ((some FieldType.int) = some .boolean ∧ (z = 0 ∨ z = 1))) → post z S' → AW X cX7_bestBehind 7 pc L [.inl z] S') (hp : post (sent (bhF M P (S 70) du (M - 1 - m) w)) S) : ∀ (r v : Nat) (b : Int) (x : Option AV), v + r = 3 ^ P → mnS (tgF M P (S 70) du (m + 1)) P w v b → AW X cX7_bestBehind 7 19 [some (.inr (.inr 66)), some (.inl (m : Int)), some (.inl (w : Int)), some (.inl ((3 ^ P : Nat) : Int)), some (.inl b), some (.inl v), x] [] S := by
  obtain ⟨e1, e2, e3, e4, e5, e6, e7, e8⟩ := id E
  have h81 := p3_81 P e4.2
  rw [bhF_tg hm] at hp
  intro r
  induction r with
  | zero =>
    intro v b x hv hb
    obtain rfl : v = 3 ^ P := by omega
    have := mnS_end e4.2 hw (fun v hv => tgF_b e4.2 e3 e8 (m + 1) v hv) hb
    rw [← this] at hp
    clear this
    generalize hU : 3 ^ P = U at *
    refine aw_ildw (n := 21) C dX7_bestBehind_19 rfl rfl ?_
    refine aw_ildn (n := 22) C dX7_bestBehind_21 rfl rfl ?_
    refine aw_icge (tgt := 89) (n := 25) C dX7_bestBehind_22 rfl rfl (by omega) (by omega) (fun h_22 => ?_) (fun h_22 => ?_)
    · refine aw_ildw (n := 91) C dX7_bestBehind_89 rfl rfl ?_
      refine hret 91 _ _ _ dX7_bestBehind_91 (Or.inl rfl) ?_
      exact hp
    · omega
  | succ r ih =>
    intro v b x hv hb
    have hvU : v < 3 ^ P := by omega
    have tv := hT (m + 1) (by omega) hm v hvU
    have tb := tgF_b (M := M) (se := S 70) e4.2 e3 e8 (m + 1) v hvU
    have ts := sent_ne tb
    have hch := chl_r w v P
    have e81 : 81 * ((m : Int) + 1) + v = 81 * ((m + 1 : Nat) : Int) + v := by omega
    have hbr : -9 ≤ b ∧ b ≤ 200 := by rcases hb with h | h <;> omega
    have ih2 := fun b x => ih (v + 1) b x (by omega)
    clear ih
    generalize hU : 3 ^ P = U at *
    refine aw_ildw (n := 21) C dX7_bestBehind_19 rfl rfl ?_
    refine aw_ildn (n := 22) C dX7_bestBehind_21 rfl rfl ?_
    refine aw_icge (tgt := 89) (n := 25) C dX7_bestBehind_22 rfl rfl (by omega) (by omega) (fun h_22 => ?_) (fun h_22 => ?_)
    · omega
    · refine aw_aldn (n := 26) C dX7_bestBehind_25 rfl rfl ?_
      refine aw_getR (n := 29) C dX7_bestBehind_26 rfl fl_X7_56 rfl rfl ?_
      refine aw_bipush (n := 31) C dX7_bestBehind_29 rfl rfl ?_
      refine aw_ildn (n := 32) C dX7_bestBehind_31 rfl rfl ?_
      refine aw_iconst (n := 33) C dX7_bestBehind_32 rfl ?_
      refine aw_iadd (n := 34) C dX7_bestBehind_33 rfl ?_
      refine aw_imul (n := 35) C dX7_bestBehind_34 rfl ?_
      refine aw_ildw (n := 37) C dX7_bestBehind_35 rfl rfl ?_
      refine aw_iadd (n := 38) C dX7_bestBehind_37 rfl ?_
      rw [e81]
      refine aw_iald (n := 39) C dX7_bestBehind_38 rfl rfl (by omega) (by omega) ?_
      rw [tv]
      refine aw_istw (n := 41) (L' := [_, _, _, _, _, _, _]) C dX7_bestBehind_39 rfl (by decide) rfl rfl ?_
      refine aw_ildw (n := 43) C dX7_bestBehind_41 rfl rfl ?_
      refine aw_bipush (n := 45) C dX7_bestBehind_43 rfl rfl ?_
      refine aw_iceq (tgt := 83) (n := 48) C dX7_bestBehind_45 rfl rfl (by omega) (by omega) (fun h_45 => ?_) (fun h_45 => ?_)
      · have heq : tgF M P (S 70) du (m + 1) v = 10000 := ts.1.mp h_45
        refine aw_iinc (n := 86) (L' := [_, _, _, _, _, _, _]) C dX7_bestBehind_83 rfl rfl (by decide) rfl rfl ?_
        refine aw_goto (tgt := 19) C dX7_bestBehind_86 rfl ?_
        refine ih2 _ _ ?_
        first
        | (exfalso; omega; done)
        | (rcases hb with ⟨b1, b2⟩ | ⟨b1, b2, u, u1, u2, u3⟩; exact Or.inl ⟨b1, fun y hy => by (by_cases ey : y = v); (rw [ey]; exact heq); exact b2 y (by omega)⟩; exact Or.inr ⟨b1, fun y hy hn => by (by_cases ey : y = v); (rw [ey] at hn; exact absurd heq hn); exact b2 y (by omega) hn, u, by omega, u2, u3⟩)
        | (rcases hb with ⟨b1, b2⟩ | ⟨b1, b2, u, u1, u2, u3⟩; exact Or.inr ⟨by omega, fun y hy hn => by (by_cases ey : y = v); (rw [ey]; omega); exact absurd (b2 y (by omega)) hn, v, by omega, hne, rfl⟩; exact Or.inr ⟨by omega, fun y hy hn => by (by_cases ey : y = v); (rw [ey]; omega); (have := b2 y (by omega) hn; omega), v, by omega, hne, rfl⟩)
        | (rcases hb with ⟨b1, b2⟩ | ⟨b1, b2, u, u1, u2, u3⟩; (exfalso; omega); exact Or.inr ⟨b1, fun y hy hn => by (by_cases ey : y = v); (rw [ey]; omega); exact b2 y (by omega) hn, u, by omega, u2, u3⟩)
      · have hne : tgF M P (S 70) du (m + 1) v ≠ 10000 := fun h => h_45 (ts.1.mpr h)
        have hse := ts.2.1 hne
        refine aw_ildw (n := 50) C dX7_bestBehind_48 rfl rfl ?_
        refine aw_aldn (n := 51) C dX7_bestBehind_50 rfl rfl ?_
        refine aw_ildn (n := 52) C dX7_bestBehind_51 rfl rfl ?_
        refine aw_ildw (n := 54) C dX7_bestBehind_52 rfl rfl ?_
        refine aw_cVi (n := 57) (vs := [_, _]) C dX7_bestBehind_54 rfl rfl rfl mm_X7_changed wM_X7_192 rfl rfl (Nat.le_of_ble_eq_true rfl) (d_changed (a := w) (b := v) E (by omega) (by omega)) (by decide) (fun z_54 S_54 q_54 => ?_)
        rw [q_54.1, q_54.2]
        clear q_54 S_54 z_54
        rw [hse]
        refine aw_iadd (n := 58) C dX7_bestBehind_57 rfl ?_
        refine aw_istw (n := 60) (L' := [_, _, _, _, _, _, _]) C dX7_bestBehind_58 rfl (by decide) rfl rfl ?_
        refine aw_ildw (n := 62) C dX7_bestBehind_60 rfl rfl ?_
        refine aw_bipush (n := 64) C dX7_bestBehind_62 rfl rfl ?_
        refine aw_iceq (tgt := 74) (n := 67) C dX7_bestBehind_64 rfl rfl (by omega) (by omega) (fun h_64 => ?_) (fun h_64 => ?_)
        · refine aw_ildw (n := 76) C dX7_bestBehind_74 rfl rfl ?_
          refine aw_goto (tgt := 81) C dX7_bestBehind_76 rfl ?_
          refine aw_istw (n := 83) (L' := [_, _, _, _, _, _, _]) C dX7_bestBehind_81 rfl (by decide) rfl rfl ?_
          refine aw_iinc (n := 86) (L' := [_, _, _, _, _, _, _]) C dX7_bestBehind_83 rfl rfl (by decide) rfl rfl ?_
          refine aw_goto (tgt := 19) C dX7_bestBehind_86 rfl ?_
          refine ih2 _ _ ?_
          first
          | (exfalso; omega; done)
          | (rcases hb with ⟨b1, b2⟩ | ⟨b1, b2, u, u1, u2, u3⟩; exact Or.inl ⟨b1, fun y hy => by (by_cases ey : y = v); (rw [ey]; exact heq); exact b2 y (by omega)⟩; exact Or.inr ⟨b1, fun y hy hn => by (by_cases ey : y = v); (rw [ey] at hn; exact absurd heq hn); exact b2 y (by omega) hn, u, by omega, u2, u3⟩)
          | (rcases hb with ⟨b1, b2⟩ | ⟨b1, b2, u, u1, u2, u3⟩; exact Or.inr ⟨by omega, fun y hy hn => by (by_cases ey : y = v); (rw [ey]; omega); exact absurd (b2 y (by omega)) hn, v, by omega, hne, rfl⟩; exact Or.inr ⟨by omega, fun y hy hn => by (by_cases ey : y = v); (rw [ey]; omega); (have := b2 y (by omega) hn; omega), v, by omega, hne, rfl⟩)
          | (rcases hb with ⟨b1, b2⟩ | ⟨b1, b2, u, u1, u2, u3⟩; (exfalso; omega); exact Or.inr ⟨b1, fun y hy hn => by (by_cases ey : y = v); (rw [ey]; omega); exact b2 y (by omega) hn, u, by omega, u2, u3⟩)
        · refine aw_ildw (n := 69) C dX7_bestBehind_67 rfl rfl ?_
          refine aw_ildw (n := 71) C dX7_bestBehind_69 rfl rfl ?_
          refine aw_icge (tgt := 79) (n := 74) C dX7_bestBehind_71 rfl rfl (by omega) (by omega) (fun h_71 => ?_) (fun h_71 => ?_)
          · refine aw_ildw (n := 81) C dX7_bestBehind_79 rfl rfl ?_
            refine aw_istw (n := 83) (L' := [_, _, _, _, _, _, _]) C dX7_bestBehind_81 rfl (by decide) rfl rfl ?_
            refine aw_iinc (n := 86) (L' := [_, _, _, _, _, _, _]) C dX7_bestBehind_83 rfl rfl (by decide) rfl rfl ?_
            refine aw_goto (tgt := 19) C dX7_bestBehind_86 rfl ?_
            refine ih2 _ _ ?_
            first
            | (exfalso; omega; done)
            | (rcases hb with ⟨b1, b2⟩ | ⟨b1, b2, u, u1, u2, u3⟩; exact Or.inl ⟨b1, fun y hy => by (by_cases ey : y = v); (rw [ey]; exact heq); exact b2 y (by omega)⟩; exact Or.inr ⟨b1, fun y hy hn => by (by_cases ey : y = v); (rw [ey] at hn; exact absurd heq hn); exact b2 y (by omega) hn, u, by omega, u2, u3⟩)
            | (rcases hb with ⟨b1, b2⟩ | ⟨b1, b2, u, u1, u2, u3⟩; exact Or.inr ⟨by omega, fun y hy hn => by (by_cases ey : y = v); (rw [ey]; omega); exact absurd (b2 y (by omega)) hn, v, by omega, hne, rfl⟩; exact Or.inr ⟨by omega, fun y hy hn => by (by_cases ey : y = v); (rw [ey]; omega); (have := b2 y (by omega) hn; omega), v, by omega, hne, rfl⟩)
            | (rcases hb with ⟨b1, b2⟩ | ⟨b1, b2, u, u1, u2, u3⟩; (exfalso; omega); exact Or.inr ⟨b1, fun y hy hn => by (by_cases ey : y = v); (rw [ey]; omega); exact b2 y (by omega) hn, u, by omega, u2, u3⟩)
          · refine aw_ildw (n := 76) C dX7_bestBehind_74 rfl rfl ?_
            refine aw_goto (tgt := 81) C dX7_bestBehind_76 rfl ?_
            refine aw_istw (n := 83) (L' := [_, _, _, _, _, _, _]) C dX7_bestBehind_81 rfl (by decide) rfl rfl ?_
            refine aw_iinc (n := 86) (L' := [_, _, _, _, _, _, _]) C dX7_bestBehind_83 rfl rfl (by decide) rfl rfl ?_
            refine aw_goto (tgt := 19) C dX7_bestBehind_86 rfl ?_
            refine ih2 _ _ ?_
            first
            | (exfalso; omega; done)
            | (rcases hb with ⟨b1, b2⟩ | ⟨b1, b2, u, u1, u2, u3⟩; exact Or.inl ⟨b1, fun y hy => by (by_cases ey : y = v); (rw [ey]; exact heq); exact b2 y (by omega)⟩; exact Or.inr ⟨b1, fun y hy hn => by (by_cases ey : y = v); (rw [ey] at hn; exact absurd heq hn); exact b2 y (by omega) hn, u, by omega, u2, u3⟩)
            | (rcases hb with ⟨b1, b2⟩ | ⟨b1, b2, u, u1, u2, u3⟩; exact Or.inr ⟨by omega, fun y hy hn => by (by_cases ey : y = v); (rw [ey]; omega); exact absurd (b2 y (by omega)) hn, v, by omega, hne, rfl⟩; exact Or.inr ⟨by omega, fun y hy hn => by (by_cases ey : y = v); (rw [ey]; omega); (have := b2 y (by omega) hn; omega), v, by omega, hne, rfl⟩)
            | (rcases hb with ⟨b1, b2⟩ | ⟨b1, b2, u, u1, u2, u3⟩; (exfalso; omega); exact Or.inr ⟨b1, fun y hy hn => by (by_cases ey : y = v); (rw [ey]; omega); exact b2 y (by omega) hn, u, by omega, u2, u3⟩)
theorem d_bestBehind {m w : Nat} (E : EM S M P du) (hm : m < M) (hw : w < 3 ^ P) (hT : TB S M P (S 70) du (m + 1)) : AMi 2 yX7_bestBehind cX7_bestBehind 7 (some .int) [.inr (.inr 66), .inl (m : Int), .inl (w : Int), .inl ((3 ^ P : Nat) : Int)] S (fun z S' => z = sent (bhF M P (S 70) du (M - 1 - m) w) ∧ S' = S) := by
  obtain ⟨e1, e2, e3, e4, e5, e6, e7, e8⟩ := id E
  refine ami_intro (L := [_, _, _, _, none, none, none]) (by decide) (Or.inl rfl) rfl (Nat.le_of_ble_eq_true rfl) (fun X C hret => ?_)
  refine aw_ildn (n := 1) C dX7_bestBehind_0 rfl rfl ?_
  refine aw_aldn (n := 2) C dX7_bestBehind_1 rfl rfl ?_
  refine aw_getI (z := 5) (n := 5) C dX7_bestBehind_2 rfl fl_X7_84 rfl rfl rfl ?_
  refine aw_iconst (n := 6) C dX7_bestBehind_5 rfl ?_
  refine aw_isub (n := 7) C dX7_bestBehind_6 rfl ?_
  rw [e1]
  refine aw_icne (tgt := 12) (n := 10) C dX7_bestBehind_7 rfl rfl (by omega) (by omega) (fun h_7 => ?_) (fun h_7 => ?_)
  · refine aw_bipush (n := 14) C dX7_bestBehind_12 rfl rfl ?_
    refine aw_istw (n := 16) (L' := [_, _, _, _, _, _, _]) C dX7_bestBehind_14 rfl (by decide) rfl rfl ?_
    refine aw_iconst (n := 17) C dX7_bestBehind_16 rfl ?_
    refine aw_istw (n := 19) (L' := [_, _, _, _, _, _, _]) C dX7_bestBehind_17 rfl (by decide) rfl rfl ?_
    exact d_bb_loop E (by omega) hw hT C hret ⟨rfl, rfl⟩ (3 ^ P) 0 _ _ (by omega) (Or.inl ⟨rfl, fun v hv => absurd hv (by omega)⟩)
  · refine aw_iconst (n := 11) C dX7_bestBehind_10 rfl ?_
    refine hret 11 _ _ _ dX7_bestBehind_11 (Or.inl rfl) ?_
    refine ⟨?_, rfl⟩
    rw [show M - 1 - m = 0 by omega]
    rfl
theorem TB_st {m w i : Nat} {z : Int} {se : Fn} (h : TB S M P se du (m + 1)) (hP : P ≤ 4) (hw : w < 3 ^ P) : TB (st2 S 82 (81 * (m : Int) + w) z) M P se du (m + 1) := fun i h1 h2 v hv => by
  have h81 := p3_81 P hP
  rw [st2_n (by omega)]
  exact h i h1 h2 v hv
theorem d_fe_in {m : Nat} {S0 : Mem} (E0 : EM S0 M P du) (hm : m < M) (C : CX X 3 RX7 cX7_findEase 6) (k : ∀ (S2 : Mem) (x y : Option AV), fr 82 83 S0 S2 → TB S2 M P (S0 70) du m → AW X cX7_findEase 6 85 [some (.inr (.inr 66)), some (.inl ((3 ^ P : Nat) : Int)), some (.inl (m : Int)), some (.inl ((3 ^ P : Nat) : Int)), x, y] [] S2) : ∀ (r w : Nat) (S1 : Mem) (x y : Option AV), w + r = 3 ^ P → fr 82 83 S0 S1 → TB S1 M P (S0 70) du (m + 1) → (∀ v : Nat, v < w → S1 82 (81 * (m : Int) + v) = sent (tgF M P (S0 70) du m v)) → AW X cX7_findEase 6 17 [some (.inr (.inr 66)), some (.inl ((3 ^ P : Nat) : Int)), some (.inl (m : Int)), some (.inl (w : Int)), x, y] [] S1 := by
  obtain ⟨e1, e2, e3, e4, e5, e6, e7, e8⟩ := id E0
  have h81 := p3_81 P e4.2
  intro r
  induction r with
  | zero =>
    intro w S1 x y hw hf hT hv
    obtain rfl : w = 3 ^ P := by omega
    have k2 := k S1 x y hf (fun i h1 h2 v hv2 => by
      by_cases e : i = m
      · rw [e]; exact hv v hv2
      · exact hT i (by omega) h2 v hv2)
    clear k
    generalize hU : 3 ^ P = U at *
    refine aw_ildn (n := 18) C dX7_findEase_17 rfl rfl ?_
    refine aw_ildn (n := 19) C dX7_findEase_18 rfl rfl ?_
    refine aw_icge (tgt := 85) (n := 22) C dX7_findEase_19 rfl rfl (by omega) (by omega) (fun h_19 => ?_) (fun h_19 => ?_)
    · exact k2
    · omega
  | succ r ih =>
    intro w S1 x y hw hf hT hv
    have hwU : w < 3 ^ P := by omega
    have E1 := EM_fr E0 hf
    have e70 : S1 70 = S0 70 := hf 70 (by omega)
    have hs := tgF_sent (M := M) (se := S0 70) e4.2 e3 e8 m w hwU
    have hl := lwm_r P (S0 70) du m w e4.2 e8
    have hb := bhF_b (M := M) (se := S0 70) e4.2 e8 (M - 1 - m) w hwU
    have hM7 : M - 1 - m ≤ 7 := by omega
    have hlr : -9 ≤ sent (lwm P (S0 70) du m w) ∧ sent (lwm P (S0 70) du m w) ≤ 8 := by unfold sent; omega
    have hbr : -9 ≤ sent (bhF M P (S0 70) du (M - 1 - m) w) ∧ sent (bhF M P (S0 70) du (M - 1 - m) w) ≤ 200 := by unfold sent; omega
    have hlv : sent (lwm P (S0 70) du m w) ≠ -9 → sent (lwm P (S0 70) du m w) = lwm P (S0 70) du m w := by unfold sent; omega
    have hbv : sent (bhF M P (S0 70) du (M - 1 - m) w) ≠ -9 → sent (bhF M P (S0 70) du (M - 1 - m) w) = bhF M P (S0 70) du (M - 1 - m) w := by unfold sent; omega
    have cl := d_lowIn (m := m) (w := w) E1 hm (by omega)
    have cb := d_bestBehind (m := m) (w := w) E1 hm hwU (by rw [e70]; exact hT)
    rw [e70] at cl cb
    have go : ∀ (z : Int) (x y : Option AV), z = sent (tgF M P (S0 70) du m w) → AW X cX7_findEase 6 17 [some (.inr (.inr 66)), some (.inl ((3 ^ P : Nat) : Int)), some (.inl (m : Int)), some (.inl ((w : Int) + 1)), x, y] [] (st2 S1 82 (81 * (m : Int) + w) z) := fun z x y hz => by
      have := ih (w + 1) (st2 S1 82 (81 * (m : Int) + w) z) x y (by omega) (fr_tr hf (fr_w (fr_st _ _ _ _) (by omega) (by omega))) (TB_st (i := 0) hT e4.2 hwU) (fun v hv2 => ?_)
      · rw [Int.natCast_add] at this; exact this
      · by_cases e : v = w
        · rw [e, st2_s]; exact hz
        · rw [st2_n (by omega)]; exact hv v (by omega)
    clear ih k
    generalize sent (tgF M P (S0 70) du m w) = tz at *
    generalize hlz : sent (lwm P (S0 70) du m w) = lz at *
    generalize hbz : sent (bhF M P (S0 70) du (M - 1 - m) w) = bz at *
    generalize hU : 3 ^ P = U at *
    refine aw_ildn (n := 18) C dX7_findEase_17 rfl rfl ?_
    refine aw_ildn (n := 19) C dX7_findEase_18 rfl rfl ?_
    refine aw_icge (tgt := 85) (n := 22) C dX7_findEase_19 rfl rfl (by omega) (by omega) (fun h_19 => ?_) (fun h_19 => ?_)
    · omega
    · refine aw_aldn (n := 23) C dX7_findEase_22 rfl rfl ?_
      refine aw_ildn (n := 24) C dX7_findEase_23 rfl rfl ?_
      refine aw_ildn (n := 25) C dX7_findEase_24 rfl rfl ?_
      refine aw_cVi (n := 28) (vs := [_, _]) C dX7_findEase_25 rfl rfl rfl mm_X7_lowIn wM_X7_195 rfl rfl (Nat.le_of_ble_eq_true rfl) (cl) (by decide) (fun z_25 S_25 q_25 => ?_)
      rw [q_25.1, q_25.2]
      clear q_25 S_25 z_25
      refine aw_istw (n := 30) (L' := [_, _, _, _, _, _]) C dX7_findEase_28 rfl (by decide) rfl rfl ?_
      refine aw_ildw (n := 32) C dX7_findEase_30 rfl rfl ?_
      refine aw_bipush (n := 34) C dX7_findEase_32 rfl rfl ?_
      refine aw_icne (tgt := 42) (n := 37) C dX7_findEase_34 rfl rfl (by omega) (by omega) (fun h_34 => ?_) (fun h_34 => ?_)
      · refine aw_aldn (n := 43) C dX7_findEase_42 rfl rfl ?_
        refine aw_ildn (n := 44) C dX7_findEase_43 rfl rfl ?_
        refine aw_ildn (n := 45) C dX7_findEase_44 rfl rfl ?_
        refine aw_ildn (n := 46) C dX7_findEase_45 rfl rfl ?_
        refine aw_cVi (n := 49) (vs := [_, _, _]) C dX7_findEase_46 rfl rfl rfl mm_X7_bestBehind wM_X7_198 rfl rfl (Nat.le_of_ble_eq_true rfl) (cb) (by decide) (fun z_46 S_46 q_46 => ?_)
        rw [q_46.1, q_46.2]
        clear q_46 S_46 z_46
        refine aw_istw (n := 51) (L' := [_, _, _, _, _, _]) C dX7_findEase_49 rfl (by decide) rfl rfl ?_
        refine aw_aldn (n := 52) C dX7_findEase_51 rfl rfl ?_
        refine aw_getR (n := 55) C dX7_findEase_52 rfl fl_X7_56 rfl rfl ?_
        refine aw_bipush (n := 57) C dX7_findEase_55 rfl rfl ?_
        refine aw_ildn (n := 58) C dX7_findEase_57 rfl rfl ?_
        refine aw_imul (n := 59) C dX7_findEase_58 rfl ?_
        refine aw_ildn (n := 60) C dX7_findEase_59 rfl rfl ?_
        refine aw_iadd (n := 61) C dX7_findEase_60 rfl ?_
        refine aw_ildw (n := 63) C dX7_findEase_61 rfl rfl ?_
        refine aw_bipush (n := 65) C dX7_findEase_63 rfl rfl ?_
        refine aw_icne (tgt := 73) (n := 68) C dX7_findEase_65 rfl rfl (by omega) (by omega) (fun h_65 => ?_) (fun h_65 => ?_)
        · refine aw_ildw (n := 75) C dX7_findEase_73 rfl rfl ?_
          refine aw_ildw (n := 77) C dX7_findEase_75 rfl rfl ?_
          refine aw_iadd (n := 78) C dX7_findEase_77 rfl ?_
          refine aw_iast (n := 79) C dX7_findEase_78 rfl rfl (by omega) (by omega) ?_
          refine aw_iinc (n := 82) (L' := [_, _, _, _, _, _]) C dX7_findEase_79 rfl rfl (by decide) rfl rfl ?_
          refine aw_goto (tgt := 17) C dX7_findEase_82 rfl ?_
          first | (exfalso; omega; done) | exact go _ _ _ (by omega)
        · refine aw_bipush (n := 70) C dX7_findEase_68 rfl rfl ?_
          refine aw_goto (tgt := 78) C dX7_findEase_70 rfl ?_
          refine aw_iast (n := 79) C dX7_findEase_78 rfl rfl (by omega) (by omega) ?_
          refine aw_iinc (n := 82) (L' := [_, _, _, _, _, _]) C dX7_findEase_79 rfl rfl (by decide) rfl rfl ?_
          refine aw_goto (tgt := 17) C dX7_findEase_82 rfl ?_
          first | (exfalso; omega; done) | exact go _ _ _ (by omega)
      · refine aw_bipush (n := 39) C dX7_findEase_37 rfl rfl ?_
        refine aw_goto (tgt := 49) C dX7_findEase_39 rfl ?_
        refine aw_istw (n := 51) (L' := [_, _, _, _, _, _]) C dX7_findEase_49 rfl (by decide) rfl rfl ?_
        refine aw_aldn (n := 52) C dX7_findEase_51 rfl rfl ?_
        refine aw_getR (n := 55) C dX7_findEase_52 rfl fl_X7_56 rfl rfl ?_
        refine aw_bipush (n := 57) C dX7_findEase_55 rfl rfl ?_
        refine aw_ildn (n := 58) C dX7_findEase_57 rfl rfl ?_
        refine aw_imul (n := 59) C dX7_findEase_58 rfl ?_
        refine aw_ildn (n := 60) C dX7_findEase_59 rfl rfl ?_
        refine aw_iadd (n := 61) C dX7_findEase_60 rfl ?_
        refine aw_ildw (n := 63) C dX7_findEase_61 rfl rfl ?_
        refine aw_bipush (n := 65) C dX7_findEase_63 rfl rfl ?_
        refine aw_icne (tgt := 73) (n := 68) C dX7_findEase_65 rfl rfl (by omega) (by omega) (fun h_65 => ?_) (fun h_65 => ?_)
        · refine aw_ildw (n := 75) C dX7_findEase_73 rfl rfl ?_
          refine aw_ildw (n := 77) C dX7_findEase_75 rfl rfl ?_
          refine aw_iadd (n := 78) C dX7_findEase_77 rfl ?_
          refine aw_iast (n := 79) C dX7_findEase_78 rfl rfl (by omega) (by omega) ?_
          refine aw_iinc (n := 82) (L' := [_, _, _, _, _, _]) C dX7_findEase_79 rfl rfl (by decide) rfl rfl ?_
          refine aw_goto (tgt := 17) C dX7_findEase_82 rfl ?_
          first | (exfalso; omega; done) | exact go _ _ _ (by omega)
        · refine aw_bipush (n := 70) C dX7_findEase_68 rfl rfl ?_
          refine aw_goto (tgt := 78) C dX7_findEase_70 rfl ?_
          refine aw_iast (n := 79) C dX7_findEase_78 rfl rfl (by omega) (by omega) ?_
          refine aw_iinc (n := 82) (L' := [_, _, _, _, _, _]) C dX7_findEase_79 rfl rfl (by decide) rfl rfl ?_
          refine aw_goto (tgt := 17) C dX7_findEase_82 rfl ?_
          first | (exfalso; omega; done) | exact go _ _ _ (by omega)
theorem d_fe_loop {post : Mem → Prop} {S0 : Mem} (E0 : EM S0 M P du) (C : CX X 3 RX7 cX7_findEase 6) (hret : ∀ (pc : Nat) (L : List (Option AV)) (S' : Mem), decode cX7_findEase pc = .ok (.return_, 1) → post S' → AW X cX7_findEase 6 pc L [] S') (hp : ∀ S', fr 82 83 S0 S' → TB S' M P (S0 70) du 0 → post S') : ∀ (m : Nat) (S1 : Mem) (x y z : Option AV), m ≤ M → fr 82 83 S0 S1 → TB S1 M P (S0 70) du m → AW X cX7_findEase 6 11 [some (.inr (.inr 66)), some (.inl ((3 ^ P : Nat) : Int)), some (.inl ((m : Int) - 1)), x, y, z] [] S1 := by
  intro m
  induction m with
  | zero =>
    intro S1 x y z hm hf hT
    generalize hU : 3 ^ P = U at *
    refine aw_ildn (n := 12) C dX7_findEase_11 rfl rfl ?_
    refine aw_iflt (tgt := 91) (n := 15) C dX7_findEase_12 rfl rfl (by omega) (fun h_12 => ?_) (fun h_12 => ?_)
    · refine hret 91 _ _ dX7_findEase_91 ?_
      exact hp S1 hf hT
    · omega
  | succ m ih =>
    intro S1 x y z hm hf hT
    have e1 : ((m + 1 : Nat) : Int) - 1 = (m : Int) := by omega
    have hM8 := E0.2.2.1
    rw [e1]
    have k85 : ∀ (S2 : Mem) (x y : Option AV), fr 82 83 S0 S2 → TB S2 M P (S0 70) du m → AW X cX7_findEase 6 85 [some (.inr (.inr 66)), some (.inl ((3 ^ P : Nat) : Int)), some (.inl (m : Int)), some (.inl ((3 ^ P : Nat) : Int)), x, y] [] S2 := by
      intro S2 x y hf2 hT2
      have ih2 := fun x y z => ih S2 x y z (by omega) hf2 hT2
      clear ih
      generalize hU : 3 ^ P = U at *
      refine aw_iinc (n := 88) (L' := [_, _, _, _, _, _]) C dX7_findEase_85 rfl rfl (by decide) rfl rfl ?_
      refine aw_goto (tgt := 11) C dX7_findEase_88 rfl ?_
      exact ih2 _ _ _
    have kin := fun x y => d_fe_in E0 (by omega) C k85 (3 ^ P) 0 S1 x y (by omega) hf hT (fun v hv => absurd hv (by omega))
    clear ih k85
    generalize hU : 3 ^ P = U at *
    refine aw_ildn (n := 12) C dX7_findEase_11 rfl rfl ?_
    refine aw_iflt (tgt := 91) (n := 15) C dX7_findEase_12 rfl rfl (by omega) (fun h_12 => ?_) (fun h_12 => ?_)
    · omega
    · refine aw_iconst (n := 16) C dX7_findEase_15 rfl ?_
      refine aw_istn (n := 17) (L' := [_, _, _, _, _, _]) C dX7_findEase_16 rfl (by decide) rfl rfl ?_
      exact kin _ _
theorem dM_r (S : Mem) : ∀ m p, 0 ≤ dM S m p ∧ dM S m p ≤ 2 := fun m p => due_r _ _ _
/-- the search may begin -/
def EB (S : Mem) (M P : Nat) : Prop := MW S ∧ S 66 5 = (M : Int) ∧ S 66 6 = (P : Int) ∧ 0 < P ∧ (∀ c, 0 ≤ c → c < 3 → 0 ≤ S 70 c ∧ S 70 c ≤ 4)
theorem EB_EM {S1 : Mem} (B : EB S M P) (hU : UN S P) (hf : fr 80 82 S S1) (hd : ∀ m q : Nat, m < M → q < P → S1 81 (4 * (m : Int) + q) = due (S 66 7) (S 66 8) (RM S m q)) : EM S1 M P (dM S) := by
  obtain ⟨W, h5, h6, hP, hse⟩ := B
  obtain ⟨t1, t2, -⟩ := id W
  refine ⟨by rw [hf 66 (by omega)]; exact h5, by rw [hf 66 (by omega)]; exact h6, by omega, by omega, ?_, ?_, ?_, dM_r S⟩
  · unfold UN; rw [hf 83 (by omega)]; exact hU
  · intro m p hm hp; rw [hd m p hm hp]; unfold dM; rw [Int.toNat_natCast]
  · rw [hf 70 (by omega)]; exact hse
theorem d_findEase (B : EB S M P) (hU : UN S P) : AMv 3 yX7_findEase cX7_findEase 6 [.inr (.inr 66), .inl ((3 ^ P : Nat) : Int)] S (fun S' => fr 80 83 S S' ∧ EM S' M P (dM S) ∧ TB S' M P (S 70) (dM S) 0) := by
  obtain ⟨W, h5, h6, hP, hse⟩ := id B
  refine amv_intro (L := [_, _, none, none, none, none]) (by decide) rfl (Nat.le_of_ble_eq_true rfl) (fun X C hret => ?_)
  refine aw_aldn (n := 1) C dX7_findEase_0 rfl rfl ?_
  refine aw_cVv (n := 4) (vs := []) C dX7_findEase_1 rfl rfl rfl mm_X7_layDues wM_X7_177 rfl rfl (Nat.le_of_ble_eq_true rfl) (d_layDues W h5 h6) (by decide) (fun S_1 q_1 => ?_)
  obtain ⟨g1, g2⟩ := q_1
  have E0 := EB_EM B hU g1 g2
  have e70 : S_1 70 = S 70 := g1 70 (by omega)
  refine aw_aldn (n := 5) C dX7_findEase_4 rfl rfl ?_
  refine aw_getI (z := 5) (n := 8) C dX7_findEase_5 rfl fl_X7_84 rfl rfl rfl ?_
  rw [E0.1]
  refine aw_iconst (n := 9) C dX7_findEase_8 rfl ?_
  refine aw_isub (n := 10) C dX7_findEase_9 rfl ?_
  refine aw_istn (n := 11) (L' := [_, _, _, _, _, _]) C dX7_findEase_10 rfl (by decide) rfl rfl ?_
  refine d_fe_loop E0 C hret (fun S' hf hT => ⟨fr_tr (fr_w g1 (by omega) (by omega)) (fr_w hf (by omega) (by omega)), EM_fr E0 hf, by rw [← e70]; exact hT⟩) M S_1 _ _ _ (Nat.le_refl M) (fr_rf _ _ _) (fun i h1 h2 => absurd h1 (by omega))
end MEB
