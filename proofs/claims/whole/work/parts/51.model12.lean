/-! the model: the search itself -/
section MEB
variable {X : AMX} {S : Mem} {M P : Nat} {du : Int → Int → Int}
/-- the table from mile m on -/
def TB (S : Mem) (M P : Nat) (se : Fn) (du : Int → Int → Int) (m : Nat) : Prop := ∀ i : Nat, m ≤ i → i < M → ∀ w : Nat, w < 3 ^ P → S 82 (81 * (i : Int) + w) = sent (tgF M P se du i w)
theorem sent_ne {f : Int} (h : f = 10000 ∨ (0 ≤ f ∧ f ≤ 100)) : (sent f = -9 ↔ f = 10000) ∧ (f ≠ 10000 → sent f = f) ∧ (-9 ≤ sent f ∧ sent f ≤ 100) := by unfold sent; omega
theorem d_bb_loop {post : Int → Mem → Prop} {m w : Nat} (E : EM S M P du) (hm : m + 1 < M) (hw : w < 3 ^ P) (hT : TB S M P (S 70) du (m + 1)) (C : CX X 2 RX7 cX7_bestBehind 7) (hret : ∀ (pc : Nat) (L : List (Option AV)) (z : Int) (S' : Mem), decode cX7_bestBehind pc = .ok (.ireturn, 1) → ((some FieldType.int) = some .int ∨ ((some FieldType.int) = some .boolean ∧ (z = 0 ∨ z = 1))) → post z S' → AW X cX7_bestBehind 7 pc L [.inl z] S') (hp : post (sent (bhF M P (S 70) du (M - 1 - m) w)) S) : ∀ (r v : Nat) (b : Int) (x : Option AV), v + r = 3 ^ P → mnS (tgF M P (S 70) du (m + 1)) P w v b → AW X cX7_bestBehind 7 19 [some (.inr (.inr 66)), some (.inl (m : Int)), some (.inl (w : Int)), some (.inl ((3 ^ P : Nat) : Int)), some (.inl b), some (.inl v), x] [] S := by
  obtain ⟨e1, e2, e3, e4, e5, e6, e7, e8⟩ := id E
  have h81 := p3_81 P e4.2
  rw [bhF_tg hm] at hp
  intro r
  induction r with
  | zero =>
    intro v b x hv hb
    obtain rfl : v = 3 ^ P := by omega
    have := mnS_end e4.2 hw (fun v hv => tgF_b e4.2 e3 e8 (m + 1) v hv) hb
    rw [← this] at hp
    clear this
    generalize hU : 3 ^ P = U at *
    refine aw_ildw (n := 21) C dX7_bestBehind_19 rfl rfl ?_
    refine aw_ildn (n := 22) C dX7_bestBehind_21 rfl rfl ?_
    refine aw_icge (tgt := 89) (n := 25) C dX7_bestBehind_22 rfl rfl (by omega) (by omega) (fun h_22 => ?_) (fun h_22 => ?_)
    · refine aw_ildw (n := 91) C dX7_bestBehind_89 rfl rfl ?_
      refine hret 91 _ _ _ dX7_bestBehind_91 (Or.inl rfl) ?_
      exact hp
    · omega
  | succ r ih =>
    intro v b x hv hb
    have hvU : v < 3 ^ P := by omega
    have tv := hT (m + 1) (by omega) hm v hvU
    have tb := tgF_b (M := M) (se := S 70) e4.2 e3 e8 (m + 1) v hvU
    have ts := sent_ne tb
    have hch := chl_r w v P
    have e81 : 81 * ((m : Int) + 1) + v = 81 * ((m + 1 : Nat) : Int) + v := by omega
    have hbr : -9 ≤ b ∧ b ≤ 200 := by rcases hb with h | h <;> omega
    have ih2 := fun b x => ih (v + 1) b x (by omega)
    clear ih
    generalize hU : 3 ^ P = U at *
    refine aw_ildw (n := 21) C dX7_bestBehind_19 rfl rfl ?_
    refine aw_ildn (n := 22) C dX7_bestBehind_21 rfl rfl ?_
    refine aw_icge (tgt := 89) (n := 25) C dX7_bestBehind_22 rfl rfl (by omega) (by omega) (fun h_22 => ?_) (fun h_22 => ?_)
    · omega
    · refine aw_aldn (n := 26) C dX7_bestBehind_25 rfl rfl ?_
      refine aw_getR (n := 29) C dX7_bestBehind_26 rfl fl_X7_56 rfl rfl ?_
      refine aw_bipush (n := 31) C dX7_bestBehind_29 rfl rfl ?_
      refine aw_ildn (n := 32) C dX7_bestBehind_31 rfl rfl ?_
      refine aw_iconst (n := 33) C dX7_bestBehind_32 rfl ?_
      refine aw_iadd (n := 34) C dX7_bestBehind_33 rfl ?_
      refine aw_imul (n := 35) C dX7_bestBehind_34 rfl ?_
      refine aw_ildw (n := 37) C dX7_bestBehind_35 rfl rfl ?_
      refine aw_iadd (n := 38) C dX7_bestBehind_37 rfl ?_
      rw [e81]
      refine aw_iald (n := 39) C dX7_bestBehind_38 rfl rfl (by omega) (by omega) ?_
      rw [tv]
      refine aw_istw (n := 41) (L' := [_, _, _, _, _, _, _]) C dX7_bestBehind_39 rfl (by decide) rfl rfl ?_
      refine aw_ildw (n := 43) C dX7_bestBehind_41 rfl rfl ?_
      refine aw_bipush (n := 45) C dX7_bestBehind_43 rfl rfl ?_
      refine aw_iceq (tgt := 83) (n := 48) C dX7_bestBehind_45 rfl rfl (by omega) (by omega) (fun h_45 => ?_) (fun h_45 => ?_)
      · have heq : tgF M P (S 70) du (m + 1) v = 10000 := ts.1.mp h_45
        refine aw_iinc (n := 86) (L' := [_, _, _, _, _, _, _]) C dX7_bestBehind_83 rfl rfl (by decide) rfl rfl ?_
        refine aw_goto (tgt := 19) C dX7_bestBehind_86 rfl ?_
        refine ih2 _ _ ?_
        first
        | (exfalso; omega; done)
        | (rcases hb with ⟨b1, b2⟩ | ⟨b1, b2, u, u1, u2, u3⟩; exact Or.inl ⟨b1, fun y hy => by (by_cases ey : y = v); (rw [ey]; exact heq); exact b2 y (by omega)⟩; exact Or.inr ⟨b1, fun y hy hn => by (by_cases ey : y = v); (rw [ey] at hn; exact absurd heq hn); exact b2 y (by omega) hn, u, by omega, u2, u3⟩)
        | (rcases hb with ⟨b1, b2⟩ | ⟨b1, b2, u, u1, u2, u3⟩; exact Or.inr ⟨by omega, fun y hy hn => by (by_cases ey : y = v); (rw [ey]; omega); exact absurd (b2 y (by omega)) hn, v, by omega, hne, rfl⟩; exact Or.inr ⟨by omega, fun y hy hn => by (by_cases ey : y = v); (rw [ey]; omega); (have := b2 y (by omega) hn; omega), v, by omega, hne, rfl⟩)
        | (rcases hb with ⟨b1, b2⟩ | ⟨b1, b2, u, u1, u2, u3⟩; (exfalso; omega); exact Or.inr ⟨b1, fun y hy hn => by (by_cases ey : y = v); (rw [ey]; omega); exact b2 y (by omega) hn, u, by omega, u2, u3⟩)
      · have hne : tgF M P (S 70) du (m + 1) v ≠ 10000 := fun h => h_45 (ts.1.mpr h)
        have hse := ts.2.1 hne
        refine aw_ildw (n := 50) C dX7_bestBehind_48 rfl rfl ?_
        refine aw_aldn (n := 51) C dX7_bestBehind_50 rfl rfl ?_
        refine aw_ildn (n := 52) C dX7_bestBehind_51 rfl rfl ?_
        refine aw_ildw (n := 54) C dX7_bestBehind_52 rfl rfl ?_
        refine aw_cVi (n := 57) (vs := [_, _]) C dX7_bestBehind_54 rfl rfl rfl mm_X7_changed wM_X7_192 rfl rfl (Nat.le_of_ble_eq_true rfl) (d_changed (a := w) (b := v) E (by omega) (by omega)) (by decide) (fun z_54 S_54 q_54 => ?_)
        rw [q_54.1, q_54.2]
        clear q_54 S_54 z_54
        rw [hse]
        refine aw_iadd (n := 58) C dX7_bestBehind_57 rfl ?_
        refine aw_istw (n := 60) (L' := [_, _, _, _, _, _, _]) C dX7_bestBehind_58 rfl (by decide) rfl rfl ?_
        refine aw_ildw (n := 62) C dX7_bestBehind_60 rfl rfl ?_
        refine aw_bipush (n := 64) C dX7_bestBehind_62 rfl rfl ?_
        refine aw_iceq (tgt := 74) (n := 67) C dX7_bestBehind_64 rfl rfl (by omega) (by omega) (fun h_64 => ?_) (fun h_64 => ?_)
        · refine aw_ildw (n := 76) C dX7_bestBehind_74 rfl rfl ?_
          refine aw_goto (tgt := 81) C dX7_bestBehind_76 rfl ?_
          refine aw_istw (n := 83) (L' := [_, _, _, _, _, _, _]) C dX7_bestBehind_81 rfl (by decide) rfl rfl ?_
          refine aw_iinc (n := 86) (L' := [_, _, _, _, _, _, _]) C dX7_bestBehind_83 rfl rfl (by decide) rfl rfl ?_
          refine aw_goto (tgt := 19) C dX7_bestBehind_86 rfl ?_
          refine ih2 _ _ ?_
          first
          | (exfalso; omega; done)
          | (rcases hb with ⟨b1, b2⟩ | ⟨b1, b2, u, u1, u2, u3⟩; exact Or.inl ⟨b1, fun y hy => by (by_cases ey : y = v); (rw [ey]; exact heq); exact b2 y (by omega)⟩; exact Or.inr ⟨b1, fun y hy hn => by (by_cases ey : y = v); (rw [ey] at hn; exact absurd heq hn); exact b2 y (by omega) hn, u, by omega, u2, u3⟩)
          | (rcases hb with ⟨b1, b2⟩ | ⟨b1, b2, u, u1, u2, u3⟩; exact Or.inr ⟨by omega, fun y hy hn => by (by_cases ey : y = v); (rw [ey]; omega); exact absurd (b2 y (by omega)) hn, v, by omega, hne, rfl⟩; exact Or.inr ⟨by omega, fun y hy hn => by (by_cases ey : y = v); (rw [ey]; omega); (have := b2 y (by omega) hn; omega), v, by omega, hne, rfl⟩)
          | (rcases hb with ⟨b1, b2⟩ | ⟨b1, b2, u, u1, u2, u3⟩; (exfalso; omega); exact Or.inr ⟨b1, fun y hy hn => by (by_cases ey : y = v); (rw [ey]; omega); exact b2 y (by omega) hn, u, by omega, u2, u3⟩)
        · refine aw_ildw (n := 69) C dX7_bestBehind_67 rfl rfl ?_
          refine aw_ildw (n := 71) C dX7_bestBehind_69 rfl rfl ?_
          refine aw_icge (tgt := 79) (n := 74) C dX7_bestBehind_71 rfl rfl (by omega) (by omega) (fun h_71 => ?_) (fun h_71 => ?_)
          · refine aw_ildw (n := 81) C dX7_bestBehind_79 rfl rfl ?_
            refine aw_istw (n := 83) (L' := [_, _, _, _, _, _, _]) C dX7_bestBehind_81 rfl (by decide) rfl rfl ?_
            refine aw_iinc (n := 86) (L' := [_, _, _, _, _, _, _]) C dX7_bestBehind_83 rfl rfl (by decide) rfl rfl ?_
            refine aw_goto (tgt := 19) C dX7_bestBehind_86 rfl ?_
            refine ih2 _ _ ?_
            first
            | (exfalso; omega; done)
            | (rcases hb with ⟨b1, b2⟩ | ⟨b1, b2, u, u1, u2, u3⟩; exact Or.inl ⟨b1, fun y hy => by (by_cases ey : y = v); (rw [ey]; exact heq); exact b2 y (by omega)⟩; exact Or.inr ⟨b1, fun y hy hn => by (by_cases ey : y = v); (rw [ey] at hn; exact absurd heq hn); exact b2 y (by omega) hn, u, by omega, u2, u3⟩)
            | (rcases hb with ⟨b1, b2⟩ | ⟨b1, b2, u, u1, u2, u3⟩; exact Or.inr ⟨by omega, fun y hy hn => by (by_cases ey : y = v); (rw [ey]; omega); exact absurd (b2 y (by omega)) hn, v, by omega, hne, rfl⟩; exact Or.inr ⟨by omega, fun y hy hn => by (by_cases ey : y = v); (rw [ey]; omega); (have := b2 y (by omega) hn; omega), v, by omega, hne, rfl⟩)
            | (rcases hb with ⟨b1, b2⟩ | ⟨b1, b2, u, u1, u2, u3⟩; (exfalso; omega); exact Or.inr ⟨b1, fun y hy hn => by (by_cases ey : y = v); (rw [ey]; omega); exact b2 y (by omega) hn, u, by omega, u2, u3⟩)
          · refine aw_ildw (n := 76) C dX7_bestBehind_74 rfl rfl ?_
            refine aw_goto (tgt := 81) C dX7_bestBehind_76 rfl ?_
            refine aw_istw (n := 83) (L' := [_, _, _, _, _, _, _]) C dX7_bestBehind_81 rfl (by decide) rfl rfl ?_
            refine aw_iinc (n := 86) (L' := [_, _, _, _, _, _, _]) C dX7_bestBehind_83 rfl rfl (by decide) rfl rfl ?_
            refine aw_goto (tgt := 19) C dX7_bestBehind_86 rfl ?_
            refine ih2 _ _ ?_
            first
            | (exfalso; omega; done)
            | (rcases hb with ⟨b1, b2⟩ | ⟨b1, b2, u, u1, u2, u3⟩; exact Or.inl ⟨b1, fun y hy => by (by_cases ey : y = v); (rw [ey]; exact heq); exact b2 y (by omega)⟩; exact Or.inr ⟨b1, fun y hy hn => by (by_cases ey : y = v); (rw [ey] at hn; exact absurd heq hn); exact b2 y (by omega) hn, u, by omega, u2, u3⟩)
            | (rcases hb with ⟨b1, b2⟩ | ⟨b1, b2, u, u1, u2, u3⟩; exact Or.inr ⟨by omega, fun y hy hn => by (by_cases ey : y = v); (rw [ey]; omega); exact absurd (b2 y (by omega)) hn, v, by omega, hne, rfl⟩; exact Or.inr ⟨by omega, fun y hy hn => by (by_cases ey : y = v); (rw [ey]; omega); (have := b2 y (by omega) hn; omega), v, by omega, hne, rfl⟩)
            | (rcases hb with ⟨b1, b2⟩ | ⟨b1, b2, u, u1, u2, u3⟩; (exfalso; omega); exact Or.inr ⟨b1, fun y hy hn => by (by_cases ey : y = v); (rw [ey]; omega); exact b2 y (by omega) hn, u, by omega, u2, u3⟩)
theorem d_bestBehind {m w : Nat} (E : EM S M P du) (hm : m < M) (hw : w < 3 ^ P) (hT : TB S M P (S 70) du (m + 1)) : AMi 2 yX7_bestBehind cX7_bestBehind 7 (some .int) [.inr (.inr 66), .inl (m : Int), .inl (w : Int), .inl ((3 ^ P : Nat) : Int)] S (fun z S' => z = sent (bhF M P (S 70) du (M - 1 - m) w) ∧ S' = S) := by
  obtain ⟨e1, e2, e3, e4, e5, e6, e7, e8⟩ := id E
  refine ami_intro (L := [_, _, _, _, none, none, none]) (by decide) (Or.inl rfl) rfl (Nat.le_of_ble_eq_true rfl) (fun X C hret => ?_)
  refine aw_ildn (n := 1) C dX7_bestBehind_0 rfl rfl ?_
  refine aw_aldn (n := 2) C dX7_bestBehind_1 rfl rfl ?_
  refine aw_getI (z := 5) (n := 5) C dX7_bestBehind_2 rfl fl_X7_84 rfl rfl rfl ?_
  refine aw_iconst (n := 6) C dX7_bestBehind_5 rfl ?_
  refine aw_isub (n := 7) C dX7_bestBehind_6 rfl ?_
  rw [e1]
  refine aw_icne (tgt := 12) (n := 10) C dX7_bestBehind_7 rfl rfl (by omega) (by omega) (fun h_7 => ?_) (fun h_7 => ?_)
  · refine aw_bipush (n := 14) C dX7_bestBehind_12 rfl rfl ?_
    refine aw_istw (n := 16) (L' := [_, _, _, _, _, _, _]) C dX7_bestBehind_14 rfl (by decide) rfl rfl ?_
    refine aw_iconst (n := 17) C dX7_bestBehind_16 rfl ?_
    refine aw_istw (n := 19) (L' := [_, _, _, _, _, _, _]) C dX7_bestBehind_17 rfl (by decide) rfl rfl ?_
    exact d_bb_loop E (by omega) hw hT C hret ⟨rfl, rfl⟩ (3 ^ P) 0 _ _ (by omega) (Or.inl ⟨rfl, fun v hv => absurd hv (by omega)⟩)
  · refine aw_iconst (n := 11) C dX7_bestBehind_10 rfl ?_
    refine hret 11 _ _ _ dX7_bestBehind_11 (Or.inl rfl) ?_
    refine ⟨?_, rfl⟩
    rw [show M - 1 - m = 0 by omega]
    rfl
end MEB
