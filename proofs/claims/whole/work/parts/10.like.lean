/-! the guess becomes like the line -/
def LKf (S S' : Mem) : Prop := fr 28 46 S S' ∧ S' 28 8 = S 10 8 ∧ S' 28 9 = S 10 9 ∧ S' 28 10 = S 10 10 ∧ S' 28 11 = S 10 11
def LKm (n : Int) (S S' : Mem) : Prop := ∀ m, 0 ≤ m → m < n → S' 30 m = S 12 m ∧ S' 31 m = S 13 m ∧ S' 32 m = S 14 m
def LKp (n : Int) (S S' : Mem) : Prop := ∀ p, 0 ≤ p → p < n → S' 33 p = S 15 p ∧ S' 34 p = S 16 p ∧ S' 35 p = S 17 p
def LKr (n : Nat) (S S' : Mem) : Prop := ∀ m : Nat, m < n → ∀ p, 0 ≤ p → p < S 10 9 → S' (37 + m) p = S (19 + m) p
def LK (S S' : Mem) : Prop := LKf S S' ∧ LKm (S 10 8) S S' ∧ LKp (S 10 9) S S' ∧ LKr ((S 10 8).toNat + 1) S S'
theorem c_like_3 {X : AMX} {S : Mem} {post : Mem → Prop} (h8 : 0 ≤ S 10 8 ∧ S 10 8 ≤ 8) (h9 : 0 ≤ S 10 9 ∧ S 10 9 ≤ 4) (C : CX X 1 RX5 cX5_becomeLike 3) (hret : ∀ (pc : Nat) (L : List (Option AV)) (S' : Mem), decode cX5_becomeLike pc = .ok (.return_, 1) → post S' → AW X cX5_becomeLike 3 pc L [] S') (hp : ∀ S', LK S S' → post S') : ∀ (n i : Nat) (S1 : Mem), (i : Int) + n = S 10 8 + 1 → LKf S S1 → LKm (S 10 8) S S1 → LKp (S 10 9) S S1 → LKr i S S1 → AW X cX5_becomeLike 3 138 [some (.inr (.inr 28)), some (.inr (.inr 10)), some (.inl i)] [] S1 := by
  intro n
  induction n with
  | zero =>
    intro i S1 hi hf hm hpp hr
    obtain ⟨f1, f2, f3, f4, f5⟩ := id hf
    refine aw_ildn (n := 139) C dX5_becomeLike_138 rfl rfl ?_
    refine aw_aldn (n := 140) C dX5_becomeLike_139 rfl rfl ?_
    refine aw_getI (z := 8) (n := 143) C dX5_becomeLike_140 rfl fl_X5_39 rfl rfl rfl ?_
    refine aw_icgt (tgt := 173) (n := 146) C dX5_becomeLike_143 rfl rfl (by omega) (by omega) (fun h_143 => ?_) (fun h_143 => ?_)
    · refine hret 173 _ _ dX5_becomeLike_173 ?_
      exact hp S1 ⟨hf, hm, hpp, by rw [show (S 10 8).toNat + 1 = i by omega]; exact hr⟩
    · omega
  | succ n ih =>
    intro i S1 hi hf hm hpp hr
    obtain ⟨f1, f2, f3, f4, f5⟩ := id hf
    refine aw_ildn (n := 139) C dX5_becomeLike_138 rfl rfl ?_
    refine aw_aldn (n := 140) C dX5_becomeLike_139 rfl rfl ?_
    refine aw_getI (z := 8) (n := 143) C dX5_becomeLike_140 rfl fl_X5_39 rfl rfl rfl ?_
    refine aw_icgt (tgt := 173) (n := 146) C dX5_becomeLike_143 rfl rfl (by omega) (by omega) (fun h_143 => ?_) (fun h_143 => ?_)
    · omega
    · refine aw_aldn (n := 147) C dX5_becomeLike_146 rfl rfl ?_
      refine aw_getR (n := 150) C dX5_becomeLike_147 rfl fl_X5_36 rfl rfl ?_
      refine aw_ildn (n := 151) C dX5_becomeLike_150 rfl rfl ?_
      refine aw_aald (j := i) (n := 152) C dX5_becomeLike_151 rfl rfl (by decide) rfl (by omega) (tf10 (by omega)) ?_
      refine aw_iconst (n := 153) C dX5_becomeLike_152 rfl ?_
      refine aw_aldn (n := 154) C dX5_becomeLike_153 rfl rfl ?_
      refine aw_getR (n := 157) C dX5_becomeLike_154 rfl fl_X5_36 rfl rfl ?_
      refine aw_ildn (n := 158) C dX5_becomeLike_157 rfl rfl ?_
      refine aw_aald (j := i) (n := 159) C dX5_becomeLike_158 rfl rfl (by decide) rfl (by omega) (tf28 (by omega)) ?_
      refine aw_iconst (n := 160) C dX5_becomeLike_159 rfl ?_
      refine aw_aldn (n := 161) C dX5_becomeLike_160 rfl rfl ?_
      refine aw_getI (z := 9) (n := 164) C dX5_becomeLike_161 rfl fl_X5_43 rfl rfl rfl ?_
      refine aw_copy (n := 167) C dX5_becomeLike_164 rfl wM_X5_64 wNat wS_arraycopyName wI_J10 (by decide) (Nat.le_of_ble_eq_true rfl) (tk10 (by omega)) (tk28 (by omega)) (by decide) (by decide) (by omega) (by omega) (by omega) (by omega) (by omega) ?_
      refine aw_iinc (n := 170) (L' := [_, _, _]) C dX5_becomeLike_167 rfl rfl (by decide) rfl rfl ?_
      refine aw_goto (tgt := 138) C dX5_becomeLike_170 rfl ?_
      rw [f3]
      generalize hS2 : cp2 S1 (19 + i) 0 (37 + i) 0 (S 10 9) = S2
      have g1 : fr (37 + i) (38 + i) S1 S2 := fun c hc => by rw [← hS2]; exact funext fun i => if_neg (fun q => by omega)
      have v1 : ∀ p, 0 ≤ p → p < S 10 9 → S2 (37 + i) p = S1 (19 + i) p := fun p p0 p1 => by rw [← hS2]; unfold cp2; rw [if_pos ⟨rfl, by omega, by omega⟩]; congr 1; omega
      refine ih (i + 1) S2 (by omega) ?_ ?_ ?_ ?_
      · unfold LKf
        rw [g1 28 (by omega)]
        exact ⟨fr_tr f1 (fr_w g1 (by omega) (by omega)), f2, f3, f4, f5⟩
      · unfold LKm
        rw [g1 30 (by omega), g1 31 (by omega), g1 32 (by omega)]
        exact hm
      · unfold LKp
        rw [g1 33 (by omega), g1 34 (by omega), g1 35 (by omega)]
        exact hpp
      · intro m hmm p p0 p1
        by_cases e : m = i
        · subst e
          rw [v1 p p0 p1, f1 (19 + m) (by omega)]
        · rw [g1 (37 + m) (by omega)]
          exact hr m (by omega) p p0 p1
theorem c_like_2 {X : AMX} {S : Mem} {post : Mem → Prop} (h8 : 0 ≤ S 10 8 ∧ S 10 8 ≤ 8) (h9 : 0 ≤ S 10 9 ∧ S 10 9 ≤ 4) (C : CX X 1 RX5 cX5_becomeLike 3) (hret : ∀ (pc : Nat) (L : List (Option AV)) (S' : Mem), decode cX5_becomeLike pc = .ok (.return_, 1) → post S' → AW X cX5_becomeLike 3 pc L [] S') (hp : ∀ S', LK S S' → post S') : ∀ (n i : Nat) (S1 : Mem), (i : Int) + n = S 10 9 → LKf S S1 → LKm (S 10 8) S S1 → LKp i S S1 → AW X cX5_becomeLike 3 86 [some (.inr (.inr 28)), some (.inr (.inr 10)), some (.inl i)] [] S1 := by
  intro n
  induction n with
  | zero =>
    intro i S1 hi hf hm hpp
    obtain ⟨f1, f2, f3, f4, f5⟩ := id hf
    refine aw_ildn (n := 87) C dX5_becomeLike_86 rfl rfl ?_
    refine aw_aldn (n := 88) C dX5_becomeLike_87 rfl rfl ?_
    refine aw_getI (z := 9) (n := 91) C dX5_becomeLike_88 rfl fl_X5_43 rfl rfl rfl ?_
    refine aw_icge (tgt := 136) (n := 94) C dX5_becomeLike_91 rfl rfl (by omega) (by omega) (fun h_91 => ?_) (fun h_91 => ?_)
    · refine aw_iconst (n := 137) C dX5_becomeLike_136 rfl ?_
      refine aw_istn (n := 138) (L' := [_, _, _]) C dX5_becomeLike_137 rfl (by decide) rfl rfl ?_
      exact c_like_3 h8 h9 C hret hp ((S 10 8).toNat + 1) 0 S1 (by omega) hf hm (by rw [← show (i : Int) = S 10 9 by omega]; exact hpp) (fun m h => by omega)
    · omega
  | succ n ih =>
    intro i S1 hi hf hm hpp
    obtain ⟨f1, f2, f3, f4, f5⟩ := id hf
    refine aw_ildn (n := 87) C dX5_becomeLike_86 rfl rfl ?_
    refine aw_aldn (n := 88) C dX5_becomeLike_87 rfl rfl ?_
    refine aw_getI (z := 9) (n := 91) C dX5_becomeLike_88 rfl fl_X5_43 rfl rfl rfl ?_
    refine aw_icge (tgt := 136) (n := 94) C dX5_becomeLike_91 rfl rfl (by omega) (by omega) (fun h_91 => ?_) (fun h_91 => ?_)
    · omega
    · refine aw_aldn (n := 95) C dX5_becomeLike_94 rfl rfl ?_
      refine aw_getR (n := 98) C dX5_becomeLike_95 rfl fl_X5_25 rfl rfl ?_
      refine aw_ildn (n := 99) C dX5_becomeLike_98 rfl rfl ?_
      refine aw_aldn (n := 100) C dX5_becomeLike_99 rfl rfl ?_
      refine aw_getR (n := 103) C dX5_becomeLike_100 rfl fl_X5_25 rfl rfl ?_
      refine aw_ildn (n := 104) C dX5_becomeLike_103 rfl rfl ?_
      refine aw_iald (n := 105) C dX5_becomeLike_104 rfl rfl (by omega) (by omega) ?_
      refine aw_iast (n := 106) C dX5_becomeLike_105 rfl rfl (by omega) (by omega) ?_
      refine aw_aldn (n := 107) C dX5_becomeLike_106 rfl rfl ?_
      refine aw_getR (n := 110) C dX5_becomeLike_107 rfl fl_X5_28 rfl rfl ?_
      refine aw_ildn (n := 111) C dX5_becomeLike_110 rfl rfl ?_
      refine aw_aldn (n := 112) C dX5_becomeLike_111 rfl rfl ?_
      refine aw_getR (n := 115) C dX5_becomeLike_112 rfl fl_X5_28 rfl rfl ?_
      refine aw_ildn (n := 116) C dX5_becomeLike_115 rfl rfl ?_
      refine aw_iald (n := 117) C dX5_becomeLike_116 rfl rfl (by omega) (by omega) ?_
      refine aw_iast (n := 118) C dX5_becomeLike_117 rfl rfl (by omega) (by omega) ?_
      refine aw_aldn (n := 119) C dX5_becomeLike_118 rfl rfl ?_
      refine aw_getR (n := 122) C dX5_becomeLike_119 rfl fl_X5_31 rfl rfl ?_
      refine aw_ildn (n := 123) C dX5_becomeLike_122 rfl rfl ?_
      refine aw_aldn (n := 124) C dX5_becomeLike_123 rfl rfl ?_
      refine aw_getR (n := 127) C dX5_becomeLike_124 rfl fl_X5_31 rfl rfl ?_
      refine aw_ildn (n := 128) C dX5_becomeLike_127 rfl rfl ?_
      refine aw_iald (n := 129) C dX5_becomeLike_128 rfl rfl (by omega) (by omega) ?_
      refine aw_iast (n := 130) C dX5_becomeLike_129 rfl rfl (by omega) (by omega) ?_
      refine aw_iinc (n := 133) (L' := [_, _, _]) C dX5_becomeLike_130 rfl rfl (by decide) rfl rfl ?_
      refine aw_goto (tgt := 86) C dX5_becomeLike_133 rfl ?_
      refine ih (i + 1) _ (by omega) ?_ ?_ ?_
      · refine ⟨fr_tr f1 (fr_tr (fr_tr (fr_w (fr_st _ _ _ _) (by omega) (by omega)) (fr_w (fr_st _ _ _ _) (by omega) (by omega))) (fr_w (fr_st _ _ _ _) (by omega) (by omega))), ?_⟩
        simp only [st2, Nat.reduceEqDiff, false_and, if_false]
        exact ⟨f2, f3, f4, f5⟩
      · intro m m0 m1
        simp only [st2, Nat.reduceEqDiff, false_and, if_false]
        exact hm m m0 m1
      · intro p p0 p1
        simp only [st2, Nat.reduceEqDiff, false_and, if_false, true_and]
        by_cases e : p = (i : Int)
        · rw [if_pos e, if_pos e, if_pos e, e, f1 15 (by omega), f1 16 (by omega), f1 17 (by omega)]
          exact ⟨rfl, rfl, rfl⟩
        · rw [if_neg e, if_neg e, if_neg e]
          exact hpp p p0 (by omega)
theorem c_like_1 {X : AMX} {S : Mem} {post : Mem → Prop} (h8 : 0 ≤ S 10 8 ∧ S 10 8 ≤ 8) (h9 : 0 ≤ S 10 9 ∧ S 10 9 ≤ 4) (ht : ∀ m, 0 ≤ m → m < S 10 8 → S 12 m = 0 ∨ S 12 m = 1) (C : CX X 1 RX5 cX5_becomeLike 3) (hret : ∀ (pc : Nat) (L : List (Option AV)) (S' : Mem), decode cX5_becomeLike pc = .ok (.return_, 1) → post S' → AW X cX5_becomeLike 3 pc L [] S') (hp : ∀ S', LK S S' → post S') : ∀ (n i : Nat) (S1 : Mem), (i : Int) + n = S 10 8 → LKf S S1 → LKm i S S1 → AW X cX5_becomeLike 3 34 [some (.inr (.inr 28)), some (.inr (.inr 10)), some (.inl i)] [] S1 := by
  intro n
  induction n with
  | zero =>
    intro i S1 hi hf hm
    obtain ⟨f1, f2, f3, f4, f5⟩ := id hf
    refine aw_ildn (n := 35) C dX5_becomeLike_34 rfl rfl ?_
    refine aw_aldn (n := 36) C dX5_becomeLike_35 rfl rfl ?_
    refine aw_getI (z := 8) (n := 39) C dX5_becomeLike_36 rfl fl_X5_39 rfl rfl rfl ?_
    refine aw_icge (tgt := 84) (n := 42) C dX5_becomeLike_39 rfl rfl (by omega) (by omega) (fun h_39 => ?_) (fun h_39 => ?_)
    · refine aw_iconst (n := 85) C dX5_becomeLike_84 rfl ?_
      refine aw_istn (n := 86) (L' := [_, _, _]) C dX5_becomeLike_85 rfl (by decide) rfl rfl ?_
      exact c_like_2 h8 h9 C hret hp (S 10 9).toNat 0 S1 (by omega) hf (by rw [← show (i : Int) = S 10 8 by omega]; exact hm) (fun m h => by omega)
    · omega
  | succ n ih =>
    intro i S1 hi hf hm
    obtain ⟨f1, f2, f3, f4, f5⟩ := id hf
    have ht1 := ht i (by omega) (by omega)
    refine aw_ildn (n := 35) C dX5_becomeLike_34 rfl rfl ?_
    refine aw_aldn (n := 36) C dX5_becomeLike_35 rfl rfl ?_
    refine aw_getI (z := 8) (n := 39) C dX5_becomeLike_36 rfl fl_X5_39 rfl rfl rfl ?_
    refine aw_icge (tgt := 84) (n := 42) C dX5_becomeLike_39 rfl rfl (by omega) (by omega) (fun h_39 => ?_) (fun h_39 => ?_)
    · omega
    · refine aw_aldn (n := 43) C dX5_becomeLike_42 rfl rfl ?_
      refine aw_getR (n := 46) C dX5_becomeLike_43 rfl fl_X5_15 rfl rfl ?_
      refine aw_ildn (n := 47) C dX5_becomeLike_46 rfl rfl ?_
      refine aw_aldn (n := 48) C dX5_becomeLike_47 rfl rfl ?_
      refine aw_getR (n := 51) C dX5_becomeLike_48 rfl fl_X5_15 rfl rfl ?_
      refine aw_ildn (n := 52) C dX5_becomeLike_51 rfl rfl ?_
      refine aw_zald (n := 53) C dX5_becomeLike_52 rfl rfl (by omega) (by omega) ?_
      refine aw_zast (n := 54) C dX5_becomeLike_53 rfl rfl (by omega) (by omega) (by rw [f1 12 (by omega)]; exact ht1) ?_
      refine aw_aldn (n := 55) C dX5_becomeLike_54 rfl rfl ?_
      refine aw_getR (n := 58) C dX5_becomeLike_55 rfl fl_X5_19 rfl rfl ?_
      refine aw_ildn (n := 59) C dX5_becomeLike_58 rfl rfl ?_
      refine aw_aldn (n := 60) C dX5_becomeLike_59 rfl rfl ?_
      refine aw_getR (n := 63) C dX5_becomeLike_60 rfl fl_X5_19 rfl rfl ?_
      refine aw_ildn (n := 64) C dX5_becomeLike_63 rfl rfl ?_
      refine aw_iald (n := 65) C dX5_becomeLike_64 rfl rfl (by omega) (by omega) ?_
      refine aw_iast (n := 66) C dX5_becomeLike_65 rfl rfl (by omega) (by omega) ?_
      refine aw_aldn (n := 67) C dX5_becomeLike_66 rfl rfl ?_
      refine aw_getR (n := 70) C dX5_becomeLike_67 rfl fl_X5_22 rfl rfl ?_
      refine aw_ildn (n := 71) C dX5_becomeLike_70 rfl rfl ?_
      refine aw_aldn (n := 72) C dX5_becomeLike_71 rfl rfl ?_
      refine aw_getR (n := 75) C dX5_becomeLike_72 rfl fl_X5_22 rfl rfl ?_
      refine aw_ildn (n := 76) C dX5_becomeLike_75 rfl rfl ?_
      refine aw_iald (n := 77) C dX5_becomeLike_76 rfl rfl (by omega) (by omega) ?_
      refine aw_iast (n := 78) C dX5_becomeLike_77 rfl rfl (by omega) (by omega) ?_
      refine aw_iinc (n := 81) (L' := [_, _, _]) C dX5_becomeLike_78 rfl rfl (by decide) rfl rfl ?_
      refine aw_goto (tgt := 34) C dX5_becomeLike_81 rfl ?_
      refine ih (i + 1) _ (by omega) ?_ ?_
      · refine ⟨fr_tr f1 (fr_tr (fr_tr (fr_w (fr_st _ _ _ _) (by omega) (by omega)) (fr_w (fr_st _ _ _ _) (by omega) (by omega))) (fr_w (fr_st _ _ _ _) (by omega) (by omega))), ?_⟩
        simp only [st2, Nat.reduceEqDiff, false_and, if_false]
        exact ⟨f2, f3, f4, f5⟩
      · intro p p0 p1
        simp only [st2, Nat.reduceEqDiff, false_and, if_false, true_and]
        by_cases e : p = (i : Int)
        · rw [if_pos e, if_pos e, if_pos e, e, f1 12 (by omega), f1 13 (by omega), f1 14 (by omega)]
          exact ⟨rfl, rfl, rfl⟩
        · rw [if_neg e, if_neg e, if_neg e]
          exact hm p p0 (by omega)
theorem c_becomeLike {S : Mem} (h8 : 0 ≤ S 10 8 ∧ S 10 8 ≤ 8) (h9 : 0 ≤ S 10 9 ∧ S 10 9 ≤ 4) (ht : ∀ m, 0 ≤ m → m < S 10 8 → S 12 m = 0 ∨ S 12 m = 1) : AMv 1 yX5_becomeLike cX5_becomeLike 3 [.inr (.inr 28), .inr (.inr 10)] S (LK S) := by
  refine amv_intro (L := [_, _, none]) (by decide) rfl (Nat.le_of_ble_eq_true rfl) (fun X C hret => ?_)
  refine aw_aldn (n := 1) C dX5_becomeLike_0 rfl rfl ?_
  refine aw_aldn (n := 2) C dX5_becomeLike_1 rfl rfl ?_
  refine aw_getI (z := 8) (n := 5) C dX5_becomeLike_2 rfl fl_X5_39 rfl rfl rfl ?_
  refine aw_put (z := 8) (n := 8) C dX5_becomeLike_5 rfl fp_X5_39 rfl rfl rfl (Or.inl rfl) ?_
  refine aw_aldn (n := 9) C dX5_becomeLike_8 rfl rfl ?_
  refine aw_aldn (n := 10) C dX5_becomeLike_9 rfl rfl ?_
  refine aw_getI (z := 9) (n := 13) C dX5_becomeLike_10 rfl fl_X5_43 rfl rfl rfl ?_
  refine aw_put (z := 9) (n := 16) C dX5_becomeLike_13 rfl fp_X5_43 rfl rfl rfl (Or.inl rfl) ?_
  refine aw_aldn (n := 17) C dX5_becomeLike_16 rfl rfl ?_
  refine aw_aldn (n := 18) C dX5_becomeLike_17 rfl rfl ?_
  refine aw_getI (z := 10) (n := 21) C dX5_becomeLike_18 rfl fl_X5_46 rfl rfl rfl ?_
  refine aw_put (z := 10) (n := 24) C dX5_becomeLike_21 rfl fp_X5_46 rfl rfl rfl (Or.inl rfl) ?_
  refine aw_aldn (n := 25) C dX5_becomeLike_24 rfl rfl ?_
  refine aw_aldn (n := 26) C dX5_becomeLike_25 rfl rfl ?_
  refine aw_getI (z := 11) (n := 29) C dX5_becomeLike_26 rfl fl_X5_49 rfl rfl rfl ?_
  refine aw_put (z := 11) (n := 32) C dX5_becomeLike_29 rfl fp_X5_49 rfl rfl rfl (Or.inl rfl) ?_
  refine aw_iconst (n := 33) C dX5_becomeLike_32 rfl ?_
  refine aw_istn (n := 34) (L' := [_, _, _]) C dX5_becomeLike_33 rfl (by decide) rfl rfl ?_
  refine c_like_1 h8 h9 ht C hret (fun S' h => h) (S 10 8).toNat 0 _ (by omega) ⟨?_, ?_⟩ (fun m m0 m1 => by omega)
  · exact fr_tr (fr_tr (fr_tr (fr_w (fr_st _ _ _ _) (by omega) (by omega)) (fr_w (fr_st _ _ _ _) (by omega) (by omega))) (fr_w (fr_st _ _ _ _) (by omega) (by omega))) (fr_w (fr_st _ _ _ _) (by omega) (by omega))
  · simp [st2]
/-- the guess of a line within its bounds is within its bounds -/
theorem LK_TW {S S' : Mem} (T : TW 10 S) (h : LK S S') : TW 28 S' := by
  obtain ⟨t1, t2, t3, t4, t5, t6⟩ := TW10 T
  obtain ⟨⟨f1, f2, f3, f4, f5⟩, hm, hp, -⟩ := h
  unfold TW
  rw [f2, f3, f4, f5]
  refine ⟨t1, t2, t3, t4, fun m m0 m1 => ?_, fun p p0 p1 => ?_⟩
  · obtain ⟨e1, e2, e3⟩ := hm m m0 m1
    show (S' 30 m = 0 ∨ S' 30 m = 1) ∧ tok (S 10 9) (S' 31 m) (S' 32 m)
    rw [e1, e2, e3]
    exact t5 m m0 m1
  · obtain ⟨e1, e2, e3⟩ := hp p p0 p1
    show (0 ≤ S' 33 p ∧ S' 33 p ≤ 2) ∧ (0 ≤ S' 34 p ∧ S' 34 p ≤ 59) ∧ (0 ≤ S' 35 p ∧ S' 35 p ≤ 9)
    rw [e1, e2, e3]
    exact t6 p p0 p1
