/-! the model: ease and stuck -/
section MEA
variable {X : AMX} {S : Mem} {M P : Nat}
/-- the units of the rows -/
def UN (S : Mem) (P : Nat) : Prop := ∀ p : Nat, p < P → S 83 p = ((3 ^ (P - 1 - p) : Nat) : Int)
theorem d_rows_loop {post : Int → Mem → Prop} (hP : P ≤ 4) (C : CX X 0 RX7 cX7_rows 3) (hret : ∀ (pc : Nat) (L : List (Option AV)) (z : Int) (S' : Mem), decode cX7_rows pc = .ok (.ireturn, 1) → ((some FieldType.int) = some .int ∨ ((some FieldType.int) = some .boolean ∧ (z = 0 ∨ z = 1))) → post z S' → AW X cX7_rows 3 pc L [.inl z] S') (hp : ∀ S', fr 83 84 S S' → UN S' P → post ((3 ^ P : Nat) : Int) S') : ∀ (r j : Nat) (S1 : Mem), j + r = P → fr 83 84 S S1 → (∀ p : Nat, r ≤ p → p < P → S1 83 p = ((3 ^ (P - 1 - p) : Nat) : Int)) → AW X cX7_rows 3 9 [some (.inr (.inr 66)), some (.inl ((3 ^ j : Nat) : Int)), some (.inl ((r : Int) - 1))] [] S1 := by
  intro r
  induction r with
  | zero =>
    intro j S1 hj hf hv
    obtain rfl : j = P := by omega
    refine aw_ildn (n := 10) C dX7_rows_9 rfl rfl ?_
    refine aw_iflt (tgt := 30) (n := 13) C dX7_rows_10 rfl rfl (by omega) (fun h_10 => ?_) (fun h_10 => ?_)
    · refine aw_ildn (n := 31) C dX7_rows_30 rfl rfl ?_
      refine hret 31 _ _ _ dX7_rows_31 (Or.inl rfl) ?_
      exact hp S1 hf (fun p hpp => hv p (by omega) hpp)
    · omega
  | succ r ih =>
    intro j S1 hj hf hv
    have h81 := p3_81 j (by omega)
    have e1 : ((r + 1 : Nat) : Int) - 1 = (r : Int) := by omega
    rw [e1]
    generalize hu : 3 ^ j = u at *
    refine aw_ildn (n := 10) C dX7_rows_9 rfl rfl ?_
    refine aw_iflt (tgt := 30) (n := 13) C dX7_rows_10 rfl rfl (by omega) (fun h_10 => ?_) (fun h_10 => ?_)
    · omega
    · refine aw_aldn (n := 14) C dX7_rows_13 rfl rfl ?_
      refine aw_getR (n := 17) C dX7_rows_14 rfl fl_X7_59 rfl rfl ?_
      refine aw_ildn (n := 18) C dX7_rows_17 rfl rfl ?_
      refine aw_ildn (n := 19) C dX7_rows_18 rfl rfl ?_
      refine aw_iast (n := 20) C dX7_rows_19 rfl rfl (by omega) (by omega) ?_
      refine aw_ildn (n := 21) C dX7_rows_20 rfl rfl ?_
      refine aw_iconst (n := 22) C dX7_rows_21 rfl ?_
      refine aw_imul (n := 23) C dX7_rows_22 rfl ?_
      refine aw_istn (n := 24) (L' := [_, _, _]) C dX7_rows_23 rfl (by decide) rfl rfl ?_
      refine aw_iinc (n := 27) (L' := [_, _, _]) C dX7_rows_24 rfl rfl (by decide) rfl rfl ?_
      refine aw_goto (tgt := 9) C dX7_rows_27 rfl ?_
      have := ih (j + 1) (st2 S1 83 (r : Int) (u : Int)) (by omega) (fr_tr hf (fr_w (fr_st _ _ _ _) (by omega) (by omega))) (fun p h1 h2 => ?_)
      · rw [Nat.pow_succ, hu, Int.natCast_mul] at this
        exact this
      · by_cases e : p = r
        · rw [e, st2_s, ← hu, show P - 1 - r = j by omega]
        · rw [st2_n (by omega)]; exact hv p (by omega) h2
theorem d_rows (h6 : S 66 6 = (P : Int)) (hP : P ≤ 4) : AMi 0 yX7_rows cX7_rows 3 (some .int) [.inr (.inr 66)] S (fun z S' => z = ((3 ^ P : Nat) : Int) ∧ fr 83 84 S S' ∧ UN S' P) := by
  refine ami_intro (L := [_, none, none]) (by decide) (Or.inl rfl) rfl (Nat.le_of_ble_eq_true rfl) (fun X C hret => ?_)
  refine aw_iconst (n := 1) C dX7_rows_0 rfl ?_
  refine aw_istn (n := 2) (L' := [_, _, _]) C dX7_rows_1 rfl (by decide) rfl rfl ?_
  refine aw_aldn (n := 3) C dX7_rows_2 rfl rfl ?_
  refine aw_getI (z := 6) (n := 6) C dX7_rows_3 rfl fl_X7_81 rfl rfl rfl ?_
  rw [h6]
  refine aw_iconst (n := 7) C dX7_rows_6 rfl ?_
  refine aw_isub (n := 8) C dX7_rows_7 rfl ?_
  refine aw_istn (n := 9) (L' := [_, _, _]) C dX7_rows_8 rfl (by decide) rfl rfl ?_
  exact d_rows_loop hP C hret (fun S' a b => ⟨rfl, a, b⟩) P 0 S (by omega) (fr_rf _ _ _) (fun p h1 h2 => by omega)
theorem d_place {w p : Nat} (hU : UN S P) (hP : P ≤ 4) (hp : p < P) (hw : w < 81) : AMi 0 yX7_place cX7_place 3 (some .int) [.inr (.inr 66), .inl (w : Int), .inl (p : Int)] S (fun z S' => z = (dgl w (P - 1 - p) : Int) ∧ S' = S) := by
  have hu := hU p hp
  have h81 := p3_81 (P - 1 - p) (by omega)
  have hpos : 0 < 3 ^ (P - 1 - p) := Nat.pow_pos (by decide)
  have hd : (dgl w (P - 1 - p) : Int) = (w : Int) / ((3 ^ (P - 1 - p) : Nat) : Int) % 3 := by unfold dgl; rw [Int.natCast_emod, Int.natCast_ediv]; rfl
  have hq : 0 ≤ (w : Int) / ((3 ^ (P - 1 - p) : Nat) : Int) ∧ (w : Int) / ((3 ^ (P - 1 - p) : Nat) : Int) ≤ 81 := by
    rw [← Int.natCast_ediv]
    have := Nat.div_le_self w (3 ^ (P - 1 - p))
    generalize w / 3 ^ (P - 1 - p) = e at *
    omega
  rw [hd]
  generalize 3 ^ (P - 1 - p) = u at *
  refine ami_intro (L := [_, _, _]) (by decide) (Or.inl rfl) rfl (Nat.le_of_ble_eq_true rfl) (fun X C hret => ?_)
  refine aw_ildn (n := 1) C dX7_place_0 rfl rfl ?_
  refine aw_aldn (n := 2) C dX7_place_1 rfl rfl ?_
  refine aw_getR (n := 5) C dX7_place_2 rfl fl_X7_59 rfl rfl ?_
  refine aw_ildn (n := 6) C dX7_place_5 rfl rfl ?_
  refine aw_iald (n := 7) C dX7_place_6 rfl rfl (by omega) (by omega) ?_
  rw [hu]
  refine aw_idiv (n := 8) C dX7_place_7 rfl (by omega) (by omega) ?_
  refine aw_iconst (n := 9) C dX7_place_8 rfl ?_
  refine aw_irem (n := 10) C dX7_place_9 rfl (by omega) (by omega) ?_
  refine hret 10 _ _ _ dX7_place_10 (Or.inl rfl) ?_
  exact ⟨rfl, rfl⟩
/-- miles, passengers, units, dues, seats as the search needs them -/
def EM (S : Mem) (M P : Nat) (du : Int → Int → Int) : Prop := S 66 5 = (M : Int) ∧ S 66 6 = (P : Int) ∧ M ≤ 8 ∧ (0 < P ∧ P ≤ 4) ∧ UN S P ∧ (∀ m p : Nat, m < M → p < P → S 81 (4 * (m : Int) + p) = du m p) ∧ (∀ c, 0 ≤ c → c < 3 → 0 ≤ S 70 c ∧ S 70 c ≤ 4) ∧ (∀ m p, 0 ≤ du m p ∧ du m p ≤ 2)
theorem EM_fr {S' : Mem} {du : Int → Int → Int} (h : EM S M P du) (hf : fr 82 83 S S') : EM S' M P du := by
  unfold EM UN
  rw [hf 66 (by omega), hf 81 (by omega), hf 83 (by omega), hf 70 (by omega)]
  exact h
theorem rev_lws {w m : Nat} {du : Int → Int → Int} (hP : P ≤ 4) : sm (fun p => (dgl w (P - 1 - p) : Int) - du m p) P = lws w (fun j => du m ((P : Int) - 1 - j)) P := by
  refine Eq.trans ?_ (sm_rev (fun j => (dgl w j : Int) - du m ((P : Int) - 1 - j)) hP)
  refine sm_congr (fun k hk => ?_)
  show _ = (dgl w (P - 1 - k) : Int) - du m ((P : Int) - 1 - ((P - 1 - k : Nat) : Int))
  rw [show (P : Int) - 1 - ((P - 1 - k : Nat) : Int) = (k : Int) by omega]
theorem rev_ctl {w : Nat} {c : Int} (hP : P ≤ 4) : sm (fun p => if (dgl w (P - 1 - p) : Int) = c then 1 else 0) P = ctl w c P := sm_rev (fun j => if (dgl w j : Int) = c then 1 else 0) hP
theorem rev_chl {a b : Nat} (hP : P ≤ 4) : sm (fun p => if (dgl a (P - 1 - p) : Int) = (dgl b (P - 1 - p) : Int) then 0 else 1) P = chl a b P := by
  refine Eq.trans ?_ (sm_rev (fun j => if dgl a j = dgl b j then 0 else 1) hP)
  refine sm_congr (fun k hk => ?_)
  show (if (dgl a (P - 1 - k) : Int) = (dgl b (P - 1 - k) : Int) then (0 : Int) else 1) = if dgl a (P - 1 - k) = dgl b (P - 1 - k) then 0 else 1
  by_cases e : dgl a (P - 1 - k) = dgl b (P - 1 - k)
  · rw [if_pos e, if_pos (by omega)]
  · rw [if_neg e, if_neg (by omega)]
theorem d_changed_loop {post : Int → Mem → Prop} {du : Int → Int → Int} {a b : Nat} (E : EM S M P du) (ha : a < 81) (hb : b < 81) (C : CX X 1 RX7 cX7_changed 5) (hret : ∀ (pc : Nat) (L : List (Option AV)) (z : Int) (S' : Mem), decode cX7_changed pc = .ok (.ireturn, 1) → ((some FieldType.int) = some .int ∨ ((some FieldType.int) = some .boolean ∧ (z = 0 ∨ z = 1))) → post z S' → AW X cX7_changed 5 pc L [.inl z] S') (hp : post (chl a b P) S) : ∀ (r p : Nat), p + r = P → AW X cX7_changed 5 5 [some (.inr (.inr 66)), some (.inl (a : Int)), some (.inl (b : Int)), some (.inl (sm (fun p => if (dgl a (P - 1 - p) : Int) = (dgl b (P - 1 - p) : Int) then 0 else 1) p)), some (.inl p)] [] S := by
  obtain ⟨e1, e2, e3, e4, e5, e6, e7, e8⟩ := id E
  intro r
  induction r with
  | zero =>
    intro p hpr
    obtain rfl : p = P := by omega
    refine aw_ildw (n := 7) C dX7_changed_5 rfl rfl ?_
    refine aw_aldn (n := 8) C dX7_changed_7 rfl rfl ?_
    refine aw_getI (z := 6) (n := 11) C dX7_changed_8 rfl fl_X7_81 rfl rfl rfl ?_
    refine aw_icge (tgt := 45) (n := 14) C dX7_changed_11 rfl rfl (by omega) (by omega) (fun h_11 => ?_) (fun h_11 => ?_)
    · refine aw_ildn (n := 46) C dX7_changed_45 rfl rfl ?_
      refine hret 46 _ _ _ dX7_changed_46 (Or.inl rfl) ?_
      rw [rev_chl e4.2]
      exact hp
    · omega
  | succ r ih =>
    intro p hpr
    have hs := sm_r (f := fun p : Nat => if (dgl a (P - 1 - p) : Int) = (dgl b (P - 1 - p) : Int) then (0 : Int) else 1) (a := 1) (n := p) (fun k _ => by split <;> omega)
    have d1 := dgl_lt a (P - 1 - p)
    have d2 := dgl_lt b (P - 1 - p)
    refine aw_ildw (n := 7) C dX7_changed_5 rfl rfl ?_
    refine aw_aldn (n := 8) C dX7_changed_7 rfl rfl ?_
    refine aw_getI (z := 6) (n := 11) C dX7_changed_8 rfl fl_X7_81 rfl rfl rfl ?_
    refine aw_icge (tgt := 45) (n := 14) C dX7_changed_11 rfl rfl (by omega) (by omega) (fun h_11 => ?_) (fun h_11 => ?_)
    · omega
    · refine aw_ildn (n := 15) C dX7_changed_14 rfl rfl ?_
      refine aw_aldn (n := 16) C dX7_changed_15 rfl rfl ?_
      refine aw_ildn (n := 17) C dX7_changed_16 rfl rfl ?_
      refine aw_ildw (n := 19) C dX7_changed_17 rfl rfl ?_
      refine aw_cVi (n := 22) (vs := [_, _]) C dX7_changed_19 rfl rfl rfl mm_X7_place wM_X7_189 rfl rfl (Nat.le_of_ble_eq_true rfl) (d_place (w := a) (p := p) e5 e4.2 (by omega) ha) (by decide) (fun z_19 S_19 q_19 => ?_)
      rw [q_19.1, q_19.2]
      clear q_19 S_19 z_19
      refine aw_aldn (n := 23) C dX7_changed_22 rfl rfl ?_
      refine aw_ildn (n := 24) C dX7_changed_23 rfl rfl ?_
      refine aw_ildw (n := 26) C dX7_changed_24 rfl rfl ?_
      refine aw_cVi (n := 29) (vs := [_, _]) C dX7_changed_26 rfl rfl rfl mm_X7_place wM_X7_189 rfl rfl (Nat.le_of_ble_eq_true rfl) (d_place (w := b) (p := p) e5 e4.2 (by omega) hb) (by decide) (fun z_26 S_26 q_26 => ?_)
      rw [q_26.1, q_26.2]
      clear q_26 S_26 z_26
      refine aw_icne (tgt := 36) (n := 32) C dX7_changed_29 rfl rfl (by omega) (by omega) (fun h_29 => ?_) (fun h_29 => ?_)
      · refine aw_iconst (n := 37) C dX7_changed_36 rfl ?_
        refine aw_iadd (n := 38) C dX7_changed_37 rfl ?_
        refine aw_istn (n := 39) (L' := [_, _, _, _, _]) C dX7_changed_38 rfl (by decide) rfl rfl ?_
        refine aw_iinc (n := 42) (L' := [_, _, _, _, _]) C dX7_changed_39 rfl rfl (by decide) rfl rfl ?_
        refine aw_goto (tgt := 5) C dX7_changed_42 rfl ?_
        have := ih (p + 1) (by omega)
        rw [sm_s] at this
        first | (rw [if_pos h_29] at this; exact this) | (rw [if_neg h_29] at this; exact this)
      · refine aw_iconst (n := 33) C dX7_changed_32 rfl ?_
        refine aw_goto (tgt := 37) C dX7_changed_33 rfl ?_
        refine aw_iadd (n := 38) C dX7_changed_37 rfl ?_
        refine aw_istn (n := 39) (L' := [_, _, _, _, _]) C dX7_changed_38 rfl (by decide) rfl rfl ?_
        refine aw_iinc (n := 42) (L' := [_, _, _, _, _]) C dX7_changed_39 rfl rfl (by decide) rfl rfl ?_
        refine aw_goto (tgt := 5) C dX7_changed_42 rfl ?_
        have := ih (p + 1) (by omega)
        rw [sm_s] at this
        first | (rw [if_pos h_29] at this; exact this) | (rw [if_neg h_29] at this; exact this)
theorem d_changed {du : Int → Int → Int} {a b : Nat} (E : EM S M P du) (ha : a < 81) (hb : b < 81) : AMi 1 yX7_changed cX7_changed 5 (some .int) [.inr (.inr 66), .inl (a : Int), .inl (b : Int)] S (fun z S' => z = chl a b P ∧ S' = S) := by
  refine ami_intro (L := [_, _, _, none, none]) (by decide) (Or.inl rfl) rfl (Nat.le_of_ble_eq_true rfl) (fun X C hret => ?_)
  refine aw_iconst (n := 1) C dX7_changed_0 rfl ?_
  refine aw_istn (n := 2) (L' := [_, _, _, _, _]) C dX7_changed_1 rfl (by decide) rfl rfl ?_
  refine aw_iconst (n := 3) C dX7_changed_2 rfl ?_
  refine aw_istw (n := 5) (L' := [_, _, _, _, _]) C dX7_changed_3 rfl (by decide) rfl rfl ?_
  exact d_changed_loop E ha hb C hret ⟨rfl, rfl⟩ P 0 (by omega)
/-- how low a row is in a mile, with -9 if it can't be -/
theorem d_low_c {post : Int → Mem → Prop} {du : Int → Int → Int} {m w c : Nat} {low : Int} (E : EM S M P du) (hw : w < 81) (hc : c < 3) (C : CX X 1 RX7 cX7_lowIn 7) (k : AW X cX7_lowIn 7 106 [some (.inr (.inr 66)), some (.inl (m : Int)), some (.inl (w : Int)), some (.inl low), some (.inl c), some (.inl (ctl w c P)), some (.inl P)] [] S) : ∀ (r p : Nat), p + r = P → AW X cX7_lowIn 7 69 [some (.inr (.inr 66)), some (.inl (m : Int)), some (.inl (w : Int)), some (.inl low), some (.inl c), some (.inl (sm (fun p => if (dgl w (P - 1 - p) : Int) = (c : Int) then 1 else 0) p)), some (.inl p)] [] S := by
  obtain ⟨e1, e2, e3, e4, e5, e6, e7, e8⟩ := id E
  intro r
  induction r with
  | zero =>
    intro p hpr
    obtain rfl : p = P := by omega
    refine aw_ildw (n := 71) C dX7_lowIn_69 rfl rfl ?_
    refine aw_aldn (n := 72) C dX7_lowIn_71 rfl rfl ?_
    refine aw_getI (z := 6) (n := 75) C dX7_lowIn_72 rfl fl_X7_81 rfl rfl rfl ?_
    refine aw_icge (tgt := 106) (n := 78) C dX7_lowIn_75 rfl rfl (by omega) (by omega) (fun h_75 => ?_) (fun h_75 => ?_)
    · rw [rev_ctl e4.2]
      exact k
    · omega
  | succ r ih =>
    intro p hpr
    have hs := sm_r (f := fun p : Nat => if (dgl w (P - 1 - p) : Int) = (c : Int) then (1 : Int) else 0) (a := 1) (n := p) (fun k _ => by split <;> omega)
    have d1 := dgl_lt w (P - 1 - p)
    refine aw_ildw (n := 71) C dX7_lowIn_69 rfl rfl ?_
    refine aw_aldn (n := 72) C dX7_lowIn_71 rfl rfl ?_
    refine aw_getI (z := 6) (n := 75) C dX7_lowIn_72 rfl fl_X7_81 rfl rfl rfl ?_
    refine aw_icge (tgt := 106) (n := 78) C dX7_lowIn_75 rfl rfl (by omega) (by omega) (fun h_75 => ?_) (fun h_75 => ?_)
    · omega
    · refine aw_ildw (n := 80) C dX7_lowIn_78 rfl rfl ?_
      refine aw_aldn (n := 81) C dX7_lowIn_80 rfl rfl ?_
      refine aw_ildn (n := 82) C dX7_lowIn_81 rfl rfl ?_
      refine aw_ildw (n := 84) C dX7_lowIn_82 rfl rfl ?_
      refine aw_cVi (n := 87) (vs := [_, _]) C dX7_lowIn_84 rfl rfl rfl mm_X7_place wM_X7_189 rfl rfl (Nat.le_of_ble_eq_true rfl) (d_place (w := w) (p := p) e5 e4.2 (by omega) hw) (by decide) (fun z_84 S_84 q_84 => ?_)
      rw [q_84.1, q_84.2]
      clear q_84 S_84 z_84
      refine aw_ildw (n := 89) C dX7_lowIn_87 rfl rfl ?_
      refine aw_icne (tgt := 96) (n := 92) C dX7_lowIn_89 rfl rfl (by omega) (by omega) (fun h_89 => ?_) (fun h_89 => ?_)
      · refine aw_iconst (n := 97) C dX7_lowIn_96 rfl ?_
        refine aw_iadd (n := 98) C dX7_lowIn_97 rfl ?_
        refine aw_istw (n := 100) (L' := [_, _, _, _, _, _, _]) C dX7_lowIn_98 rfl (by decide) rfl rfl ?_
        refine aw_iinc (n := 103) (L' := [_, _, _, _, _, _, _]) C dX7_lowIn_100 rfl rfl (by decide) rfl rfl ?_
        refine aw_goto (tgt := 69) C dX7_lowIn_103 rfl ?_
        have := ih (p + 1) (by omega)
        rw [sm_s] at this
        first | (rw [if_pos h_89] at this; exact this) | (rw [if_neg h_89] at this; exact this)
      · refine aw_iconst (n := 93) C dX7_lowIn_92 rfl ?_
        refine aw_goto (tgt := 97) C dX7_lowIn_93 rfl ?_
        refine aw_iadd (n := 98) C dX7_lowIn_97 rfl ?_
        refine aw_istw (n := 100) (L' := [_, _, _, _, _, _, _]) C dX7_lowIn_98 rfl (by decide) rfl rfl ?_
        refine aw_iinc (n := 103) (L' := [_, _, _, _, _, _, _]) C dX7_lowIn_100 rfl rfl (by decide) rfl rfl ?_
        refine aw_goto (tgt := 69) C dX7_lowIn_103 rfl ?_
        have := ih (p + 1) (by omega)
        rw [sm_s] at this
        first | (rw [if_pos h_89] at this; exact this) | (rw [if_neg h_89] at this; exact this)
theorem d_low_2 {post : Int → Mem → Prop} {du : Int → Int → Int} {m w : Nat} {low : Int} (E : EM S M P du) (hw : w < 81) (C : CX X 1 RX7 cX7_lowIn 7) (hret : ∀ (pc : Nat) (L : List (Option AV)) (z : Int) (S' : Mem), decode cX7_lowIn pc = .ok (.ireturn, 1) → ((some FieldType.int) = some .int ∨ ((some FieldType.int) = some .boolean ∧ (z = 0 ∨ z = 1))) → post z S' → AW X cX7_lowIn 7 pc L [.inl z] S') (hno : ¬ (∀ c, 0 ≤ c → c < 3 → ctl w c P ≤ S 70 c) → post (-9) S) (hyes : (∀ c, 0 ≤ c → c < 3 → ctl w c P ≤ S 70 c) → post low S) : ∀ (r c : Nat) (x y : Option AV), c + r = 3 → (∀ d, 0 ≤ d → d < (c : Int) → ctl w d P ≤ S 70 d) → AW X cX7_lowIn 7 57 [some (.inr (.inr 66)), some (.inl (m : Int)), some (.inl (w : Int)), some (.inl low), some (.inl c), x, y] [] S := by
  obtain ⟨e1, e2, e3, e4, e5, e6, e7, e8⟩ := id E
  intro r
  induction r with
  | zero =>
    intro c x y hcr hv
    refine aw_ildw (n := 59) C dX7_lowIn_57 rfl rfl ?_
    refine aw_iconst (n := 60) C dX7_lowIn_59 rfl ?_
    refine aw_icge (tgt := 127) (n := 63) C dX7_lowIn_60 rfl rfl (by omega) (by omega) (fun h_60 => ?_) (fun h_60 => ?_)
    · refine aw_ildn (n := 128) C dX7_lowIn_127 rfl rfl ?_
      refine hret 128 _ _ _ dX7_lowIn_128 (Or.inl rfl) ?_
      exact hyes (fun d d0 d1 => hv d d0 (by omega))
    · omega
  | succ r ih =>
    intro c x y hcr hv
    have hse := e7 c (by omega) (by omega)
    have hct := ctl_r w c P
    have k106 : AW X cX7_lowIn 7 106 [some (.inr (.inr 66)), some (.inl (m : Int)), some (.inl (w : Int)), some (.inl low), some (.inl c), some (.inl (ctl w c P)), some (.inl P)] [] S := by
      refine aw_ildw (n := 108) C dX7_lowIn_106 rfl rfl ?_
      refine aw_aldn (n := 109) C dX7_lowIn_108 rfl rfl ?_
      refine aw_getR (n := 112) C dX7_lowIn_109 rfl fl_X7_19 rfl rfl ?_
      refine aw_ildw (n := 114) C dX7_lowIn_112 rfl rfl ?_
      refine aw_iald (n := 115) C dX7_lowIn_114 rfl rfl (by omega) (by omega) ?_
      refine aw_icle (tgt := 121) (n := 118) C dX7_lowIn_115 rfl rfl (by omega) (by omega) (fun h_115 => ?_) (fun h_115 => ?_)
      · refine aw_iinc (n := 124) (L' := [_, _, _, _, _, _, _]) C dX7_lowIn_121 rfl rfl (by decide) rfl rfl ?_
        refine aw_goto (tgt := 57) C dX7_lowIn_124 rfl ?_
        refine ih (c + 1) _ _ (by omega) (fun d d0 d1 => ?_)
        by_cases e : d = c
        · rw [e]; omega
        · exact hv d d0 (by omega)
      · refine aw_bipush (n := 120) C dX7_lowIn_118 rfl rfl ?_
        refine hret 120 _ _ _ dX7_lowIn_120 (Or.inl rfl) ?_
        exact hno (fun h => by have := h c (by omega) (by omega); omega)
    refine aw_ildw (n := 59) C dX7_lowIn_57 rfl rfl ?_
    refine aw_iconst (n := 60) C dX7_lowIn_59 rfl ?_
    refine aw_icge (tgt := 127) (n := 63) C dX7_lowIn_60 rfl rfl (by omega) (by omega) (fun h_60 => ?_) (fun h_60 => ?_)
    · omega
    · refine aw_iconst (n := 64) C dX7_lowIn_63 rfl ?_
      refine aw_istw (n := 66) (L' := [_, _, _, _, _, _, _]) C dX7_lowIn_64 rfl (by decide) rfl rfl ?_
      refine aw_iconst (n := 67) C dX7_lowIn_66 rfl ?_
      refine aw_istw (n := 69) (L' := [_, _, _, _, _, _, _]) C dX7_lowIn_67 rfl (by decide) rfl rfl ?_
      exact d_low_c (post := fun _ _ => True) E hw (by omega) C k106 P 0 (by omega)
theorem d_lowIn {du : Int → Int → Int} {m w : Nat} (E : EM S M P du) (hm : m < M) (hw : w < 81) : AMi 1 yX7_lowIn cX7_lowIn 7 (some .int) [.inr (.inr 66), .inl (m : Int), .inl (w : Int)] S (fun z S' => z = sent (lwm P (S 70) du m w) ∧ S' = S) := by
  obtain ⟨e1, e2, e3, e4, e5, e6, e7, e8⟩ := id E
  have hsn : ∀ p : Nat, p < P → (dgl w (P - 1 - p) : Int) < du m p → sent (lwm P (S 70) du m w) = -9 := fun p hp hlt => by
    unfold lwm lwF
    rw [ifp_f (fun ho => ?_)]
    · rfl
    · have : du m ((P : Int) - 1 - ((P - 1 - p : Nat) : Int)) ≤ (dgl w (P - 1 - p) : Int) := ho.1 (P - 1 - p) (by omega)
      rw [show (P : Int) - 1 - ((P - 1 - p : Nat) : Int) = (p : Int) by omega] at this
      omega
  have L1 : ∀ {X : AMX} (C : CX X 1 RX7 cX7_lowIn 7) (hret : ∀ (pc : Nat) (L : List (Option AV)) (z : Int) (S' : Mem), decode cX7_lowIn pc = .ok (.ireturn, 1) → ((some FieldType.int) = some .int ∨ ((some FieldType.int) = some .boolean ∧ (z = 0 ∨ z = 1))) → (z = sent (lwm P (S 70) du m w) ∧ S' = S) → AW X cX7_lowIn 7 pc L [.inl z] S'), ∀ (r p : Nat) (x : Option AV), p + r = P → (∀ q : Nat, q < p → du m q ≤ (dgl w (P - 1 - q) : Int)) → AW X cX7_lowIn 7 5 [some (.inr (.inr 66)), some (.inl (m : Int)), some (.inl (w : Int)), some (.inl (sm (fun p => (dgl w (P - 1 - p) : Int) - du m p) p)), some (.inl p), x, none] [] S := by
    intro X C hret r
    induction r with
    | zero =>
      intro p x hpr hv
      obtain rfl : p = P := by omega
      have hv2 : ∀ j, j < p → (fun j : Nat => du m ((p : Int) - 1 - j)) j ≤ (dgl w j : Int) := fun j hj => by
        have := hv (p - 1 - j) (by omega)
        rw [show p - 1 - (p - 1 - j) = j by omega, show ((p - 1 - j : Nat) : Int) = (p : Int) - 1 - j by omega] at this
        exact this
      have hlr := lws_r (w := w) (f := fun j => du m ((p : Int) - 1 - j)) (fun j => e8 _ _) p hv2
      rw [rev_lws e4.2]
      refine aw_ildw (n := 7) C dX7_lowIn_5 rfl rfl ?_
      refine aw_aldn (n := 8) C dX7_lowIn_7 rfl rfl ?_
      refine aw_getI (z := 6) (n := 11) C dX7_lowIn_8 rfl fl_X7_81 rfl rfl rfl ?_
      refine aw_icge (tgt := 54) (n := 14) C dX7_lowIn_11 rfl rfl (by omega) (by omega) (fun h_11 => ?_) (fun h_11 => ?_)
      · refine aw_iconst (n := 55) C dX7_lowIn_54 rfl ?_
        refine aw_istw (n := 57) (L' := [_, _, _, _, _, _, _]) C dX7_lowIn_55 rfl (by decide) rfl rfl ?_
        refine d_low_2 (post := fun z S' => z = sent (lwm p (S 70) du m w) ∧ S' = S) E hw C hret (fun hno => ⟨?_, rfl⟩) (fun hy => ⟨?_, rfl⟩) 3 0 _ _ rfl (fun d d0 d1 => by omega)
        · unfold lwm lwF
          rw [ifp_f (fun ho => hno ho.2)]
          rfl
        · unfold lwm lwF
          rw [ifp_t ⟨hv2, hy⟩]
          unfold sent
          rw [if_neg (by omega)]
      · omega
    | succ r ih =>
      intro p x hpr hv
      have hs := sm_r (f := fun p : Nat => (dgl w (P - 1 - p) : Int) - du m p) (a := 2) (n := p) (fun k hk => by have h1 := hv k hk; have h2 := e8 m k; have h3 := dgl_lt w (P - 1 - k); show 0 ≤ (dgl w (P - 1 - k) : Int) - du m k ∧ (dgl w (P - 1 - k) : Int) - du m k ≤ 2; omega)
      have d1 := dgl_lt w (P - 1 - p)
      have hdp := e6 m p hm (by omega)
      have hdr := e8 m p
      refine aw_ildw (n := 7) C dX7_lowIn_5 rfl rfl ?_
      refine aw_aldn (n := 8) C dX7_lowIn_7 rfl rfl ?_
      refine aw_getI (z := 6) (n := 11) C dX7_lowIn_8 rfl fl_X7_81 rfl rfl rfl ?_
      refine aw_icge (tgt := 54) (n := 14) C dX7_lowIn_11 rfl rfl (by omega) (by omega) (fun h_11 => ?_) (fun h_11 => ?_)
      · omega
      · refine aw_aldn (n := 15) C dX7_lowIn_14 rfl rfl ?_
        refine aw_ildn (n := 16) C dX7_lowIn_15 rfl rfl ?_
        refine aw_ildw (n := 18) C dX7_lowIn_16 rfl rfl ?_
        refine aw_cVi (n := 21) (vs := [_, _]) C dX7_lowIn_18 rfl rfl rfl mm_X7_place wM_X7_189 rfl rfl (Nat.le_of_ble_eq_true rfl) (d_place (w := w) (p := p) e5 e4.2 (by omega) hw) (by decide) (fun z_18 S_18 q_18 => ?_)
        rw [q_18.1, q_18.2]
        clear q_18 S_18 z_18
        refine aw_aldn (n := 22) C dX7_lowIn_21 rfl rfl ?_
        refine aw_getR (n := 25) C dX7_lowIn_22 rfl fl_X7_53 rfl rfl ?_
        refine aw_iconst (n := 26) C dX7_lowIn_25 rfl ?_
        refine aw_ildn (n := 27) C dX7_lowIn_26 rfl rfl ?_
        refine aw_imul (n := 28) C dX7_lowIn_27 rfl ?_
        refine aw_ildw (n := 30) C dX7_lowIn_28 rfl rfl ?_
        refine aw_iadd (n := 31) C dX7_lowIn_30 rfl ?_
        refine aw_iald (n := 32) C dX7_lowIn_31 rfl rfl (by omega) (by omega) ?_
        rw [hdp]
        refine aw_isub (n := 33) C dX7_lowIn_32 rfl ?_
        refine aw_istw (n := 35) (L' := [_, _, _, _, _, _, _]) C dX7_lowIn_33 rfl (by decide) rfl rfl ?_
        refine aw_ildw (n := 37) C dX7_lowIn_35 rfl rfl ?_
        refine aw_ifge (tgt := 43) (n := 40) C dX7_lowIn_37 rfl rfl (by omega) (fun h_37 => ?_) (fun h_37 => ?_)
        · refine aw_ildn (n := 44) C dX7_lowIn_43 rfl rfl ?_
          refine aw_ildw (n := 46) C dX7_lowIn_44 rfl rfl ?_
          refine aw_iadd (n := 47) C dX7_lowIn_46 rfl ?_
          refine aw_istn (n := 48) (L' := [_, _, _, _, _, _, _]) C dX7_lowIn_47 rfl (by decide) rfl rfl ?_
          refine aw_iinc (n := 51) (L' := [_, _, _, _, _, _, _]) C dX7_lowIn_48 rfl rfl (by decide) rfl rfl ?_
          refine aw_goto (tgt := 5) C dX7_lowIn_51 rfl ?_
          refine ih (p + 1) _ (by omega) (fun q hq => ?_)
          by_cases e : q = p
          · rw [e]; omega
          · exact hv q (by omega)
        · refine aw_bipush (n := 42) C dX7_lowIn_40 rfl rfl ?_
          refine hret 42 _ _ _ dX7_lowIn_42 (Or.inl rfl) ?_
          exact ⟨(hsn p (by omega) (by omega)).symm, rfl⟩
  refine ami_intro (L := [_, _, _, none, none, none, none]) (by decide) (Or.inl rfl) rfl (Nat.le_of_ble_eq_true rfl) (fun X C hret => ?_)
  refine aw_iconst (n := 1) C dX7_lowIn_0 rfl ?_
  refine aw_istn (n := 2) (L' := [_, _, _, _, _, _, _]) C dX7_lowIn_1 rfl (by decide) rfl rfl ?_
  refine aw_iconst (n := 3) C dX7_lowIn_2 rfl ?_
  refine aw_istw (n := 5) (L' := [_, _, _, _, _, _, _]) C dX7_lowIn_3 rfl (by decide) rfl rfl ?_
  exact L1 C hret P 0 _ (by omega) (fun q hq => absurd hq (by omega))
end MEA
