/-! Readings; Seating -/
theorem c_keep {S : Mem} {p m c : Int} (h : 0 ≤ S 46 3 ∧ S 46 3 < 8) : AMi 0 yX1_keep cX1_keep 4 (some .int) [.inr (.inr 46), .inl p, .inl m, .inl c] S (fun z S' => z = S 46 3 ∧ S' = st2 (st2 (st2 (st2 S 47 (S 46 3) p) 48 (S 46 3) m) 49 (S 46 3) c) 46 3 (S 46 3 + 1)) := by
  refine ami_intro (L := [_, _, _, _]) (by decide) (Or.inl rfl) rfl (Nat.le_of_ble_eq_true rfl) (fun X C hret => ?_)
  refine aw_aldn (n := 1) C dX1_keep_0 rfl rfl ?_
  refine aw_getR (n := 4) C dX1_keep_1 rfl fl_X1_9 rfl rfl ?_
  refine aw_aldn (n := 5) C dX1_keep_4 rfl rfl ?_
  refine aw_getI (z := 3) (n := 8) C dX1_keep_5 rfl fl_X1_21 rfl rfl rfl ?_
  refine aw_ildn (n := 9) C dX1_keep_8 rfl rfl ?_
  skip
  refine aw_iast (n := 10) C dX1_keep_9 rfl rfl (by omega) (by omega) ?_
  refine aw_aldn (n := 11) C dX1_keep_10 rfl rfl ?_
  refine aw_getR (n := 14) C dX1_keep_11 rfl fl_X1_15 rfl rfl ?_
  refine aw_aldn (n := 15) C dX1_keep_14 rfl rfl ?_
  refine aw_getI (z := 3) (n := 18) C dX1_keep_15 rfl fl_X1_21 rfl rfl rfl ?_
  rw [show st2 S 47 (S 46 3) p 46 3 = S 46 3 from rfl]
  refine aw_ildn (n := 19) C dX1_keep_18 rfl rfl ?_
  refine aw_iast (n := 20) C dX1_keep_19 rfl rfl (by omega) (by omega) ?_
  refine aw_aldn (n := 21) C dX1_keep_20 rfl rfl ?_
  refine aw_getR (n := 24) C dX1_keep_21 rfl fl_X1_18 rfl rfl ?_
  refine aw_aldn (n := 25) C dX1_keep_24 rfl rfl ?_
  refine aw_getI (z := 3) (n := 28) C dX1_keep_25 rfl fl_X1_21 rfl rfl rfl ?_
  rw [show st2 (st2 S 47 (S 46 3) p) 48 (S 46 3) m 46 3 = S 46 3 from rfl]
  refine aw_ildn (n := 29) C dX1_keep_28 rfl rfl ?_
  refine aw_iast (n := 30) C dX1_keep_29 rfl rfl (by omega) (by omega) ?_
  refine aw_aldn (n := 31) C dX1_keep_30 rfl rfl ?_
  refine aw_dup (n := 32) C dX1_keep_31 rfl rfl ?_
  refine aw_getI (z := 3) (n := 35) C dX1_keep_32 rfl fl_X1_21 rfl rfl rfl ?_
  rw [show st2 (st2 (st2 S 47 (S 46 3) p) 48 (S 46 3) m) 49 (S 46 3) c 46 3 = S 46 3 from rfl]
  refine aw_iconst (n := 36) C dX1_keep_35 rfl ?_
  refine aw_iadd (n := 37) C dX1_keep_36 rfl ?_
  refine aw_put (z := 3) (n := 40) C dX1_keep_37 rfl fp_X1_21 rfl rfl rfl (Or.inl rfl) ?_
  refine aw_aldn (n := 41) C dX1_keep_40 rfl rfl ?_
  refine aw_getI (z := 3) (n := 44) C dX1_keep_41 rfl fl_X1_21 rfl rfl rfl ?_
  refine aw_iconst (n := 45) C dX1_keep_44 rfl ?_
  refine aw_isub (n := 46) C dX1_keep_45 rfl ?_
  refine hret 46 _ _ _ dX1_keep_46 (Or.inl rfl) ?_
  exact ⟨by rw [st2_s]; omega, rfl⟩
/-- all readings are so on the guess -/
def soG (S : Mem) (n : Int) : Prop := ∀ k, 0 ≤ k → k < n → due (S 28 10) (S 28 11) (S (37 + (S 48 k).toNat) (S 47 k)) = S 49 k
theorem c_areSo_loop {X : AMX} {S : Mem} {post : Int → Mem → Prop} (T : TW 28 S) (hn : 0 ≤ S 46 3 ∧ S 46 3 ≤ 8) (hq : ∀ k, 0 ≤ k → k < S 46 3 → (0 ≤ S 47 k ∧ S 47 k < S 28 9) ∧ (0 ≤ S 48 k ∧ S 48 k ≤ S 28 8) ∧ (0 ≤ S 49 k ∧ S 49 k ≤ 2)) (hr : ∀ m : Nat, (m : Int) ≤ S 28 8 → ∀ p, 0 ≤ p → p < S 28 9 → 0 ≤ S (37 + m) p ∧ S (37 + m) p ≤ 99) (C : CX X 1 RX1 cX1_areSo 3) (hret : ∀ (pc : Nat) (L : List (Option AV)) (z : Int) (S' : Mem), decode cX1_areSo pc = .ok (.ireturn, 1) → ((some FieldType.boolean) = some .int ∨ ((some FieldType.boolean) = some .boolean ∧ (z = 0 ∨ z = 1))) → post z S' → AW X cX1_areSo 3 pc L [.inl z] S') (hp : ∀ z, (z = 0 ∨ z = 1) → (z = 1 ↔ soG S (S 46 3)) → post z S) : ∀ (n i : Nat), (i : Int) + n = S 46 3 → soG S i → AW X cX1_areSo 3 2 [some (.inr (.inr 46)), some (.inr (.inr 28)), some (.inl i)] [] S := by
  obtain ⟨t1, t2, t3, t4, -, -⟩ := TW28 T
  intro n
  induction n with
  | zero =>
    intro i hi hs
    refine aw_ildn (n := 3) C dX1_areSo_2 rfl rfl ?_
    refine aw_aldn (n := 4) C dX1_areSo_3 rfl rfl ?_
    refine aw_getI (z := 3) (n := 7) C dX1_areSo_4 rfl fl_X1_21 rfl rfl rfl ?_
    refine aw_icge (tgt := 43) (n := 10) C dX1_areSo_7 rfl rfl (by omega) (by omega) (fun h_7 => ?_) (fun h_7 => ?_)
    · refine aw_iconst (n := 44) C dX1_areSo_43 rfl ?_
      refine hret 44 _ _ _ dX1_areSo_44 (Or.inr ⟨rfl, by omega⟩) ?_
      exact hp 1 (Or.inr rfl) ⟨fun _ => by rw [← show (i : Int) = S 46 3 by omega]; exact hs, fun _ => rfl⟩
    · omega
  | succ n ih =>
    intro i hi hs
    obtain ⟨q1, q2, q3⟩ := hq i (by omega) (by omega)
    obtain ⟨w, hw⟩ : ∃ w : Nat, S 48 i = w := ⟨(S 48 i).toNat, by omega⟩
    have hrw := hr w (by omega) (S 47 i) (by omega) (by omega)
    have hd := due_r (S 28 10) (S 28 11) (S (37 + w) (S 47 i))
    refine aw_ildn (n := 3) C dX1_areSo_2 rfl rfl ?_
    refine aw_aldn (n := 4) C dX1_areSo_3 rfl rfl ?_
    refine aw_getI (z := 3) (n := 7) C dX1_areSo_4 rfl fl_X1_21 rfl rfl rfl ?_
    refine aw_icge (tgt := 43) (n := 10) C dX1_areSo_7 rfl rfl (by omega) (by omega) (fun h_7 => ?_) (fun h_7 => ?_)
    · omega
    · refine aw_aldn (n := 11) C dX1_areSo_10 rfl rfl ?_
      refine aw_aldn (n := 12) C dX1_areSo_11 rfl rfl ?_
      refine aw_getR (n := 15) C dX1_areSo_12 rfl fl_X1_9 rfl rfl ?_
      refine aw_ildn (n := 16) C dX1_areSo_15 rfl rfl ?_
      refine aw_iald (n := 17) C dX1_areSo_16 rfl rfl (by omega) (by omega) ?_
      refine aw_aldn (n := 18) C dX1_areSo_17 rfl rfl ?_
      refine aw_getR (n := 21) C dX1_areSo_18 rfl fl_X1_15 rfl rfl ?_
      refine aw_ildn (n := 22) C dX1_areSo_21 rfl rfl ?_
      refine aw_iald (n := 23) C dX1_areSo_22 rfl rfl (by omega) (by omega) ?_
      rw [hw]
      refine aw_cVi (n := 26) (vs := [_, _]) C dX1_areSo_23 rfl rfl rfl mm_X5_classDue wM_X1_25 rfl rfl (Nat.le_of_ble_eq_true rfl) (c_classDue28 (m := w) (by omega) (by omega) (by omega) (by omega) (by omega) (by omega)) (by decide) (fun z_23 S_23 q_23 => ?_)
      rw [q_23.1, q_23.2]
      clear q_23 S_23 z_23
      refine aw_aldn (n := 27) C dX1_areSo_26 rfl rfl ?_
      refine aw_getR (n := 30) C dX1_areSo_27 rfl fl_X1_18 rfl rfl ?_
      refine aw_ildn (n := 31) C dX1_areSo_30 rfl rfl ?_
      refine aw_iald (n := 32) C dX1_areSo_31 rfl rfl (by omega) (by omega) ?_
      refine aw_iceq (tgt := 37) (n := 35) C dX1_areSo_32 rfl rfl (by omega) (by omega) (fun h_32 => ?_) (fun h_32 => ?_)
      · refine aw_iinc (n := 40) (L' := [_, _, _]) C dX1_areSo_37 rfl rfl (by decide) rfl rfl ?_
        refine aw_goto (tgt := 2) C dX1_areSo_40 rfl ?_
        refine ih (i + 1) (by omega) (fun k k0 k1 => ?_)
        by_cases e : k = (i : Int)
        · rw [e, hw, Int.toNat_natCast]
          exact h_32
        · exact hs k k0 (by omega)
      · refine aw_iconst (n := 36) C dX1_areSo_35 rfl ?_
        refine hret 36 _ _ _ dX1_areSo_36 (Or.inr ⟨rfl, by omega⟩) ?_
        refine hp 0 (Or.inl rfl) ⟨fun h => by omega, fun h => ?_⟩
        have := h i (by omega) (by omega)
        rw [hw, Int.toNat_natCast] at this
        exact absurd this h_32
theorem c_areSo {S : Mem} (T : TW 28 S) (hn : 0 ≤ S 46 3 ∧ S 46 3 ≤ 8) (hq : ∀ k, 0 ≤ k → k < S 46 3 → (0 ≤ S 47 k ∧ S 47 k < S 28 9) ∧ (0 ≤ S 48 k ∧ S 48 k ≤ S 28 8) ∧ (0 ≤ S 49 k ∧ S 49 k ≤ 2)) (hr : ∀ m : Nat, (m : Int) ≤ S 28 8 → ∀ p, 0 ≤ p → p < S 28 9 → 0 ≤ S (37 + m) p ∧ S (37 + m) p ≤ 99) : AMi 1 yX1_areSo cX1_areSo 3 (some .boolean) [.inr (.inr 46), .inr (.inr 28)] S (fun z S' => ((z = 0 ∨ z = 1) ∧ (z = 1 ↔ soG S (S 46 3))) ∧ S' = S) := by
  refine ami_intro (L := [_, _, none]) (by decide) (Or.inr rfl) rfl (Nat.le_of_ble_eq_true rfl) (fun X C hret => ?_)
  refine aw_iconst (n := 1) C dX1_areSo_0 rfl ?_
  refine aw_istn (n := 2) (L' := [_, _, _]) C dX1_areSo_1 rfl (by decide) rfl rfl ?_
  exact c_areSo_loop T hn hq hr C hret (fun z h1 h2 => ⟨⟨h1, h2⟩, rfl⟩) (S 46 3).toNat 0 (by omega) (fun k k0 k1 => by omega)
theorem c_noClass {S : Mem} {c : Int} (h : rng c) : AMi 0 yX6_noClass cX6_noClass 1 (some .boolean) [.inl c] S (fun z S' => z = (if c < 0 ∨ 3 ≤ c then 1 else 0) ∧ S' = S) := by
  refine ami_intro (L := [_]) (by decide) (Or.inr rfl) rfl (Nat.le_of_ble_eq_true rfl) (fun X C hret => ?_)
  refine aw_ildn (n := 1) C dX6_noClass_0 rfl rfl ?_
  refine aw_iflt (tgt := 9) (n := 4) C dX6_noClass_1 rfl rfl (by omega) (fun h_1 => ?_) (fun h_1 => ?_)
  · refine aw_iconst (n := 10) C dX6_noClass_9 rfl ?_
    refine aw_goto (tgt := 14) C dX6_noClass_10 rfl ?_
    refine hret 14 _ _ _ dX6_noClass_14 (Or.inr ⟨rfl, by omega⟩) ?_
    exact ⟨by omega, rfl⟩
  · refine aw_ildn (n := 5) C dX6_noClass_4 rfl rfl ?_
    refine aw_iconst (n := 6) C dX6_noClass_5 rfl ?_
    refine aw_iclt (tgt := 13) (n := 9) C dX6_noClass_6 rfl rfl (by omega) (by omega) (fun h_6 => ?_) (fun h_6 => ?_)
    · refine aw_iconst (n := 14) C dX6_noClass_13 rfl ?_
      refine hret 14 _ _ _ dX6_noClass_14 (Or.inr ⟨rfl, by omega⟩) ?_
      exact ⟨by omega, rfl⟩
    · refine aw_iconst (n := 10) C dX6_noClass_9 rfl ?_
      refine aw_goto (tgt := 14) C dX6_noClass_10 rfl ?_
      refine hret 14 _ _ _ dX6_noClass_14 (Or.inr ⟨rfl, by omega⟩) ?_
      exact ⟨by omega, rfl⟩
/-- a place in a seating's row -/
theorem ix_in {m p M P : Int} (m0 : 0 ≤ m) (m1 : m < M) (M8 : M ≤ 8) (p0 : 0 ≤ p) (p1 : p < P) (P4 : P ≤ 4) : 0 ≤ m * P + p ∧ m * P + p < M * P ∧ M * P ≤ 32 ∧ m * P + p < 32 := by
  rcases (show P = 1 ∨ P = 2 ∨ P = 3 ∨ P = 4 by omega) with rfl | rfl | rfl | rfl <;> omega
theorem mp_in {M P : Int} (m0 : 0 ≤ M) (M8 : M ≤ 8) (p0 : 0 ≤ P) (P4 : P ≤ 4) : 0 ≤ M * P ∧ M * P ≤ 32 := by
  rcases (show P = 0 ∨ P = 1 ∨ P = 2 ∨ P = 3 ∨ P = 4 by omega) with rfl | rfl | rfl | rfl | rfl <;> omega
theorem c_readFrom_loop {X : AMX} {S : Mem} {k : Nat} {i : Int} {post : Int → Mem → Prop} (hk : k < 4) (h8 : 0 ≤ S 10 8 ∧ S 10 8 ≤ 8) (h9 : 0 ≤ S 10 9 ∧ S 10 9 ≤ 4) (hi : 0 ≤ i) (hin : i + S 10 8 * S 10 9 ≤ 60) (hc : ∀ j, rng (S (6 + k) j)) (C : CX X 1 RX2 cX2_readFrom 5) (hret : ∀ (pc : Nat) (L : List (Option AV)) (z : Int) (S' : Mem), decode cX2_readFrom pc = .ok (.ireturn, 1) → ((some FieldType.boolean) = some .int ∨ ((some FieldType.boolean) = some .boolean ∧ (z = 0 ∨ z = 1))) → post z S' → AW X cX2_readFrom 5 pc L [.inl z] S') (hp : ∀ z S', fr 51 52 S S' → (z = 0 ∨ z = 1) → (z = 1 ↔ ∀ j, 0 ≤ j → j < S 10 8 * S 10 9 → 0 ≤ S (6 + k) (i + j) ∧ S (6 + k) (i + j) < 3) → (z = 1 → ∀ j, 0 ≤ j → j < S 10 8 * S 10 9 → S' 51 j = S (6 + k) (i + j)) → post z S') : ∀ (n j : Nat) (S1 : Mem), (j : Int) + n = S 10 8 * S 10 9 → fr 51 52 S S1 → (∀ q : Int, 0 ≤ q → q < j → (0 ≤ S (6 + k) (i + q) ∧ S (6 + k) (i + q) < 3) ∧ S1 51 q = S (6 + k) (i + q)) → AW X cX2_readFrom 5 19 [some (.inr (.inr 50)), some (.inr (.inr (6 + k))), some (.inl i), some (.inl (S 10 8 * S 10 9)), some (.inl j)] [] S1 := by
  have hmp := mp_in h8.1 h8.2 h9.1 h9.2
  intro n
  induction n with
  | zero =>
    intro j S1 hj hf hv
    refine aw_ildw (n := 21) C dX2_readFrom_19 rfl rfl ?_
    refine aw_ildn (n := 22) C dX2_readFrom_21 rfl rfl ?_
    refine aw_icge (tgt := 58) (n := 25) C dX2_readFrom_22 rfl rfl (by omega) (by omega) (fun h_22 => ?_) (fun h_22 => ?_)
    · refine aw_iconst (n := 59) C dX2_readFrom_58 rfl ?_
      refine hret 59 _ _ _ dX2_readFrom_59 (Or.inr ⟨rfl, by omega⟩) ?_
      exact hp 1 S1 hf (Or.inr rfl) ⟨fun _ q q0 q1 => (hv q q0 (by omega)).1, fun _ => rfl⟩ (fun _ q q0 q1 => (hv q q0 (by omega)).2)
    · omega
  | succ n ih =>
    intro j S1 hj hf hv
    have hcj := hc (i + j)
    refine aw_ildw (n := 21) C dX2_readFrom_19 rfl rfl ?_
    refine aw_ildn (n := 22) C dX2_readFrom_21 rfl rfl ?_
    refine aw_icge (tgt := 58) (n := 25) C dX2_readFrom_22 rfl rfl (by omega) (by omega) (fun h_22 => ?_) (fun h_22 => ?_)
    · omega
    · refine aw_aldn (n := 26) C dX2_readFrom_25 rfl rfl ?_
      refine aw_ildn (n := 27) C dX2_readFrom_26 rfl rfl ?_
      refine aw_ildw (n := 29) C dX2_readFrom_27 rfl rfl ?_
      refine aw_iadd (n := 30) C dX2_readFrom_29 rfl ?_
      refine aw_iald (n := 31) C dX2_readFrom_30 rfl (sc hk) (by omega) (by omega) ?_
      rw [hf (6 + k) (by omega)]
      refine aw_cNest (n := 34) (vs := [_]) C dX2_readFrom_31 rfl rfl rfl mm_X6_noClass (Nat.le_of_ble_eq_true rfl) (c_noClass hcj) (by decide) (fun z_31 S_31 q_31 => ?_)
      rw [q_31.1, q_31.2]
      clear q_31 S_31 z_31
      refine aw_ifeq (tgt := 39) (n := 37) C dX2_readFrom_34 rfl rfl (by omega) (fun h_34 => ?_) (fun h_34 => ?_)
      · refine aw_aldn (n := 40) C dX2_readFrom_39 rfl rfl ?_
        refine aw_getR (n := 43) C dX2_readFrom_40 rfl fl_X2_9 rfl rfl ?_
        refine aw_ildw (n := 45) C dX2_readFrom_43 rfl rfl ?_
        refine aw_aldn (n := 46) C dX2_readFrom_45 rfl rfl ?_
        refine aw_ildn (n := 47) C dX2_readFrom_46 rfl rfl ?_
        refine aw_ildw (n := 49) C dX2_readFrom_47 rfl rfl ?_
        refine aw_iadd (n := 50) C dX2_readFrom_49 rfl ?_
        refine aw_iald (n := 51) C dX2_readFrom_50 rfl (sc hk) (by omega) (by omega) ?_
        rw [hf (6 + k) (by omega)]
        refine aw_iast (n := 52) C dX2_readFrom_51 rfl rfl (by omega) (by omega) ?_
        refine aw_iinc (n := 55) (L' := [_, _, _, _, _]) C dX2_readFrom_52 rfl rfl (by decide) rfl rfl ?_
        refine aw_goto (tgt := 19) C dX2_readFrom_55 rfl ?_
        refine ih (j + 1) _ (by omega) (fr_tr hf (fr_w (fr_st _ _ _ _) (by omega) (by omega))) (fun q q0 q1 => ?_)
        by_cases e : q = (j : Int)
        · rw [e, st2_s]
          exact ⟨by omega, rfl⟩
        · rw [st2_n e]
          exact hv q q0 (by omega)
      · refine aw_iconst (n := 38) C dX2_readFrom_37 rfl ?_
        refine hret 38 _ _ _ dX2_readFrom_38 (Or.inr ⟨rfl, by omega⟩) ?_
        refine hp 0 S1 hf (Or.inl rfl) ⟨fun h => by omega, fun h => ?_⟩ (fun h => by omega)
        have := h j (by omega) (by omega)
        omega
theorem c_readFrom {S : Mem} {k : Nat} {i : Int} (hk : k < 4) (h8 : 0 ≤ S 10 8 ∧ S 10 8 ≤ 8) (h9 : 0 ≤ S 10 9 ∧ S 10 9 ≤ 4) (hi : 0 ≤ i) (hin : i + S 10 8 * S 10 9 ≤ 60) (hc : ∀ j, rng (S (6 + k) j)) : AMi 1 yX2_readFrom cX2_readFrom 5 (some .boolean) [.inr (.inr 50), .inr (.inr (6 + k)), .inl i] S (fun z S' => fr 51 52 S S' ∧ (z = 0 ∨ z = 1) ∧ (z = 1 ↔ ∀ j, 0 ≤ j → j < S 10 8 * S 10 9 → 0 ≤ S (6 + k) (i + j) ∧ S (6 + k) (i + j) < 3) ∧ (z = 1 → ∀ j, 0 ≤ j → j < S 10 8 * S 10 9 → S' 51 j = S (6 + k) (i + j))) := by
  have hmp := mp_in h8.1 h8.2 h9.1 h9.2
  refine ami_intro (L := [_, _, _, none, none]) (by decide) (Or.inr rfl) rfl (Nat.le_of_ble_eq_true rfl) (fun X C hret => ?_)
  refine aw_aldn (n := 1) C dX2_readFrom_0 rfl rfl ?_
  refine aw_getR (n := 4) C dX2_readFrom_1 rfl fl_X2_18 rfl rfl ?_
  refine aw_getI (z := 8) (n := 7) C dX2_readFrom_4 rfl fl_X2_22 rfl rfl rfl ?_
  refine aw_aldn (n := 8) C dX2_readFrom_7 rfl rfl ?_
  refine aw_getR (n := 11) C dX2_readFrom_8 rfl fl_X2_18 rfl rfl ?_
  refine aw_getI (z := 9) (n := 14) C dX2_readFrom_11 rfl fl_X2_28 rfl rfl rfl ?_
  refine aw_imul (n := 15) C dX2_readFrom_14 rfl ?_
  refine aw_istn (n := 16) (L' := [_, _, _, _, _]) C dX2_readFrom_15 rfl (by decide) rfl rfl ?_
  refine aw_iconst (n := 17) C dX2_readFrom_16 rfl ?_
  refine aw_istw (n := 19) (L' := [_, _, _, _, _]) C dX2_readFrom_17 rfl (by decide) rfl rfl ?_
  exact c_readFrom_loop hk h8 h9 hi hin hc C hret (fun z S' a b c d => ⟨a, b, c, d⟩) (S 10 8 * S 10 9).toNat 0 S (by omega) (fr_rf _ _ _) (fun q q0 q1 => by omega)
theorem c_classOf {S : Mem} {p m : Int} (h8 : 0 ≤ S 10 8 ∧ S 10 8 ≤ 8) (h9 : 0 ≤ S 10 9 ∧ S 10 9 ≤ 4) (p0 : 0 ≤ p) (p1 : p < S 10 9) (m0 : 0 ≤ m) (m1 : m < S 10 8) : AMi 0 yX2_classOf cX2_classOf 3 (some .int) [.inr (.inr 50), .inl p, .inl m] S (fun z S' => z = S 51 (m * S 10 9 + p) ∧ S' = S) := by
  have hix := ix_in m0 m1 h8.2 p0 p1 h9.2
  refine ami_intro (L := [_, _, _]) (by decide) (Or.inl rfl) rfl (Nat.le_of_ble_eq_true rfl) (fun X C hret => ?_)
  refine aw_aldn (n := 1) C dX2_classOf_0 rfl rfl ?_
  refine aw_getR (n := 4) C dX2_classOf_1 rfl fl_X2_9 rfl rfl ?_
  refine aw_ildn (n := 5) C dX2_classOf_4 rfl rfl ?_
  refine aw_aldn (n := 6) C dX2_classOf_5 rfl rfl ?_
  refine aw_getR (n := 9) C dX2_classOf_6 rfl fl_X2_18 rfl rfl ?_
  refine aw_getI (z := 9) (n := 12) C dX2_classOf_9 rfl fl_X2_28 rfl rfl rfl ?_
  refine aw_imul (n := 13) C dX2_classOf_12 rfl ?_
  refine aw_ildn (n := 14) C dX2_classOf_13 rfl rfl ?_
  refine aw_iadd (n := 15) C dX2_classOf_14 rfl ?_
  refine aw_iald (n := 16) C dX2_classOf_15 rfl rfl (by omega) (by omega) ?_
  refine hret 16 _ _ _ dX2_classOf_16 (Or.inl rfl) ?_
  exact ⟨rfl, rfl⟩
