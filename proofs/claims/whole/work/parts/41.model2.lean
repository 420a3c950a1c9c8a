/-! the model: dues laid, seatings -/
section MSE
variable {X : AMX} {S : Mem} {M P : Nat} {b : Int}
theorem d_layDues_in {i : Nat} {S0 : Mem} (W : MW S) (h6 : S 66 6 = (P : Int)) (hi : i < 8) (hr : ∀ p, 0 ≤ p → p < S 66 6 → rng (S0 80 p)) (e66 : S0 66 = S 66) (C : CX X 2 RX7 cX7_layDues 3) (k : ∀ S1 : Mem, fr 81 82 S0 S1 → (∀ q : Nat, q < P → S1 81 (4 * (i : Int) + q) = due (S 66 7) (S 66 8) (S0 80 q)) → (∀ j : Int, j < 4 * (i : Int) → S1 81 j = S0 81 j) → AW X cX7_layDues 3 50 [some (.inr (.inr 66)), some (.inl i), some (.inl P)] [] S1) : ∀ (n p : Nat) (S1 : Mem), p + n = P → fr 81 82 S0 S1 → (∀ q : Nat, q < p → S1 81 (4 * (i : Int) + q) = due (S 66 7) (S 66 8) (S0 80 q)) → (∀ j : Int, j < 4 * (i : Int) → S1 81 j = S0 81 j) → AW X cX7_layDues 3 16 [some (.inr (.inr 66)), some (.inl i), some (.inl p)] [] S1 := by
  obtain ⟨t1, t2, t3, t4, t5, t6⟩ := id W
  intro n
  induction n with
  | zero =>
    intro p S1 hp hf hv ho
    obtain rfl : p = P := by omega
    have e6 : S1 66 6 = S 66 6 := by rw [hf 66 (by omega), e66]
    refine aw_ildn (n := 17) C dX7_layDues_16 rfl rfl ?_
    refine aw_aldn (n := 18) C dX7_layDues_17 rfl rfl ?_
    refine aw_getI (z := 6) (n := 21) C dX7_layDues_18 rfl fl_X7_81 rfl rfl rfl ?_
    refine aw_icge (tgt := 50) (n := 24) C dX7_layDues_21 rfl rfl (by omega) (by omega) (fun h_21 => ?_) (fun h_21 => ?_)
    · exact k S1 hf hv ho
    · omega
  | succ n ih =>
    intro p S1 hp hf hv ho
    have e6 : S1 66 6 = S 66 6 := by rw [hf 66 (by omega), e66]
    have e7 : S1 66 7 = S 66 7 := by rw [hf 66 (by omega), e66]
    have e8 : S1 66 8 = S 66 8 := by rw [hf 66 (by omega), e66]
    have hr1 := hr p (by omega) (by omega)
    refine aw_ildn (n := 17) C dX7_layDues_16 rfl rfl ?_
    refine aw_aldn (n := 18) C dX7_layDues_17 rfl rfl ?_
    refine aw_getI (z := 6) (n := 21) C dX7_layDues_18 rfl fl_X7_81 rfl rfl rfl ?_
    refine aw_icge (tgt := 50) (n := 24) C dX7_layDues_21 rfl rfl (by omega) (by omega) (fun h_21 => ?_) (fun h_21 => ?_)
    · omega
    · refine aw_aldn (n := 25) C dX7_layDues_24 rfl rfl ?_
      refine aw_getR (n := 28) C dX7_layDues_25 rfl fl_X7_53 rfl rfl ?_
      refine aw_iconst (n := 29) C dX7_layDues_28 rfl ?_
      refine aw_ildn (n := 30) C dX7_layDues_29 rfl rfl ?_
      refine aw_imul (n := 31) C dX7_layDues_30 rfl ?_
      refine aw_ildn (n := 32) C dX7_layDues_31 rfl rfl ?_
      refine aw_iadd (n := 33) C dX7_layDues_32 rfl ?_
      refine aw_aldn (n := 34) C dX7_layDues_33 rfl rfl ?_
      refine aw_aldn (n := 35) C dX7_layDues_34 rfl rfl ?_
      refine aw_getR (n := 38) C dX7_layDues_35 rfl fl_X7_50 rfl rfl ?_
      refine aw_ildn (n := 39) C dX7_layDues_38 rfl rfl ?_
      refine aw_iald (n := 40) C dX7_layDues_39 rfl rfl (by omega) (by omega) ?_
      rw [hf 80 (by omega)]
      refine aw_cVi (n := 43) (vs := [_]) C dX7_layDues_40 rfl rfl rfl mm_X7_dueBy wM_X7_165 rfl rfl (Nat.le_of_ble_eq_true rfl) (d_dueBy (r := S0 80 p) (by omega) (by omega) (by omega)) (by decide) (fun z_40 S_40 q_40 => ?_)
      rw [q_40.1, q_40.2]
      clear q_40 S_40 z_40
      rw [e7, e8]
      refine aw_iast (n := 44) C dX7_layDues_43 rfl rfl (by omega) (by omega) ?_
      refine aw_iinc (n := 47) (L' := [_, _, _]) C dX7_layDues_44 rfl rfl (by decide) rfl rfl ?_
      refine aw_goto (tgt := 16) C dX7_layDues_47 rfl ?_
      refine ih (p + 1) _ (by omega) (fr_tr hf (fr_w (fr_st _ _ _ _) (by omega) (by omega))) (fun q hq => ?_) (fun j hj => ?_)
      · by_cases h : q = p
        · rw [h, st2_s]
        · rw [st2_n (by omega)]; exact hv q (by omega)
      · rw [st2_n (by omega)]; exact ho j hj
theorem d_layDues_loop {post : Mem → Prop} (W : MW S) (h5 : S 66 5 = (M : Int)) (h6 : S 66 6 = (P : Int)) (C : CX X 2 RX7 cX7_layDues 3) (hret : ∀ (pc : Nat) (L : List (Option AV)) (S' : Mem), decode cX7_layDues pc = .ok (.return_, 1) → post S' → AW X cX7_layDues 3 pc L [] S') (hp : ∀ S', fr 80 82 S S' → (∀ m q : Nat, m < M → q < P → S' 81 (4 * (m : Int) + q) = due (S 66 7) (S 66 8) (RM S m q)) → post S') : ∀ (n i : Nat) (S1 : Mem) (x : Option AV), i + n = M → fr 80 82 S S1 → (∀ p, 0 ≤ p → p < S 66 6 → S1 80 p = RM S i p) → (∀ m q : Nat, m < i → q < P → S1 81 (4 * (m : Int) + q) = due (S 66 7) (S 66 8) (RM S m q)) → AW X cX7_layDues 3 6 [some (.inr (.inr 66)), some (.inl i), x] [] S1 := by
  obtain ⟨t1, t2, t3, t4, t5, t6⟩ := id W
  intro n
  induction n with
  | zero =>
    intro i S1 x hi hf hv ho
    obtain rfl : i = M := by omega
    have e5 : S1 66 5 = S 66 5 := by rw [hf 66 (by omega)]
    refine aw_ildn (n := 7) C dX7_layDues_6 rfl rfl ?_
    refine aw_aldn (n := 8) C dX7_layDues_7 rfl rfl ?_
    refine aw_getI (z := 5) (n := 11) C dX7_layDues_8 rfl fl_X7_84 rfl rfl rfl ?_
    refine aw_icge (tgt := 67) (n := 14) C dX7_layDues_11 rfl rfl (by omega) (by omega) (fun h_11 => ?_) (fun h_11 => ?_)
    · refine hret 67 _ _ dX7_layDues_67 ?_
      exact hp S1 hf ho
    · omega
  | succ n ih =>
    intro i S1 x hi hf hv ho
    have e66 := hf 66 (by omega)
    have e5 : S1 66 5 = S 66 5 := by rw [e66]
    have ht := (t5 i (by omega) (by omega)).1
    have k50 : ∀ S2 : Mem, fr 81 82 S1 S2 → (∀ q : Nat, q < P → S2 81 (4 * (i : Int) + q) = due (S 66 7) (S 66 8) (S1 80 q)) → (∀ j : Int, j < 4 * (i : Int) → S2 81 j = S1 81 j) → AW X cX7_layDues 3 50 [some (.inr (.inr 66)), some (.inl i), some (.inl P)] [] S2 := by
      intro S2 hf2 hv2 ho2
      have hff : fr 80 82 S S2 := fr_tr hf (fr_w hf2 (by omega) (by omega))
      have W2 := MW_fr W hff (by omega)
      have f66 := hff 66 (by omega)
      have hv80 : ∀ p, 0 ≤ p → p < S 66 6 → S2 80 p = RM S i p := fun p p0 p1 => by rw [hf2 80 (by omega)]; exact hv p p0 p1
      refine aw_aldn (n := 51) C dX7_layDues_50 rfl rfl ?_
      refine aw_ildn (n := 52) C dX7_layDues_51 rfl rfl ?_
      refine aw_aldn (n := 53) C dX7_layDues_52 rfl rfl ?_
      refine aw_getR (n := 56) C dX7_layDues_53 rfl fl_X7_22 rfl rfl ?_
      refine aw_ildn (n := 57) C dX7_layDues_56 rfl rfl ?_
      refine aw_zald (n := 58) C dX7_layDues_57 rfl rfl (by omega) (by omega) ?_
      rw [hff 71 (by omega)]
      refine aw_cVv (n := 61) (vs := [_, _]) C dX7_layDues_58 rfl rfl rfl mm_X7_goMile wM_X7_153 rfl rfl (Nat.le_of_ble_eq_true rfl) (d_goMile (m := i) W2 (by rw [f66]; omega) ht (fun p p0 p1 => by rw [f66] at p1; rw [hv80 p p0 p1]; exact RM_r W i p p0 p1)) (by decide) (fun S_58 q_58 => ?_)
      obtain ⟨g1, g2⟩ := q_58
      rw [f66, hff 74 (by omega), hff 76 (by omega), hff 72 (by omega), hff 73 (by omega)] at g2
      refine aw_iinc (n := 64) (L' := [_, _, _]) C dX7_layDues_61 rfl rfl (by decide) rfl rfl ?_
      refine aw_goto (tgt := 6) C dX7_layDues_64 rfl ?_
      refine ih (i + 1) _ _ (by omega) (fr_tr hff (fr_w g1 (by omega) (by omega))) (fun p p0 p1 => by rw [g2 p p0 p1]; exact RM_next W (by omega) hv80 p p0 p1) (fun m q hm hq => ?_)
      rw [g1 81 (by omega)]
      by_cases h : m = i
      · rw [h, hv2 q hq, hv q (by omega) (by omega)]
      · rw [ho2 _ (by omega)]; exact ho m q (by omega) hq
    refine aw_ildn (n := 7) C dX7_layDues_6 rfl rfl ?_
    refine aw_aldn (n := 8) C dX7_layDues_7 rfl rfl ?_
    refine aw_getI (z := 5) (n := 11) C dX7_layDues_8 rfl fl_X7_84 rfl rfl rfl ?_
    refine aw_icge (tgt := 67) (n := 14) C dX7_layDues_11 rfl rfl (by omega) (by omega) (fun h_11 => ?_) (fun h_11 => ?_)
    · omega
    · refine aw_iconst (n := 15) C dX7_layDues_14 rfl ?_
      refine aw_istn (n := 16) (L' := [_, _, _]) C dX7_layDues_15 rfl (by decide) rfl rfl ?_
      exact d_layDues_in (i := i) W h6 (by omega) (fun p p0 p1 => by have := RM_r W i p p0 p1; rw [hv p p0 p1]; omega) e66 C k50 P 0 S1 (by omega) (fr_rf _ _ _) (fun q hq => absurd hq (by omega)) (fun j _ => rfl)
theorem d_layDues (W : MW S) (h5 : S 66 5 = (M : Int)) (h6 : S 66 6 = (P : Int)) : AMv 2 yX7_layDues cX7_layDues 3 [.inr (.inr 66)] S (fun S' => fr 80 82 S S' ∧ ∀ m q : Nat, m < M → q < P → S' 81 (4 * (m : Int) + q) = due (S 66 7) (S 66 8) (RM S m q)) := by
  obtain ⟨t1, t2, t3, t4, t5, t6⟩ := id W
  refine amv_intro (L := [_, none, none]) (by decide) rfl (Nat.le_of_ble_eq_true rfl) (fun X C hret => ?_)
  refine aw_aldn (n := 1) C dX7_layDues_0 rfl rfl ?_
  refine aw_cVv (n := 4) (vs := []) C dX7_layDues_1 rfl rfl rfl mm_X7_begin wM_X7_150 rfl rfl (Nat.le_of_ble_eq_true rfl) (d_begin t2) (by decide) (fun S_1 q_1 => ?_)
  obtain ⟨g1, g2⟩ := q_1
  refine aw_iconst (n := 5) C dX7_layDues_4 rfl ?_
  refine aw_istn (n := 6) (L' := [_, _, _]) C dX7_layDues_5 rfl (by decide) rfl rfl ?_
  exact d_layDues_loop W h5 h6 C hret (fun S' a b => ⟨a, b⟩) M 0 _ _ (by omega) (fr_w g1 (by omega) (by omega)) g2 (fun m q hm => absurd hm (by omega))
/-- a seating at b in the cells -/
def MS (S : Mem) (M P : Nat) (b : Int) : Prop := S 66 5 = (M : Int) ∧ S 66 6 = (P : Int) ∧ M ≤ 8 ∧ P ≤ 4 ∧ 0 ≤ b ∧ b + ((M * P : Nat) : Int) ≤ 240 ∧ ∀ j : Nat, j < M * P → 0 ≤ S 69 (b + j) ∧ S 69 (b + j) < 3
def mq (S : Mem) (b : Int) : Fn := fun j => S 69 (b + j)
theorem ix_n {m p M P : Nat} (hm : m < M) (hp : p < P) : m * P + p < M * P := by
  have : (m + 1) * P ≤ M * P := Nat.mul_le_mul_right P hm
  rw [Nat.succ_mul] at this
  omega
theorem mp_n {M P : Nat} (hm : M ≤ 8) (hp : P ≤ 4) : M * P ≤ 32 := Nat.le_trans (Nat.mul_le_mul hm hp) (Nat.le_refl 32)
theorem d_seatedIn_loop {post : Int → Mem → Prop} {r c : Int} (h6 : S 66 6 = (P : Int)) (hP : P ≤ 4) (hr0 : 0 ≤ r) (hr1 : r + P ≤ 240) (hv : ∀ q : Nat, q < P → rng (S 69 (r + q))) (hc : rng c) (C : CX X 0 RX7 cX7_seatedIn 5) (hret : ∀ (pc : Nat) (L : List (Option AV)) (z : Int) (S' : Mem), decode cX7_seatedIn pc = .ok (.ireturn, 1) → ((some FieldType.int) = some .int ∨ ((some FieldType.int) = some .boolean ∧ (z = 0 ∨ z = 1))) → post z S' → AW X cX7_seatedIn 5 pc L [.inl z] S') (hp : post (sm (fun x => if S 69 (r + (x : Int)) = c then 1 else 0) P) S) : ∀ (n p : Nat), p + n = P → AW X cX7_seatedIn 5 5 [some (.inr (.inr 66)), some (.inl r), some (.inl c), some (.inl (sm (fun x => if S 69 (r + (x : Int)) = c then 1 else 0) p)), some (.inl p)] [] S := by
  intro n
  induction n with
  | zero =>
    intro p hpn
    obtain rfl : p = P := by omega
    refine aw_ildw (n := 7) C dX7_seatedIn_5 rfl rfl ?_
    refine aw_aldn (n := 8) C dX7_seatedIn_7 rfl rfl ?_
    refine aw_getI (z := 6) (n := 11) C dX7_seatedIn_8 rfl fl_X7_81 rfl rfl rfl ?_
    refine aw_icge (tgt := 41) (n := 14) C dX7_seatedIn_11 rfl rfl (by omega) (by omega) (fun h_11 => ?_) (fun h_11 => ?_)
    · refine aw_ildn (n := 42) C dX7_seatedIn_41 rfl rfl ?_
      refine hret 42 _ _ _ dX7_seatedIn_42 (Or.inl rfl) ?_
      exact hp
    · omega
  | succ n ih =>
    intro p hpn
    have hs := sm_r (f := fun x : Nat => if S 69 (r + (x : Int)) = c then (1 : Int) else 0) (a := 1) (n := p) (fun k _ => by split <;> omega)
    have hvp := hv p (by omega)
    refine aw_ildw (n := 7) C dX7_seatedIn_5 rfl rfl ?_
    refine aw_aldn (n := 8) C dX7_seatedIn_7 rfl rfl ?_
    refine aw_getI (z := 6) (n := 11) C dX7_seatedIn_8 rfl fl_X7_81 rfl rfl rfl ?_
    refine aw_icge (tgt := 41) (n := 14) C dX7_seatedIn_11 rfl rfl (by omega) (by omega) (fun h_11 => ?_) (fun h_11 => ?_)
    · omega
    · refine aw_ildn (n := 15) C dX7_seatedIn_14 rfl rfl ?_
      refine aw_aldn (n := 16) C dX7_seatedIn_15 rfl rfl ?_
      refine aw_getR (n := 19) C dX7_seatedIn_16 rfl fl_X7_16 rfl rfl ?_
      refine aw_ildn (n := 20) C dX7_seatedIn_19 rfl rfl ?_
      refine aw_ildw (n := 22) C dX7_seatedIn_20 rfl rfl ?_
      refine aw_iadd (n := 23) C dX7_seatedIn_22 rfl ?_
      refine aw_iald (n := 24) C dX7_seatedIn_23 rfl rfl (by omega) (by omega) ?_
      refine aw_ildn (n := 25) C dX7_seatedIn_24 rfl rfl ?_
      refine aw_icne (tgt := 32) (n := 28) C dX7_seatedIn_25 rfl rfl (by omega) (by omega) (fun h_25 => ?_) (fun h_25 => ?_)
      · refine aw_iconst (n := 33) C dX7_seatedIn_32 rfl ?_
        refine aw_iadd (n := 34) C dX7_seatedIn_33 rfl ?_
        refine aw_istn (n := 35) (L' := [_, _, _, _, _]) C dX7_seatedIn_34 rfl (by decide) rfl rfl ?_
        refine aw_iinc (n := 38) (L' := [_, _, _, _, _]) C dX7_seatedIn_35 rfl rfl (by decide) rfl rfl ?_
        refine aw_goto (tgt := 5) C dX7_seatedIn_38 rfl ?_
        have := ih (p + 1) (by omega)
        rw [sm_s] at this
        first | (rw [if_pos h_25] at this; exact this) | (rw [if_neg h_25] at this; exact this)
      · refine aw_iconst (n := 29) C dX7_seatedIn_28 rfl ?_
        refine aw_goto (tgt := 33) C dX7_seatedIn_29 rfl ?_
        refine aw_iadd (n := 34) C dX7_seatedIn_33 rfl ?_
        refine aw_istn (n := 35) (L' := [_, _, _, _, _]) C dX7_seatedIn_34 rfl (by decide) rfl rfl ?_
        refine aw_iinc (n := 38) (L' := [_, _, _, _, _]) C dX7_seatedIn_35 rfl rfl (by decide) rfl rfl ?_
        refine aw_goto (tgt := 5) C dX7_seatedIn_38 rfl ?_
        have := ih (p + 1) (by omega)
        rw [sm_s] at this
        first | (rw [if_pos h_25] at this; exact this) | (rw [if_neg h_25] at this; exact this)
theorem d_seatedIn {r c : Int} (h6 : S 66 6 = (P : Int)) (hP : P ≤ 4) (hr0 : 0 ≤ r) (hr1 : r + P ≤ 240) (hv : ∀ q : Nat, q < P → rng (S 69 (r + q))) (hc : rng c) : AMi 0 yX7_seatedIn cX7_seatedIn 5 (some .int) [.inr (.inr 66), .inl r, .inl c] S (fun z S' => z = sm (fun x => if S 69 (r + (x : Int)) = c then 1 else 0) P ∧ S' = S) := by
  refine ami_intro (L := [_, _, _, none, none]) (by decide) (Or.inl rfl) rfl (Nat.le_of_ble_eq_true rfl) (fun X C hret => ?_)
  refine aw_iconst (n := 1) C dX7_seatedIn_0 rfl ?_
  refine aw_istn (n := 2) (L' := [_, _, _, _, _]) C dX7_seatedIn_1 rfl (by decide) rfl rfl ?_
  refine aw_iconst (n := 3) C dX7_seatedIn_2 rfl ?_
  refine aw_istw (n := 5) (L' := [_, _, _, _, _]) C dX7_seatedIn_3 rfl (by decide) rfl rfl ?_
  exact d_seatedIn_loop h6 hP hr0 hr1 hv hc C hret ⟨rfl, rfl⟩ P 0 (by omega)
theorem cn_mq {j : Nat} {c : Int} : sm (fun x => if S 69 (b + (j : Int) * (P : Int) + (x : Int)) = c then 1 else 0) P = cn (mq S b) P j c P := by
  unfold cn mq
  exact sm_congr (fun k _ => by rw [Int.add_assoc])
theorem d_wb_in {post : Int → Mem → Prop} {j : Nat} (hS : MS S M P b) (hse : ∀ c, 0 ≤ c → c < 3 → 0 ≤ S 70 c ∧ S 70 c ≤ 4) (hj : j < M) (C : CX X 1 RX7 cX7_wrongBy 4) (hret : ∀ (pc : Nat) (L : List (Option AV)) (z : Int) (S' : Mem), decode cX7_wrongBy pc = .ok (.ireturn, 1) → ((some FieldType.int) = some .int ∨ ((some FieldType.int) = some .boolean ∧ (z = 0 ∨ z = 1))) → post z S' → AW X cX7_wrongBy 4 pc L [.inl z] S') (hbad : bad (mq S b) P (S 70) j = true → post j S) (k : bad (mq S b) P (S 70) j = false → AW X cX7_wrongBy 4 47 [some (.inr (.inr 66)), some (.inl b), some (.inl j), some (.inl 3)] [] S) : ∀ (n c : Nat), c + n = 3 → (∀ x : Nat, x < c → cn (mq S b) P j x P ≤ S 70 x) → AW X cX7_wrongBy 4 12 [some (.inr (.inr 66)), some (.inl b), some (.inl j), some (.inl c)] [] S := by
  obtain ⟨h1, h2, h3, h4, h5, h6, h7⟩ := id hS
  have hmp := mp_n h3 h4
  have hjp : (j : Int) * P + P ≤ ((M * P : Nat) : Int) := by
    have : (j + 1) * P ≤ M * P := Nat.mul_le_mul_right P hj
    rw [Nat.succ_mul] at this
    rw [← Int.natCast_mul]
    omega
  have hjp0 : 0 ≤ (j : Int) * P := by rw [← Int.natCast_mul]; omega
  intro n
  induction n with
  | zero =>
    intro c hc hv
    obtain rfl : c = 3 := by omega
    have v0 : cn (mq S b) P j 0 P ≤ S 70 0 := hv 0 (by omega)
    have v1 : cn (mq S b) P j 1 P ≤ S 70 1 := hv 1 (by omega)
    have v2 : cn (mq S b) P j 2 P ≤ S 70 2 := hv 2 (by omega)
    refine aw_ildn (n := 13) C dX7_wrongBy_12 rfl rfl ?_
    refine aw_iconst (n := 14) C dX7_wrongBy_13 rfl ?_
    refine aw_icge (tgt := 47) (n := 17) C dX7_wrongBy_14 rfl rfl (by omega) (by omega) (fun h_14 => ?_) (fun h_14 => ?_)
    · refine k (decide_eq_false ?_)
      rw [Int.toNat_natCast]
      omega
    · omega
  | succ n ih =>
    intro c hc hv
    have hsc := hse c (by omega) (by omega)
    have hcr := cn_r (mq S b) P j c P
    refine aw_ildn (n := 13) C dX7_wrongBy_12 rfl rfl ?_
    refine aw_iconst (n := 14) C dX7_wrongBy_13 rfl ?_
    refine aw_icge (tgt := 47) (n := 17) C dX7_wrongBy_14 rfl rfl (by omega) (by omega) (fun h_14 => ?_) (fun h_14 => ?_)
    · omega
    · refine aw_aldn (n := 18) C dX7_wrongBy_17 rfl rfl ?_
      refine aw_ildn (n := 19) C dX7_wrongBy_18 rfl rfl ?_
      refine aw_ildn (n := 20) C dX7_wrongBy_19 rfl rfl ?_
      refine aw_aldn (n := 21) C dX7_wrongBy_20 rfl rfl ?_
      refine aw_getI (z := 6) (n := 24) C dX7_wrongBy_21 rfl fl_X7_81 rfl rfl rfl ?_
      rw [h2]
      refine aw_imul (n := 25) C dX7_wrongBy_24 rfl ?_
      refine aw_iadd (n := 26) C dX7_wrongBy_25 rfl ?_
      refine aw_ildn (n := 27) C dX7_wrongBy_26 rfl rfl ?_
      refine aw_cVi (n := 30) (vs := [_, _]) C dX7_wrongBy_27 rfl rfl rfl mm_X7_seatedIn wM_X7_168 rfl rfl (Nat.le_of_ble_eq_true rfl) (d_seatedIn (P := P) h2 h4 (by omega) (by omega) (fun q hq => by have := h7 (j * P + q) (ix_n hj hq); rw [Int.natCast_add, Int.natCast_mul, ← Int.add_assoc] at this; omega) (by omega)) (by decide) (fun z_27 S_27 q_27 => ?_)
      obtain ⟨qa, qb⟩ := q_27
      rw [cn_mq] at qa
      rw [qa, qb]
      refine aw_aldn (n := 31) C dX7_wrongBy_30 rfl rfl ?_
      refine aw_getR (n := 34) C dX7_wrongBy_31 rfl fl_X7_19 rfl rfl ?_
      refine aw_ildn (n := 35) C dX7_wrongBy_34 rfl rfl ?_
      refine aw_iald (n := 36) C dX7_wrongBy_35 rfl rfl (by omega) (by omega) ?_
      refine aw_icle (tgt := 41) (n := 39) C dX7_wrongBy_36 rfl rfl (by omega) (by omega) (fun h_36 => ?_) (fun h_36 => ?_)
      · refine aw_iinc (n := 44) (L' := [_, _, _, _]) C dX7_wrongBy_41 rfl rfl (by decide) rfl rfl ?_
        refine aw_goto (tgt := 12) C dX7_wrongBy_44 rfl ?_
        refine ih (c + 1) (by omega) (fun x hx => ?_)
        by_cases h : x = c
        · rw [h]; omega
        · exact hv x (by omega)
      · refine aw_ildn (n := 40) C dX7_wrongBy_39 rfl rfl ?_
        refine hret 40 _ _ _ dX7_wrongBy_40 (Or.inl rfl) ?_
        refine hbad (decide_eq_true ?_)
        rw [Int.toNat_natCast]
        rcases (show c = 0 ∨ c = 1 ∨ c = 2 by omega) with rfl | rfl | rfl
        · exact Or.inl (by omega)
        · exact Or.inr (Or.inl (by omega))
        · exact Or.inr (Or.inr (by omega))
theorem d_wrongBy_loop {post : Int → Mem → Prop} (hS : MS S M P b) (hse : ∀ c, 0 ≤ c → c < 3 → 0 ≤ S 70 c ∧ S 70 c ≤ 4) (C : CX X 1 RX7 cX7_wrongBy 4) (hret : ∀ (pc : Nat) (L : List (Option AV)) (z : Int) (S' : Mem), decode cX7_wrongBy pc = .ok (.ireturn, 1) → ((some FieldType.int) = some .int ∨ ((some FieldType.int) = some .boolean ∧ (z = 0 ∨ z = 1))) → post z S' → AW X cX7_wrongBy 4 pc L [.inl z] S') (hp : post (fst1 (bad (mq S b) P (S 70)) M 0) S) : ∀ (n j : Nat) (x : Option AV), j + n = M → fst1 (bad (mq S b) P (S 70)) M 0 = fst1 (bad (mq S b) P (S 70)) n j → AW X cX7_wrongBy 4 2 [some (.inr (.inr 66)), some (.inl b), some (.inl j), x] [] S := by
  obtain ⟨h1, h2, h3, h4, h5, h6, h7⟩ := id hS
  intro n
  induction n with
  | zero =>
    intro j x hj he
    refine aw_ildn (n := 3) C dX7_wrongBy_2 rfl rfl ?_
    refine aw_aldn (n := 4) C dX7_wrongBy_3 rfl rfl ?_
    refine aw_getI (z := 5) (n := 7) C dX7_wrongBy_4 rfl fl_X7_84 rfl rfl rfl ?_
    refine aw_icge (tgt := 53) (n := 10) C dX7_wrongBy_7 rfl rfl (by omega) (by omega) (fun h_7 => ?_) (fun h_7 => ?_)
    · refine aw_bipush (n := 55) C dX7_wrongBy_53 rfl rfl ?_
      refine hret 55 _ _ _ dX7_wrongBy_55 (Or.inl rfl) ?_
      rw [he] at hp
      exact hp
    · omega
  | succ n ih =>
    intro j x hj he
    have k47 : bad (mq S b) P (S 70) j = false → AW X cX7_wrongBy 4 47 [some (.inr (.inr 66)), some (.inl b), some (.inl j), some (.inl 3)] [] S := by
      intro hb
      refine aw_iinc (n := 50) (L' := [_, _, _, _]) C dX7_wrongBy_47 rfl rfl (by decide) rfl rfl ?_
      refine aw_goto (tgt := 2) C dX7_wrongBy_50 rfl ?_
      exact ih (j + 1) _ (by omega) (by rw [he, fst1_f hb])
    refine aw_ildn (n := 3) C dX7_wrongBy_2 rfl rfl ?_
    refine aw_aldn (n := 4) C dX7_wrongBy_3 rfl rfl ?_
    refine aw_getI (z := 5) (n := 7) C dX7_wrongBy_4 rfl fl_X7_84 rfl rfl rfl ?_
    refine aw_icge (tgt := 53) (n := 10) C dX7_wrongBy_7 rfl rfl (by omega) (by omega) (fun h_7 => ?_) (fun h_7 => ?_)
    · omega
    · refine aw_iconst (n := 11) C dX7_wrongBy_10 rfl ?_
      refine aw_istn (n := 12) (L' := [_, _, _, _]) C dX7_wrongBy_11 rfl (by decide) rfl rfl ?_
      exact d_wb_in (j := j) hS hse (by omega) C hret (fun hb => by rw [he, fst1_t hb] at hp; exact hp) k47 3 0 (by omega) (fun x hx => absurd hx (by omega))
theorem d_wrongBy (hS : MS S M P b) (hse : ∀ c, 0 ≤ c → c < 3 → 0 ≤ S 70 c ∧ S 70 c ≤ 4) : AMi 1 yX7_wrongBy cX7_wrongBy 4 (some .int) [.inr (.inr 66), .inl b] S (fun z S' => z = fst1 (bad (mq S b) P (S 70)) M 0 ∧ S' = S) := by
  refine ami_intro (L := [_, _, none, none]) (by decide) (Or.inl rfl) rfl (Nat.le_of_ble_eq_true rfl) (fun X C hret => ?_)
  refine aw_iconst (n := 1) C dX7_wrongBy_0 rfl ?_
  refine aw_istn (n := 2) (L' := [_, _, _, _]) C dX7_wrongBy_1 rfl (by decide) rfl rfl ?_
  exact d_wrongBy_loop hS hse C hret ⟨rfl, rfl⟩ M 0 _ (by omega) rfl
theorem d_changesBy_loop {post : Int → Mem → Prop} (hS : MS S M P b) (hM : 0 < M) (C : CX X 0 RX7 cX7_changesBy 4) (hret : ∀ (pc : Nat) (L : List (Option AV)) (z : Int) (S' : Mem), decode cX7_changesBy pc = .ok (.ireturn, 1) → ((some FieldType.int) = some .int ∨ ((some FieldType.int) = some .boolean ∧ (z = 0 ∨ z = 1))) → post z S' → AW X cX7_changesBy 4 pc L [.inl z] S') (hp : post (sm (fCh (mq S b) P) ((M - 1) * P)) S) : ∀ (n k : Nat), k + n = (M - 1) * P → AW X cX7_changesBy 4 7 [some (.inr (.inr 66)), some (.inl b), some (.inl (sm (fCh (mq S b) P) k)), some (.inl ((k : Int) + P))] [] S := by
  obtain ⟨h1, h2, h3, h4, h5, h6, h7⟩ := id hS
  have hmp := mp_n h3 h4
  have hmm : (M - 1) * P + P = M * P := by rw [← Nat.succ_mul]; congr 1; omega
  have hc : (M : Int) * P = ((M * P : Nat) : Int) := (Int.natCast_mul M P).symm
  intro n
  induction n with
  | zero =>
    intro k hk
    obtain rfl : k = (M - 1) * P := by omega
    refine aw_ildn (n := 8) C dX7_changesBy_7 rfl rfl ?_
    refine aw_aldn (n := 9) C dX7_changesBy_8 rfl rfl ?_
    refine aw_getI (z := 5) (n := 12) C dX7_changesBy_9 rfl fl_X7_84 rfl rfl rfl ?_
    refine aw_aldn (n := 13) C dX7_changesBy_12 rfl rfl ?_
    refine aw_getI (z := 6) (n := 16) C dX7_changesBy_13 rfl fl_X7_81 rfl rfl rfl ?_
    rw [h1, h2]
    refine aw_imul (n := 17) C dX7_changesBy_16 rfl ?_
    rw [hc]
    refine aw_icge (tgt := 58) (n := 20) C dX7_changesBy_17 rfl rfl (by omega) (by omega) (fun h_17 => ?_) (fun h_17 => ?_)
    · refine aw_ildn (n := 59) C dX7_changesBy_58 rfl rfl ?_
      refine hret 59 _ _ _ dX7_changesBy_59 (Or.inl rfl) ?_
      exact hp
    · omega
  | succ n ih =>
    intro k hk
    have hs := sm_r (f := fCh (mq S b) P) (a := 1) (n := k) (fun k _ => by unfold fCh; split <;> omega)
    have v1 := h7 (k + P) (by omega)
    have v2 := h7 k (by omega)
    have e1 : b + ((k : Int) + P) = b + ((k + P : Nat) : Int) := by omega
    refine aw_ildn (n := 8) C dX7_changesBy_7 rfl rfl ?_
    refine aw_aldn (n := 9) C dX7_changesBy_8 rfl rfl ?_
    refine aw_getI (z := 5) (n := 12) C dX7_changesBy_9 rfl fl_X7_84 rfl rfl rfl ?_
    refine aw_aldn (n := 13) C dX7_changesBy_12 rfl rfl ?_
    refine aw_getI (z := 6) (n := 16) C dX7_changesBy_13 rfl fl_X7_81 rfl rfl rfl ?_
    rw [h1, h2]
    refine aw_imul (n := 17) C dX7_changesBy_16 rfl ?_
    rw [hc]
    refine aw_icge (tgt := 58) (n := 20) C dX7_changesBy_17 rfl rfl (by omega) (by omega) (fun h_17 => ?_) (fun h_17 => ?_)
    · omega
    · refine aw_ildn (n := 21) C dX7_changesBy_20 rfl rfl ?_
      refine aw_aldn (n := 22) C dX7_changesBy_21 rfl rfl ?_
      refine aw_getR (n := 25) C dX7_changesBy_22 rfl fl_X7_16 rfl rfl ?_
      refine aw_ildn (n := 26) C dX7_changesBy_25 rfl rfl ?_
      refine aw_ildn (n := 27) C dX7_changesBy_26 rfl rfl ?_
      refine aw_iadd (n := 28) C dX7_changesBy_27 rfl ?_
      rw [e1]
      refine aw_iald (n := 29) C dX7_changesBy_28 rfl rfl (by omega) (by omega) ?_
      refine aw_aldn (n := 30) C dX7_changesBy_29 rfl rfl ?_
      refine aw_getR (n := 33) C dX7_changesBy_30 rfl fl_X7_16 rfl rfl ?_
      refine aw_ildn (n := 34) C dX7_changesBy_33 rfl rfl ?_
      refine aw_ildn (n := 35) C dX7_changesBy_34 rfl rfl ?_
      refine aw_iadd (n := 36) C dX7_changesBy_35 rfl ?_
      refine aw_aldn (n := 37) C dX7_changesBy_36 rfl rfl ?_
      refine aw_getI (z := 6) (n := 40) C dX7_changesBy_37 rfl fl_X7_81 rfl rfl rfl ?_
      rw [h2]
      refine aw_isub (n := 41) C dX7_changesBy_40 rfl ?_
      rw [show b + ((k : Int) + P) - P = b + k by omega]
      refine aw_iald (n := 42) C dX7_changesBy_41 rfl rfl (by omega) (by omega) ?_
      refine aw_icne (tgt := 49) (n := 45) C dX7_changesBy_42 rfl rfl (by omega) (by omega) (fun h_42 => ?_) (fun h_42 => ?_)
      · refine aw_iconst (n := 50) C dX7_changesBy_49 rfl ?_
        refine aw_iadd (n := 51) C dX7_changesBy_50 rfl ?_
        refine aw_istn (n := 52) (L' := [_, _, _, _]) C dX7_changesBy_51 rfl (by decide) rfl rfl ?_
        refine aw_iinc (n := 55) (L' := [_, _, _, _]) C dX7_changesBy_52 rfl rfl (by decide) rfl rfl ?_
        refine aw_goto (tgt := 7) C dX7_changesBy_55 rfl ?_
        have := ih (k + 1) (by omega)
        rw [sm_s, show ((k + 1 : Nat) : Int) + (P : Int) = (k : Int) + P + 1 by omega] at this
        unfold fCh mq at this
        rw [← e1] at h_42
        first | (rw [if_pos h_42] at this; exact this) | (rw [if_neg h_42] at this; exact this)
      · refine aw_iconst (n := 46) C dX7_changesBy_45 rfl ?_
        refine aw_goto (tgt := 50) C dX7_changesBy_46 rfl ?_
        refine aw_iadd (n := 51) C dX7_changesBy_50 rfl ?_
        refine aw_istn (n := 52) (L' := [_, _, _, _]) C dX7_changesBy_51 rfl (by decide) rfl rfl ?_
        refine aw_iinc (n := 55) (L' := [_, _, _, _]) C dX7_changesBy_52 rfl rfl (by decide) rfl rfl ?_
        refine aw_goto (tgt := 7) C dX7_changesBy_55 rfl ?_
        have := ih (k + 1) (by omega)
        rw [sm_s, show ((k + 1 : Nat) : Int) + (P : Int) = (k : Int) + P + 1 by omega] at this
        unfold fCh mq at this
        rw [← e1] at h_42
        first | (rw [if_pos h_42] at this; exact this) | (rw [if_neg h_42] at this; exact this)
theorem d_changesBy (hS : MS S M P b) (hM : 0 < M) : AMi 0 yX7_changesBy cX7_changesBy 4 (some .int) [.inr (.inr 66), .inl b] S (fun z S' => z = sm (fCh (mq S b) P) ((M - 1) * P) ∧ S' = S) := by
  have h2 := hS.2.1
  refine ami_intro (L := [_, _, none, none]) (by decide) (Or.inl rfl) rfl (Nat.le_of_ble_eq_true rfl) (fun X C hret => ?_)
  refine aw_iconst (n := 1) C dX7_changesBy_0 rfl ?_
  refine aw_istn (n := 2) (L' := [_, _, _, _]) C dX7_changesBy_1 rfl (by decide) rfl rfl ?_
  refine aw_aldn (n := 3) C dX7_changesBy_2 rfl rfl ?_
  refine aw_getI (z := 6) (n := 6) C dX7_changesBy_3 rfl fl_X7_81 rfl rfl rfl ?_
  rw [h2]
  refine aw_istn (n := 7) (L' := [_, _, _, _]) C dX7_changesBy_6 rfl (by decide) rfl rfl ?_
  have := d_changesBy_loop hS hM C hret ⟨rfl, rfl⟩ ((M - 1) * P) 0 (by omega)
  rw [show ((0 : Nat) : Int) + (P : Int) = P by omega] at this
  exact this
/-- the dues as they lie -/
def mdu (S : Mem) (m p : Int) : Int := S 81 (4 * m + p)
theorem kdm {k : Nat} (hP : 0 < P) (hk : k < M * P) : k / P < M ∧ k % P < P ∧ ((k : Int) / (P : Int) = ((k / P : Nat) : Int)) ∧ ((k : Int) % (P : Int) = ((k % P : Nat) : Int)) := ⟨(Nat.div_lt_iff_lt_mul hP).2 hk, Nat.mod_lt _ hP, (Int.natCast_ediv k P).symm, (Int.natCast_emod k P).symm⟩
theorem d_lowBy_loop {post : Int → Mem → Prop} (hS : MS S M P b) (hd : ∀ m p : Nat, m < M → p < P → 0 ≤ S 81 (4 * (m : Int) + p) ∧ S 81 (4 * (m : Int) + p) ≤ 2) (hP : 0 < P) (C : CX X 0 RX7 cX7_lowBy 5) (hret : ∀ (pc : Nat) (L : List (Option AV)) (z : Int) (S' : Mem), decode cX7_lowBy pc = .ok (.ireturn, 1) → ((some FieldType.int) = some .int ∨ ((some FieldType.int) = some .boolean ∧ (z = 0 ∨ z = 1))) → post z S' → AW X cX7_lowBy 5 pc L [.inl z] S') (hp : post (sm (fLo (mq S b) P (mdu S)) (M * P)) S) : ∀ (n k : Nat) (x : Option AV), k + n = M * P → AW X cX7_lowBy 5 4 [some (.inr (.inr 66)), some (.inl b), some (.inl (sm (fLo (mq S b) P (mdu S)) k)), some (.inl (k : Int)), x] [] S := by
  obtain ⟨h1, h2, h3, h4, h5, h6, h7⟩ := id hS
  have hmp := mp_n h3 h4
  have hc : (M : Int) * P = ((M * P : Nat) : Int) := (Int.natCast_mul M P).symm
  intro n
  induction n with
  | zero =>
    intro k x hk
    obtain rfl : k = M * P := by omega
    refine aw_ildn (n := 5) C dX7_lowBy_4 rfl rfl ?_
    refine aw_aldn (n := 6) C dX7_lowBy_5 rfl rfl ?_
    refine aw_getI (z := 5) (n := 9) C dX7_lowBy_6 rfl fl_X7_84 rfl rfl rfl ?_
    refine aw_aldn (n := 10) C dX7_lowBy_9 rfl rfl ?_
    refine aw_getI (z := 6) (n := 13) C dX7_lowBy_10 rfl fl_X7_81 rfl rfl rfl ?_
    rw [h1, h2]
    refine aw_imul (n := 14) C dX7_lowBy_13 rfl ?_
    rw [hc]
    refine aw_icge (tgt := 68) (n := 17) C dX7_lowBy_14 rfl rfl (by omega) (by omega) (fun h_14 => ?_) (fun h_14 => ?_)
    · refine aw_ildn (n := 69) C dX7_lowBy_68 rfl rfl ?_
      refine hret 69 _ _ _ dX7_lowBy_69 (Or.inl rfl) ?_
      exact hp
    · omega
  | succ n ih =>
    intro k x hk
    obtain ⟨k1, k2, k3, k4⟩ := kdm (k := k) (M := M) hP (by omega)
    have hs := sm_r (f := fLo (mq S b) P (mdu S)) (a := 2) (n := k) (fun x hx => by
      obtain ⟨y1, y2, y3, y4⟩ := kdm (k := x) (M := M) hP (by omega)
      have a1 := hd (x / P) (x % P) y1 y2
      have a2 := h7 x (by omega)
      unfold fLo mq mdu
      rw [y3, y4]
      omega)
    have v1 := h7 k (by omega)
    have v2 := hd (k / P) (k % P) k1 k2
    generalize hu : k / P = u at *
    generalize hw : k % P = w at *
    refine aw_ildn (n := 5) C dX7_lowBy_4 rfl rfl ?_
    refine aw_aldn (n := 6) C dX7_lowBy_5 rfl rfl ?_
    refine aw_getI (z := 5) (n := 9) C dX7_lowBy_6 rfl fl_X7_84 rfl rfl rfl ?_
    refine aw_aldn (n := 10) C dX7_lowBy_9 rfl rfl ?_
    refine aw_getI (z := 6) (n := 13) C dX7_lowBy_10 rfl fl_X7_81 rfl rfl rfl ?_
    rw [h1, h2]
    refine aw_imul (n := 14) C dX7_lowBy_13 rfl ?_
    rw [hc]
    refine aw_icge (tgt := 68) (n := 17) C dX7_lowBy_14 rfl rfl (by omega) (by omega) (fun h_14 => ?_) (fun h_14 => ?_)
    · omega
    · refine aw_aldn (n := 18) C dX7_lowBy_17 rfl rfl ?_
      refine aw_getR (n := 21) C dX7_lowBy_18 rfl fl_X7_16 rfl rfl ?_
      refine aw_ildn (n := 22) C dX7_lowBy_21 rfl rfl ?_
      refine aw_ildn (n := 23) C dX7_lowBy_22 rfl rfl ?_
      refine aw_iadd (n := 24) C dX7_lowBy_23 rfl ?_
      refine aw_iald (n := 25) C dX7_lowBy_24 rfl rfl (by omega) (by omega) ?_
      refine aw_aldn (n := 26) C dX7_lowBy_25 rfl rfl ?_
      refine aw_getR (n := 29) C dX7_lowBy_26 rfl fl_X7_53 rfl rfl ?_
      refine aw_iconst (n := 30) C dX7_lowBy_29 rfl ?_
      refine aw_ildn (n := 31) C dX7_lowBy_30 rfl rfl ?_
      refine aw_aldn (n := 32) C dX7_lowBy_31 rfl rfl ?_
      refine aw_getI (z := 6) (n := 35) C dX7_lowBy_32 rfl fl_X7_81 rfl rfl rfl ?_
      rw [h2]
      refine aw_idiv (n := 36) C dX7_lowBy_35 rfl (by omega) (by omega) ?_
      rw [k3]
      refine aw_imul (n := 37) C dX7_lowBy_36 rfl ?_
      refine aw_ildn (n := 38) C dX7_lowBy_37 rfl rfl ?_
      refine aw_aldn (n := 39) C dX7_lowBy_38 rfl rfl ?_
      refine aw_getI (z := 6) (n := 42) C dX7_lowBy_39 rfl fl_X7_81 rfl rfl rfl ?_
      rw [h2]
      refine aw_irem (n := 43) C dX7_lowBy_42 rfl (by omega) (by omega) ?_
      rw [k4]
      refine aw_iadd (n := 44) C dX7_lowBy_43 rfl ?_
      refine aw_iald (n := 45) C dX7_lowBy_44 rfl rfl (by omega) (by omega) ?_
      refine aw_isub (n := 46) C dX7_lowBy_45 rfl ?_
      refine aw_istw (n := 48) (L' := [_, _, _, _, _]) C dX7_lowBy_46 rfl (by decide) rfl rfl ?_
      refine aw_ildn (n := 49) C dX7_lowBy_48 rfl rfl ?_
      refine aw_ildw (n := 51) C dX7_lowBy_49 rfl rfl ?_
      refine aw_ifle (tgt := 59) (n := 54) C dX7_lowBy_51 rfl rfl (by omega) (fun h_51 => ?_) (fun h_51 => ?_)
      · refine aw_iconst (n := 60) C dX7_lowBy_59 rfl ?_
        refine aw_iadd (n := 61) C dX7_lowBy_60 rfl ?_
        refine aw_istn (n := 62) (L' := [_, _, _, _, _]) C dX7_lowBy_61 rfl (by decide) rfl rfl ?_
        refine aw_iinc (n := 65) (L' := [_, _, _, _, _]) C dX7_lowBy_62 rfl rfl (by decide) rfl rfl ?_
        refine aw_goto (tgt := 4) C dX7_lowBy_65 rfl ?_
        have := ih (k + 1) (some (.inl (S 69 (b + k) - S 81 (4 * (u : Int) + w)))) (by omega)
        rw [sm_s] at this
        unfold fLo mq mdu at this
        rw [k3, k4] at this
        first | (rw [show max 0 (S 69 (b + k) - S 81 (4 * (u : Int) + w)) = 0 by omega] at this; exact this) | (rw [show max 0 (S 69 (b + k) - S 81 (4 * (u : Int) + w)) = S 69 (b + k) - S 81 (4 * (u : Int) + w) by omega] at this; exact this)
      · refine aw_ildw (n := 56) C dX7_lowBy_54 rfl rfl ?_
        refine aw_goto (tgt := 60) C dX7_lowBy_56 rfl ?_
        refine aw_iadd (n := 61) C dX7_lowBy_60 rfl ?_
        refine aw_istn (n := 62) (L' := [_, _, _, _, _]) C dX7_lowBy_61 rfl (by decide) rfl rfl ?_
        refine aw_iinc (n := 65) (L' := [_, _, _, _, _]) C dX7_lowBy_62 rfl rfl (by decide) rfl rfl ?_
        refine aw_goto (tgt := 4) C dX7_lowBy_65 rfl ?_
        have := ih (k + 1) (some (.inl (S 69 (b + k) - S 81 (4 * (u : Int) + w)))) (by omega)
        rw [sm_s] at this
        unfold fLo mq mdu at this
        rw [k3, k4] at this
        first | (rw [show max 0 (S 69 (b + k) - S 81 (4 * (u : Int) + w)) = 0 by omega] at this; exact this) | (rw [show max 0 (S 69 (b + k) - S 81 (4 * (u : Int) + w)) = S 69 (b + k) - S 81 (4 * (u : Int) + w) by omega] at this; exact this)
theorem d_lowBy (hS : MS S M P b) (hd : ∀ m p : Nat, m < M → p < P → 0 ≤ S 81 (4 * (m : Int) + p) ∧ S 81 (4 * (m : Int) + p) ≤ 2) (hP : 0 < P) : AMi 0 yX7_lowBy cX7_lowBy 5 (some .int) [.inr (.inr 66), .inl b] S (fun z S' => z = sm (fLo (mq S b) P (mdu S)) (M * P) ∧ S' = S) := by
  refine ami_intro (L := [_, _, none, none, none]) (by decide) (Or.inl rfl) rfl (Nat.le_of_ble_eq_true rfl) (fun X C hret => ?_)
  refine aw_iconst (n := 1) C dX7_lowBy_0 rfl ?_
  refine aw_istn (n := 2) (L' := [_, _, _, _, _]) C dX7_lowBy_1 rfl (by decide) rfl rfl ?_
  refine aw_iconst (n := 3) C dX7_lowBy_2 rfl ?_
  refine aw_istn (n := 4) (L' := [_, _, _, _, _]) C dX7_lowBy_3 rfl (by decide) rfl rfl ?_
  exact d_lowBy_loop hS hd hP C hret ⟨rfl, rfl⟩ (M * P) 0 _ (by omega)
theorem sm_add (f : Nat → Int) (a : Nat) : ∀ n : Nat, sm f (a + n) = sm f a + sm (fun j => f (a + j)) n
  | 0 => by show sm f a = sm f a + 0; omega
  | n + 1 => by
    show sm f (a + n) + f (a + n) = sm f a + (sm (fun j => f (a + j)) n + f (a + n))
    rw [sm_add f a n]; omega
theorem sm_grid (f : Nat → Int) (P : Nat) : ∀ M : Nat, sm f (M * P) = sm (fun m => sm (fun p => f (m * P + p)) P) M
  | 0 => by rw [Nat.zero_mul]; rfl
  | M + 1 => by rw [Nat.succ_mul, sm_add, sm_grid f P M]; rfl
theorem sm_plus (f g : Nat → Int) : ∀ n : Nat, sm (fun k => f k + g k) n = sm f n + sm g n
  | 0 => rfl
  | n + 1 => by show sm (fun k => f k + g k) n + (f n + g n) = sm f n + f n + (sm g n + g n); rw [sm_plus f g n]; omega
theorem sm_zero : ∀ n : Nat, sm (fun _ => 0) n = 0
  | 0 => rfl
  | n + 1 => by show sm (fun _ => 0) n + 0 = 0; rw [sm_zero n]; rfl
theorem sm_swap (g : Nat → Nat → Int) (P : Nat) : ∀ M : Nat, sm (fun m => sm (fun p => g m p) P) M = sm (fun p => sm (fun m => g m p) M) P
  | 0 => by show (0 : Int) = sm (fun _ => 0) P; rw [sm_zero]
  | M + 1 => by
    show sm (fun m => sm (fun p => g m p) P) M + sm (fun p => g M p) P = sm (fun p => sm (fun m => g m p) M + g M p) P
    rw [sm_swap g P M, sm_plus]
theorem sm_delta (h : Nat → Int) (w : Nat) : ∀ n : Nat, sm (fun p => if w = p then h p else 0) n = if w < n then h w else 0
  | 0 => rfl
  | n + 1 => by
    show sm (fun p => if w = p then h p else 0) n + (if w = n then h n else 0) = _
    rw [sm_delta h w n]
    by_cases h1 : w < n
    · rw [if_pos h1, if_neg (by omega), if_pos (by omega)]; omega
    · by_cases h2 : w = n
      · rw [if_neg h1, if_pos h2, if_pos (by omega), h2]; omega
      · rw [if_neg h1, if_neg h2, if_neg (by omega)]; rfl
def fA2 (q : Fn) (P : Int) (du : Int → Int → Int) (w : Int) (k : Nat) : Int := if (w = -9 ∨ w = (k : Int) % P) ∧ q k < du ((k : Int) / P) ((k : Int) % P) then 1 else 0
theorem fA2_grid (q : Fn) (du : Int → Int → Int) (w : Int) : sm (fA2 q P du w) (M * P) = sm (fun p => sm (fun m => if (w = -9 ∨ w = (p : Int)) ∧ q ((m : Int) * P + p) < du m p then 1 else 0) M) P := by
  rw [sm_grid, ← sm_swap]
  refine sm_congr (fun p hp => sm_congr (fun m _ => ?_))
  obtain ⟨d1, d2⟩ := dm (m := m) hp
  unfold fA2
  rw [d1, d2, Int.natCast_add, Int.natCast_mul]
theorem fA2_all (q : Fn) (du : Int → Int → Int) : sm (fA2 q P du (-9)) (M * P) = sm (fun p => sm (fAb q P du p) M) P := by
  rw [fA2_grid]
  refine sm_congr (fun p _ => sm_congr (fun m _ => ?_))
  unfold fAb
  by_cases h : q ((m : Int) * P + p) < du m p
  · rw [if_pos ⟨Or.inl rfl, h⟩, if_pos h]
  · rw [if_neg (fun x => h x.2), if_neg h]
theorem fA2_one (q : Fn) (du : Int → Int → Int) {w : Nat} (hw : w < P) : sm (fA2 q P du (w : Int)) (M * P) = sm (fAb q P du (w : Int)) M := by
  rw [fA2_grid]
  have := sm_delta (fun p => sm (fAb q P du (p : Int)) M) w P
  rw [if_pos hw] at this
  rw [← this]
  refine sm_congr (fun p _ => ?_)
  by_cases h : w = p
  · rw [if_pos h]
    refine sm_congr (fun m _ => ?_)
    unfold fAb
    by_cases h2 : q ((m : Int) * P + p) < du m p
    · rw [if_pos ⟨Or.inr (by omega), h2⟩, if_pos h2]
    · rw [if_neg (fun x => h2 x.2), if_neg h2]
  · rw [if_neg h]
    exact (sm_congr (fun m _ => if_neg (fun x => by omega))).trans (sm_zero M)
theorem d_aboveBy_loop {post : Int → Mem → Prop} {w : Int} (hw : rng w) (hS : MS S M P b) (hd : ∀ m p : Nat, m < M → p < P → 0 ≤ S 81 (4 * (m : Int) + p) ∧ S 81 (4 * (m : Int) + p) ≤ 2) (hP : 0 < P) (C : CX X 0 RX7 cX7_aboveBy 6) (hret : ∀ (pc : Nat) (L : List (Option AV)) (z : Int) (S' : Mem), decode cX7_aboveBy pc = .ok (.ireturn, 1) → ((some FieldType.int) = some .int ∨ ((some FieldType.int) = some .boolean ∧ (z = 0 ∨ z = 1))) → post z S' → AW X cX7_aboveBy 6 pc L [.inl z] S') (hp : post (sm (fA2 (mq S b) P (mdu S) w) (M * P)) S) : ∀ (n k : Nat) (x : Option AV), k + n = M * P → AW X cX7_aboveBy 6 5 [some (.inr (.inr 66)), some (.inl b), some (.inl w), some (.inl (sm (fA2 (mq S b) P (mdu S) w) k)), some (.inl (k : Int)), x] [] S := by
  obtain ⟨h1, h2, h3, h4, h5, h6, h7⟩ := id hS
  have hmp := mp_n h3 h4
  have hc : (M : Int) * P = ((M * P : Nat) : Int) := (Int.natCast_mul M P).symm
  intro n
  induction n with
  | zero =>
    intro k x hk
    obtain rfl : k = M * P := by omega
    refine aw_ildw (n := 7) C dX7_aboveBy_5 rfl rfl ?_
    refine aw_aldn (n := 8) C dX7_aboveBy_7 rfl rfl ?_
    refine aw_getI (z := 5) (n := 11) C dX7_aboveBy_8 rfl fl_X7_84 rfl rfl rfl ?_
    refine aw_aldn (n := 12) C dX7_aboveBy_11 rfl rfl ?_
    refine aw_getI (z := 6) (n := 15) C dX7_aboveBy_12 rfl fl_X7_81 rfl rfl rfl ?_
    rw [h1, h2]
    refine aw_imul (n := 16) C dX7_aboveBy_15 rfl ?_
    rw [hc]
    refine aw_icge (tgt := 83) (n := 19) C dX7_aboveBy_16 rfl rfl (by omega) (by omega) (fun h_16 => ?_) (fun h_16 => ?_)
    · refine aw_ildn (n := 84) C dX7_aboveBy_83 rfl rfl ?_
      refine hret 84 _ _ _ dX7_aboveBy_84 (Or.inl rfl) ?_
      exact hp
    · omega
  | succ n ih =>
    intro k x hk
    obtain ⟨k1, k2, k3, k4⟩ := kdm (k := k) (M := M) hP (by omega)
    have hs := sm_r (f := fA2 (mq S b) P (mdu S) w) (a := 1) (n := k) (fun x hx => by unfold fA2; split <;> omega)
    have v1 := h7 k (by omega)
    have v2 := hd (k / P) (k % P) k1 k2
    generalize hu : k / P = u at *
    generalize hw : k % P = y at *
    refine aw_ildw (n := 7) C dX7_aboveBy_5 rfl rfl ?_
    refine aw_aldn (n := 8) C dX7_aboveBy_7 rfl rfl ?_
    refine aw_getI (z := 5) (n := 11) C dX7_aboveBy_8 rfl fl_X7_84 rfl rfl rfl ?_
    refine aw_aldn (n := 12) C dX7_aboveBy_11 rfl rfl ?_
    refine aw_getI (z := 6) (n := 15) C dX7_aboveBy_12 rfl fl_X7_81 rfl rfl rfl ?_
    rw [h1, h2]
    refine aw_imul (n := 16) C dX7_aboveBy_15 rfl ?_
    rw [hc]
    refine aw_icge (tgt := 83) (n := 19) C dX7_aboveBy_16 rfl rfl (by omega) (by omega) (fun h_16 => ?_) (fun h_16 => ?_)
    · omega
    · refine aw_ildw (n := 21) C dX7_aboveBy_19 rfl rfl ?_
      refine aw_aldn (n := 22) C dX7_aboveBy_21 rfl rfl ?_
      refine aw_getI (z := 6) (n := 25) C dX7_aboveBy_22 rfl fl_X7_81 rfl rfl rfl ?_
      rw [h2]
      refine aw_irem (n := 26) C dX7_aboveBy_25 rfl (by omega) (by omega) ?_
      rw [k4]
      refine aw_istw (n := 28) (L' := [_, _, _, _, _, _]) C dX7_aboveBy_26 rfl (by decide) rfl rfl ?_
      refine aw_ildn (n := 29) C dX7_aboveBy_28 rfl rfl ?_
      refine aw_ildn (n := 30) C dX7_aboveBy_29 rfl rfl ?_
      refine aw_bipush (n := 32) C dX7_aboveBy_30 rfl rfl ?_
      refine aw_iceq (tgt := 41) (n := 35) C dX7_aboveBy_32 rfl rfl (by omega) (by omega) (fun h_32 => ?_) (fun h_32 => ?_)
      · refine aw_aldn (n := 42) C dX7_aboveBy_41 rfl rfl ?_
        refine aw_getR (n := 45) C dX7_aboveBy_42 rfl fl_X7_16 rfl rfl ?_
        refine aw_ildn (n := 46) C dX7_aboveBy_45 rfl rfl ?_
        refine aw_ildw (n := 48) C dX7_aboveBy_46 rfl rfl ?_
        refine aw_iadd (n := 49) C dX7_aboveBy_48 rfl ?_
        refine aw_iald (n := 50) C dX7_aboveBy_49 rfl rfl (by omega) (by omega) ?_
        refine aw_aldn (n := 51) C dX7_aboveBy_50 rfl rfl ?_
        refine aw_getR (n := 54) C dX7_aboveBy_51 rfl fl_X7_53 rfl rfl ?_
        refine aw_iconst (n := 55) C dX7_aboveBy_54 rfl ?_
        refine aw_ildw (n := 57) C dX7_aboveBy_55 rfl rfl ?_
        refine aw_aldn (n := 58) C dX7_aboveBy_57 rfl rfl ?_
        refine aw_getI (z := 6) (n := 61) C dX7_aboveBy_58 rfl fl_X7_81 rfl rfl rfl ?_
        rw [h2]
        refine aw_idiv (n := 62) C dX7_aboveBy_61 rfl (by omega) (by omega) ?_
        rw [k3]
        refine aw_imul (n := 63) C dX7_aboveBy_62 rfl ?_
        refine aw_ildw (n := 65) C dX7_aboveBy_63 rfl rfl ?_
        refine aw_iadd (n := 66) C dX7_aboveBy_65 rfl ?_
        refine aw_iald (n := 67) C dX7_aboveBy_66 rfl rfl (by omega) (by omega) ?_
        refine aw_icge (tgt := 74) (n := 70) C dX7_aboveBy_67 rfl rfl (by omega) (by omega) (fun h_67 => ?_) (fun h_67 => ?_)
        · refine aw_iconst (n := 75) C dX7_aboveBy_74 rfl ?_
          refine aw_iadd (n := 76) C dX7_aboveBy_75 rfl ?_
          refine aw_istn (n := 77) (L' := [_, _, _, _, _, _]) C dX7_aboveBy_76 rfl (by decide) rfl rfl ?_
          refine aw_iinc (n := 80) (L' := [_, _, _, _, _, _]) C dX7_aboveBy_77 rfl rfl (by decide) rfl rfl ?_
          refine aw_goto (tgt := 5) C dX7_aboveBy_80 rfl ?_
          have := ih (k + 1) (some (.inl (y : Int))) (by omega)
          rw [sm_s] at this
          unfold fA2 mq mdu at this
          rw [k3, k4] at this
          first | (rw [if_pos (by omega)] at this; exact this) | (rw [if_neg (by omega)] at this; exact this)
        · refine aw_iconst (n := 71) C dX7_aboveBy_70 rfl ?_
          refine aw_goto (tgt := 75) C dX7_aboveBy_71 rfl ?_
          refine aw_iadd (n := 76) C dX7_aboveBy_75 rfl ?_
          refine aw_istn (n := 77) (L' := [_, _, _, _, _, _]) C dX7_aboveBy_76 rfl (by decide) rfl rfl ?_
          refine aw_iinc (n := 80) (L' := [_, _, _, _, _, _]) C dX7_aboveBy_77 rfl rfl (by decide) rfl rfl ?_
          refine aw_goto (tgt := 5) C dX7_aboveBy_80 rfl ?_
          have := ih (k + 1) (some (.inl (y : Int))) (by omega)
          rw [sm_s] at this
          unfold fA2 mq mdu at this
          rw [k3, k4] at this
          first | (rw [if_pos (by omega)] at this; exact this) | (rw [if_neg (by omega)] at this; exact this)
      · refine aw_ildn (n := 36) C dX7_aboveBy_35 rfl rfl ?_
        refine aw_ildw (n := 38) C dX7_aboveBy_36 rfl rfl ?_
        refine aw_icne (tgt := 74) (n := 41) C dX7_aboveBy_38 rfl rfl (by omega) (by omega) (fun h_38 => ?_) (fun h_38 => ?_)
        · refine aw_iconst (n := 75) C dX7_aboveBy_74 rfl ?_
          refine aw_iadd (n := 76) C dX7_aboveBy_75 rfl ?_
          refine aw_istn (n := 77) (L' := [_, _, _, _, _, _]) C dX7_aboveBy_76 rfl (by decide) rfl rfl ?_
          refine aw_iinc (n := 80) (L' := [_, _, _, _, _, _]) C dX7_aboveBy_77 rfl rfl (by decide) rfl rfl ?_
          refine aw_goto (tgt := 5) C dX7_aboveBy_80 rfl ?_
          have := ih (k + 1) (some (.inl (y : Int))) (by omega)
          rw [sm_s] at this
          unfold fA2 mq mdu at this
          rw [k3, k4] at this
          first | (rw [if_pos (by omega)] at this; exact this) | (rw [if_neg (by omega)] at this; exact this)
        · refine aw_aldn (n := 42) C dX7_aboveBy_41 rfl rfl ?_
          refine aw_getR (n := 45) C dX7_aboveBy_42 rfl fl_X7_16 rfl rfl ?_
          refine aw_ildn (n := 46) C dX7_aboveBy_45 rfl rfl ?_
          refine aw_ildw (n := 48) C dX7_aboveBy_46 rfl rfl ?_
          refine aw_iadd (n := 49) C dX7_aboveBy_48 rfl ?_
          refine aw_iald (n := 50) C dX7_aboveBy_49 rfl rfl (by omega) (by omega) ?_
          refine aw_aldn (n := 51) C dX7_aboveBy_50 rfl rfl ?_
          refine aw_getR (n := 54) C dX7_aboveBy_51 rfl fl_X7_53 rfl rfl ?_
          refine aw_iconst (n := 55) C dX7_aboveBy_54 rfl ?_
          refine aw_ildw (n := 57) C dX7_aboveBy_55 rfl rfl ?_
          refine aw_aldn (n := 58) C dX7_aboveBy_57 rfl rfl ?_
          refine aw_getI (z := 6) (n := 61) C dX7_aboveBy_58 rfl fl_X7_81 rfl rfl rfl ?_
          rw [h2]
          refine aw_idiv (n := 62) C dX7_aboveBy_61 rfl (by omega) (by omega) ?_
          rw [k3]
          refine aw_imul (n := 63) C dX7_aboveBy_62 rfl ?_
          refine aw_ildw (n := 65) C dX7_aboveBy_63 rfl rfl ?_
          refine aw_iadd (n := 66) C dX7_aboveBy_65 rfl ?_
          refine aw_iald (n := 67) C dX7_aboveBy_66 rfl rfl (by omega) (by omega) ?_
          refine aw_icge (tgt := 74) (n := 70) C dX7_aboveBy_67 rfl rfl (by omega) (by omega) (fun h_67 => ?_) (fun h_67 => ?_)
          · refine aw_iconst (n := 75) C dX7_aboveBy_74 rfl ?_
            refine aw_iadd (n := 76) C dX7_aboveBy_75 rfl ?_
            refine aw_istn (n := 77) (L' := [_, _, _, _, _, _]) C dX7_aboveBy_76 rfl (by decide) rfl rfl ?_
            refine aw_iinc (n := 80) (L' := [_, _, _, _, _, _]) C dX7_aboveBy_77 rfl rfl (by decide) rfl rfl ?_
            refine aw_goto (tgt := 5) C dX7_aboveBy_80 rfl ?_
            have := ih (k + 1) (some (.inl (y : Int))) (by omega)
            rw [sm_s] at this
            unfold fA2 mq mdu at this
            rw [k3, k4] at this
            first | (rw [if_pos (by omega)] at this; exact this) | (rw [if_neg (by omega)] at this; exact this)
          · refine aw_iconst (n := 71) C dX7_aboveBy_70 rfl ?_
            refine aw_goto (tgt := 75) C dX7_aboveBy_71 rfl ?_
            refine aw_iadd (n := 76) C dX7_aboveBy_75 rfl ?_
            refine aw_istn (n := 77) (L' := [_, _, _, _, _, _]) C dX7_aboveBy_76 rfl (by decide) rfl rfl ?_
            refine aw_iinc (n := 80) (L' := [_, _, _, _, _, _]) C dX7_aboveBy_77 rfl rfl (by decide) rfl rfl ?_
            refine aw_goto (tgt := 5) C dX7_aboveBy_80 rfl ?_
            have := ih (k + 1) (some (.inl (y : Int))) (by omega)
            rw [sm_s] at this
            unfold fA2 mq mdu at this
            rw [k3, k4] at this
            first | (rw [if_pos (by omega)] at this; exact this) | (rw [if_neg (by omega)] at this; exact this)
theorem d_aboveBy {w : Int} (hw : rng w) (hS : MS S M P b) (hd : ∀ m p : Nat, m < M → p < P → 0 ≤ S 81 (4 * (m : Int) + p) ∧ S 81 (4 * (m : Int) + p) ≤ 2) (hP : 0 < P) : AMi 0 yX7_aboveBy cX7_aboveBy 6 (some .int) [.inr (.inr 66), .inl b, .inl w] S (fun z S' => z = sm (fA2 (mq S b) P (mdu S) w) (M * P) ∧ S' = S) := by
  refine ami_intro (L := [_, _, _, none, none, none]) (by decide) (Or.inl rfl) rfl (Nat.le_of_ble_eq_true rfl) (fun X C hret => ?_)
  refine aw_iconst (n := 1) C dX7_aboveBy_0 rfl ?_
  refine aw_istn (n := 2) (L' := [_, _, _, _, _, _]) C dX7_aboveBy_1 rfl (by decide) rfl rfl ?_
  refine aw_iconst (n := 3) C dX7_aboveBy_2 rfl ?_
  refine aw_istw (n := 5) (L' := [_, _, _, _, _, _]) C dX7_aboveBy_3 rfl (by decide) rfl rfl ?_
  exact d_aboveBy_loop hw hS hd hP C hret ⟨rfl, rfl⟩ (M * P) 0 _ (by omega)
theorem MS_fr {S' : Mem} {lo hi : Nat} (h : MS S M P b) (hf : fr lo hi S S') (hl : 70 ≤ lo) : MS S' M P b := by
  unfold MS
  rw [hf 66 (by omega), hf 69 (by omega)]
  exact h
theorem mq_fr {S' : Mem} {lo hi : Nat} (hf : fr lo hi S S') (hl : 70 ≤ lo) : mq S' b = mq S b := by
  unfold mq
  rw [hf 69 (by omega)]
theorem d_tellSeating {w : Int} (W : MW S) (hS : MS S M P b) (hM : 0 < M) (hP : 0 < P) (hw : w = 0 ∨ w = 2 ∨ w = 3 ∨ (10 ≤ w ∧ w ≤ 13)) : AMi 3 yX7_tellSeating cX7_tellSeating 3 (some .int) [.inr (.inr 66), .inl b, .inl w] S (fun z S' => fr 80 82 S S' ∧ (∀ m q : Nat, m < M → q < P → S' 81 (4 * (m : Int) + q) = due (S 66 7) (S 66 8) (RM S m q)) ∧ z = (if w = 0 then sm (fCh (mq S b) P) ((M - 1) * P) + sm (fLo (mq S b) P (mdu S')) (M * P) else if w = 2 then sm (fCh (mq S b) P) ((M - 1) * P) else if w = 3 then sm (fun p => sm (fAb (mq S b) P (mdu S') p) M) P else if (P : Int) ≤ w - 10 then -9 else sm (fAb (mq S b) P (mdu S') (w - 10)) M)) := by
  obtain ⟨h1, h2, h3, h4, h5, h6, h7⟩ := id hS
  have hmp := mp_n h3 h4
  have hmm : (M - 1) * P ≤ M * P := Nat.mul_le_mul_right P (by omega)
  refine ami_intro (L := [_, _, _]) (by decide) (Or.inl rfl) rfl (Nat.le_of_ble_eq_true rfl) (fun X C hret => ?_)
  refine aw_aldn (n := 1) C dX7_tellSeating_0 rfl rfl ?_
  refine aw_cVv (n := 4) (vs := []) C dX7_tellSeating_1 rfl rfl rfl mm_X7_layDues wM_X7_177 rfl rfl (Nat.le_of_ble_eq_true rfl) (d_layDues W h1 h2) (by decide) (fun S_1 q_1 => ?_)
  obtain ⟨g1, g2⟩ := q_1
  have hS1 := MS_fr hS g1 (by omega)
  have hq := mq_fr (b := b) g1 (by omega)
  have hd : ∀ m p : Nat, m < M → p < P → 0 ≤ S_1 81 (4 * (m : Int) + p) ∧ S_1 81 (4 * (m : Int) + p) ≤ 2 := fun m p hm hp => by rw [g2 m p hm hp]; exact due_r _ _ _
  have r1 := sm_r (f := fCh (mq S b) P) (a := 1) (n := (M - 1) * P) (fun k _ => by unfold fCh; split <;> omega)
  have r2 := sm_r (f := fLo (mq S b) P (mdu S_1)) (a := 2) (n := M * P) (fun x hx => by
    obtain ⟨y1, y2, y3, y4⟩ := kdm (k := x) (M := M) hP (by omega)
    have a1 := hd (x / P) (x % P) y1 y2
    have a2 := h7 x (by omega)
    unfold fLo mq mdu
    rw [y3, y4]
    omega)
  generalize hsv1 : sm (fCh (mq S b) P) ((M - 1) * P) = sv1 at *
  generalize hsv2 : sm (fLo (mq S b) P (mdu S_1)) (M * P) = sv2 at *
  generalize hN1 : (M - 1) * P = N1 at *
  generalize hN2 : M * P = N2 at *
  refine aw_ildn (n := 5) C dX7_tellSeating_4 rfl rfl ?_
  by_cases e1 : w = 0
  · refine aw_tableIn (tgt := 36) (off := 31) C dX7_tellSeating_5 (by omega) (by omega) (by omega) (by rw [e1]; rfl) rfl ?_
    refine aw_aldn (n := 37) C dX7_tellSeating_36 rfl rfl ?_
    refine aw_ildn (n := 38) C dX7_tellSeating_37 rfl rfl ?_
    refine aw_cVi (n := 41) (vs := [_]) C dX7_tellSeating_38 rfl rfl rfl mm_X7_changesBy wM_X7_180 rfl rfl (Nat.le_of_ble_eq_true rfl) (d_changesBy hS1 hM) (by decide) (fun z_38 S_38 q_38 => ?_)
    obtain ⟨qa, qb⟩ := q_38
    rw [hq, hN1, hsv1] at qa
    rw [qa, qb]
    refine aw_aldn (n := 42) C dX7_tellSeating_41 rfl rfl ?_
    refine aw_ildn (n := 43) C dX7_tellSeating_42 rfl rfl ?_
    refine aw_cVi (n := 46) (vs := [_]) C dX7_tellSeating_43 rfl rfl rfl mm_X7_lowBy wM_X7_183 rfl rfl (Nat.le_of_ble_eq_true rfl) (d_lowBy hS1 hd hP) (by decide) (fun z_43 S_43 q_43 => ?_)
    obtain ⟨qa, qb⟩ := q_43
    rw [hq, hN2, hsv2] at qa
    rw [qa, qb]
    refine aw_iadd (n := 47) C dX7_tellSeating_46 rfl ?_
    refine hret 47 _ _ _ dX7_tellSeating_47 (Or.inl rfl) ?_
    exact ⟨g1, g2, by rw [if_pos e1, hsv2]⟩
  by_cases e2 : w = 2
  · refine aw_tableIn (tgt := 48) (off := 43) C dX7_tellSeating_5 (by omega) (by omega) (by omega) (by rw [e2]; rfl) rfl ?_
    refine aw_aldn (n := 49) C dX7_tellSeating_48 rfl rfl ?_
    refine aw_ildn (n := 50) C dX7_tellSeating_49 rfl rfl ?_
    refine aw_cVi (n := 53) (vs := [_]) C dX7_tellSeating_50 rfl rfl rfl mm_X7_changesBy wM_X7_180 rfl rfl (Nat.le_of_ble_eq_true rfl) (d_changesBy hS1 hM) (by decide) (fun z_50 S_50 q_50 => ?_)
    obtain ⟨qa, qb⟩ := q_50
    rw [hq, hN1, hsv1] at qa
    rw [qa, qb]
    refine hret 53 _ _ _ dX7_tellSeating_53 (Or.inl rfl) ?_
    exact ⟨g1, g2, by rw [if_neg e1, if_pos e2]⟩
  by_cases e3 : w = 3
  · refine aw_tableIn (tgt := 54) (off := 49) C dX7_tellSeating_5 (by omega) (by omega) (by omega) (by rw [e3]; rfl) rfl ?_
    refine aw_aldn (n := 55) C dX7_tellSeating_54 rfl rfl ?_
    refine aw_ildn (n := 56) C dX7_tellSeating_55 rfl rfl ?_
    refine aw_bipush (n := 58) C dX7_tellSeating_56 rfl rfl ?_
    refine aw_cVi (n := 61) (vs := [_, _]) C dX7_tellSeating_58 rfl rfl rfl mm_X7_aboveBy wM_X7_186 rfl rfl (Nat.le_of_ble_eq_true rfl) (d_aboveBy (w := -9) (by decide) hS1 hd hP) (by decide) (fun z_58 S_58 q_58 => ?_)
    obtain ⟨qa, qb⟩ := q_58
    rw [hq, fA2_all] at qa
    rw [qa, qb]
    refine hret 61 _ _ _ dX7_tellSeating_61 (Or.inl rfl) ?_
    exact ⟨g1, g2, by rw [if_neg e1, if_neg e2, if_pos e3]⟩
  refine aw_tableOut (tgt := 62) C dX7_tellSeating_5 (by omega) (by omega) rfl ?_
  refine aw_aldn (n := 63) C dX7_tellSeating_62 rfl rfl ?_
  refine aw_ildn (n := 64) C dX7_tellSeating_63 rfl rfl ?_
  refine aw_bipush (n := 66) C dX7_tellSeating_64 rfl rfl ?_
  refine aw_isub (n := 67) C dX7_tellSeating_66 rfl ?_
  refine aw_cVi (n := 70) (vs := [_]) C dX7_tellSeating_67 rfl rfl rfl mm_X7_isPassenger wM_X7_137 rfl rfl (Nat.le_of_ble_eq_true rfl) (d_isPassenger (by omega) (by rw [hS1.2.1]; omega)) (by decide) (fun z_67 S_67 q_67 => ?_)
  rw [q_67.1, q_67.2]
  clear q_67 S_67 z_67
  refine aw_ifeq (tgt := 85) (n := 73) C dX7_tellSeating_70 rfl rfl (by omega) (fun h_70 => ?_) (fun h_70 => ?_)
  · refine aw_bipush (n := 87) C dX7_tellSeating_85 rfl rfl ?_
    refine hret 87 _ _ _ dX7_tellSeating_87 (Or.inl rfl) ?_
    have ht := hS1.2.1
    first | (exact ⟨g1, g2, by rw [if_neg e1, if_neg e2, if_neg e3, if_pos (by omega)]⟩) | (exact ⟨g1, g2, by rw [if_neg e1, if_neg e2, if_neg e3, if_neg (by omega)]⟩)
  · refine aw_aldn (n := 74) C dX7_tellSeating_73 rfl rfl ?_
    refine aw_ildn (n := 75) C dX7_tellSeating_74 rfl rfl ?_
    refine aw_ildn (n := 76) C dX7_tellSeating_75 rfl rfl ?_
    refine aw_bipush (n := 78) C dX7_tellSeating_76 rfl rfl ?_
    refine aw_isub (n := 79) C dX7_tellSeating_78 rfl ?_
    refine aw_cVi (n := 82) (vs := [_, _]) C dX7_tellSeating_79 rfl rfl rfl mm_X7_aboveBy wM_X7_186 rfl rfl (Nat.le_of_ble_eq_true rfl) (d_aboveBy (w := w - 10) (by omega) hS1 hd hP) (by decide) (fun z_79 S_79 q_79 => ?_)
    obtain ⟨qa, qb⟩ := q_79
    have hwn : w - 10 = (((w - 10).toNat : Nat) : Int) := by omega
    have ht := hS1.2.1
    rw [hq, hwn, fA2_one _ _ (by omega), ← hwn] at qa
    rw [qa, qb]
    refine aw_goto (tgt := 87) C dX7_tellSeating_82 rfl ?_
    refine hret 87 _ _ _ dX7_tellSeating_87 (Or.inl rfl) ?_
    have ht := hS1.2.1
    first | (exact ⟨g1, g2, by rw [if_neg e1, if_neg e2, if_neg e3, if_pos (by omega)]⟩) | (exact ⟨g1, g2, by rw [if_neg e1, if_neg e2, if_neg e3, if_neg (by omega)]⟩)
/-- what is against a stretch of a sheet -/
def fMs (s l t i n : Int) : Int := if s = -9 then 1 else if s = t then (if n < 0 then 4 else if i < 0 ∨ l < i ∨ l - i < n then 3 else 0) else 2
theorem fMs_0 {s l t i n : Int} (h : fMs s l t i n = 0) : s ≠ -9 ∧ s = t ∧ 0 ≤ n ∧ 0 ≤ i ∧ i + n ≤ l := by unfold fMs at h; omega
theorem fMs_r (s l t i n : Int) : 0 ≤ fMs s l t i n ∧ fMs s l t i n ≤ 4 := by unfold fMs; omega
/-- dues as the model has them -/
def dM (S : Mem) (m p : Int) : Int := due (S 66 7) (S 66 8) (RM S m.toNat p)
theorem MH_o {S' : Mem} (H : MH S) (h7 : S' 67 = S 67) (h8 : S' 68 = S 68) (h9 : S' 69 = S 69) : MH S' := by
  unfold MH
  rw [h7, h8, h9]
  exact H
theorem MW_0 {v : Int} (W : MW S) : MW (st2 S 66 0 v) := W
theorem d_seat_ok {post : Int → Mem → Prop} {k t i n w : Int} (hn0 : 0 ≤ n) (hn1 : n ≤ 32) (hb : 0 ≤ b ∧ b + n ≤ 240) (hc : ∀ j, rng (S 69 j)) (C : CX X 4 RX7 cX7_seating 9) (hret : ∀ (pc : Nat) (L : List (Option AV)) (z : Int) (S' : Mem), decode cX7_seating pc = .ok (.ireturn, 1) → ((some FieldType.int) = some .int ∨ ((some FieldType.int) = some .boolean ∧ (z = 0 ∨ z = 1))) → post z S' → AW X cX7_seating 9 pc L [.inl z] S') (hbad : ¬ (∀ j, 0 ≤ j → j < n → 0 ≤ S 69 (b + j) ∧ S 69 (b + j) < 3) → post (-2) S) (kk : (∀ j, 0 ≤ j → j < n → 0 ≤ S 69 (b + j) ∧ S 69 (b + j) < 3) → AW X cX7_seating 9 141 [some (.inr (.inr 66)), some (.inl k), some (.inl t), some (.inl i), some (.inl n), some (.inl w), some (.inl 0), some (.inl b), some (.inl n)] [] S) : ∀ (r j : Nat), (j : Int) + r = n → (∀ x, 0 ≤ x → x < (j : Int) → 0 ≤ S 69 (b + x) ∧ S 69 (b + x) < 3) → AW X cX7_seating 9 107 [some (.inr (.inr 66)), some (.inl k), some (.inl t), some (.inl i), some (.inl n), some (.inl w), some (.inl 0), some (.inl b), some (.inl j)] [] S := by
  intro r
  induction r with
  | zero =>
    intro j hj hv
    have ej : (j : Int) = n := by omega
    refine aw_ildw (n := 109) C dX7_seating_107 rfl rfl ?_
    refine aw_ildw (n := 111) C dX7_seating_109 rfl rfl ?_
    refine aw_icge (tgt := 141) (n := 114) C dX7_seating_111 rfl rfl (by omega) (by omega) (fun h_111 => ?_) (fun h_111 => ?_)
    · rw [ej]
      exact kk (fun x x0 x1 => hv x x0 (by omega))
    · omega
  | succ r ih =>
    intro j hj hv
    have hcj := hc (b + j)
    refine aw_ildw (n := 109) C dX7_seating_107 rfl rfl ?_
    refine aw_ildw (n := 111) C dX7_seating_109 rfl rfl ?_
    refine aw_icge (tgt := 141) (n := 114) C dX7_seating_111 rfl rfl (by omega) (by omega) (fun h_111 => ?_) (fun h_111 => ?_)
    · omega
    · refine aw_aldn (n := 115) C dX7_seating_114 rfl rfl ?_
      refine aw_getR (n := 118) C dX7_seating_115 rfl fl_X7_16 rfl rfl ?_
      refine aw_ildw (n := 120) C dX7_seating_118 rfl rfl ?_
      refine aw_ildw (n := 122) C dX7_seating_120 rfl rfl ?_
      refine aw_iadd (n := 123) C dX7_seating_122 rfl ?_
      refine aw_iald (n := 124) C dX7_seating_123 rfl rfl (by omega) (by omega) ?_
      refine aw_iconst (n := 125) C dX7_seating_124 rfl ?_
      refine aw_iconst (n := 126) C dX7_seating_125 rfl ?_
      refine aw_cSi (n := 129) (vs := [_, _, _]) C dX7_seating_126 rfl rfl rfl mm_X7_within wM_X7_77 (Nat.le_of_ble_eq_true rfl) (d_within (by omega) (by decide) (by decide)) (by decide) (fun z_126 S_126 q_126 => ?_)
      rw [q_126.1, q_126.2]
      clear q_126 S_126 z_126
      refine aw_ifne (tgt := 135) (n := 132) C dX7_seating_129 rfl rfl (by omega) (fun h_129 => ?_) (fun h_129 => ?_)
      · refine aw_iinc (n := 138) (L' := [_, _, _, _, _, _, _, _, _]) C dX7_seating_135 rfl rfl (by decide) rfl rfl ?_
        refine aw_goto (tgt := 107) C dX7_seating_138 rfl ?_
        refine ih (j + 1) (by omega) (fun x x0 x1 => ?_)
        by_cases e : x = j
        · rw [e]; omega
        · exact hv x x0 (by omega)
      · refine aw_bipush (n := 134) C dX7_seating_132 rfl rfl ?_
        refine hret 134 _ _ _ dX7_seating_134 (Or.inl rfl) ?_
        refine hbad (fun h => ?_)
        have := h j (by omega) (by omega)
        omega
theorem d_seat_141 {k t i n w : Int} (hn32 : n ≤ 32) (h5 : ¬ S 66 5 = 0) (hn : n = S 66 5 * S 66 6) (hok : ∀ j, 0 ≤ j → j < n → 0 ≤ S 69 (b + j) ∧ S 69 (b + j) < 3) (W : MW S) (hse : ∀ c, 0 ≤ c → c < 3 → 0 ≤ S 70 c ∧ S 70 c ≤ 4) (hmp0 : S 66 5 ≠ 0 → 0 < S 66 6) (hw : (0 ≤ w ∧ w ≤ 3) ∨ (10 ≤ w ∧ w ≤ 13)) (hb : 0 ≤ b ∧ b + n ≤ 240) (C : CX X 4 RX7 cX7_seating 9) (hret : ∀ (pc : Nat) (L : List (Option AV)) (z : Int) (S' : Mem), decode cX7_seating pc = .ok (.ireturn, 1) → ((some FieldType.int) = some .int ∨ ((some FieldType.int) = some .boolean ∧ (z = 0 ∨ z = 1))) → (fr 80 82 (st2 S 66 0 0) S' ∧ z = aSt (mq S b) (dM S) (S 70) (S 66 5).toNat (S 66 6).toNat w) → AW X cX7_seating 9 pc L [.inl z] S') : AW X cX7_seating 9 141 [some (.inr (.inr 66)), some (.inl k), some (.inl t), some (.inl i), some (.inl n), some (.inl w), some (.inl 0), some (.inl b), some (.inl n)] [] (st2 S 66 0 0) := by
  obtain ⟨t1, t2, t3, t4, t5, t6⟩ := id W
  have hp0 := hmp0 h5
  obtain ⟨M, hM⟩ : ∃ M : Nat, S 66 5 = M := ⟨(S 66 5).toNat, by omega⟩
  obtain ⟨P, hP⟩ : ∃ P : Nat, S 66 6 = P := ⟨(S 66 6).toNat, by omega⟩
  have hc : (M : Int) * P = ((M * P : Nat) : Int) := (Int.natCast_mul M P).symm
  have hS : MS (st2 S 66 0 0) M P b := by
    refine ⟨hM, hP, by omega, by omega, hb.1, ?_, fun j hj => ?_⟩
    · rw [← hc, ← hM, ← hP, ← hn]; exact hb.2
    · refine hok j (by omega) ?_
      rw [hn, hM, hP, hc]; omega
  have hf := fst1_r (bad (mq S b) P (S 70)) M 0
  rw [hM, hP, Int.toNat_natCast, Int.toNat_natCast] at hret
  unfold aSt at hret
  have eq1 : mq (st2 S 66 0 0) b = mq S b := rfl
  have e70 : st2 S 66 0 0 70 = S 70 := rfl
  refine aw_aldn (n := 142) C dX7_seating_141 rfl rfl ?_
  refine aw_ildw (n := 144) C dX7_seating_142 rfl rfl ?_
  refine aw_cVi (n := 147) (vs := [_]) C dX7_seating_144 rfl rfl rfl mm_X7_wrongBy wM_X7_171 rfl rfl (Nat.le_of_ble_eq_true rfl) (d_wrongBy hS hse) (by decide) (fun z_144 S_144 q_144 => ?_)
  rw [q_144.1, q_144.2, eq1, e70]
  generalize hF : fst1 (bad (mq S b) P (S 70)) M 0 = F at *
  refine aw_istw (n := 149) (L' := [_, _, _, _, _, _, _, _, _]) C dX7_seating_147 rfl (by decide) rfl rfl ?_
  refine aw_ildw (n := 151) C dX7_seating_149 rfl rfl ?_
  refine aw_iconst (n := 152) C dX7_seating_151 rfl ?_
  refine aw_icne (tgt := 158) (n := 155) C dX7_seating_152 rfl rfl (by omega) (by omega) (fun h_152 => ?_) (fun h_152 => ?_)
  · refine aw_ildw (n := 160) C dX7_seating_158 rfl rfl ?_
    refine aw_bipush (n := 162) C dX7_seating_160 rfl rfl ?_
    refine aw_icne (tgt := 176) (n := 165) C dX7_seating_162 rfl rfl (by omega) (by omega) (fun h_162 => ?_) (fun h_162 => ?_)
    · refine aw_bipush (n := 178) C dX7_seating_176 rfl rfl ?_
      refine aw_ildw (n := 180) C dX7_seating_178 rfl rfl ?_
      refine aw_isub (n := 181) C dX7_seating_180 rfl ?_
      refine hret 181 _ _ _ dX7_seating_181 (Or.inl rfl) ?_
      have hag := fun (S2 : Mem) g2 => aSt_congr (q := mq S b) (q' := mq S b) (du := mdu S2) (du' := dM S) (se := S 70) (se' := S 70) (M := M) (P := P) (w := w) (by omega) (by omega) (fun _ _ => rfl) g2 (fun _ _ _ => rfl)
      unfold aSt at hag
      rw [hF] at hag
      first | (refine ⟨fr_rf _ _ _, ?_⟩; rw [if_neg h_152, if_pos h_162]; done) | (refine ⟨g1, ?_⟩; rw [← hag S_170 (fun m p hm hp => by unfold mdu dM; rw [Int.toNat_natCast]; exact g2 m p hm hp), if_neg h_152, if_neg (by omega)]; exact g3)
    · refine aw_aldn (n := 166) C dX7_seating_165 rfl rfl ?_
      refine aw_ildw (n := 168) C dX7_seating_166 rfl rfl ?_
      refine aw_ildw (n := 170) C dX7_seating_168 rfl rfl ?_
      refine aw_cVi (n := 173) (vs := [_, _]) C dX7_seating_170 rfl rfl rfl mm_X7_tellSeating wM_X7_174 rfl rfl (Nat.le_of_ble_eq_true rfl) (d_tellSeating (MW_0 W) hS (by omega) (by omega) (by omega)) (by decide) (fun z_170 S_170 q_170 => ?_)
      obtain ⟨g1, g2, g3⟩ := q_170
      refine aw_goto (tgt := 181) C dX7_seating_173 rfl ?_
      refine hret 181 _ _ _ dX7_seating_181 (Or.inl rfl) ?_
      have hag := fun (S2 : Mem) g2 => aSt_congr (q := mq S b) (q' := mq S b) (du := mdu S2) (du' := dM S) (se := S 70) (se' := S 70) (M := M) (P := P) (w := w) (by omega) (by omega) (fun _ _ => rfl) g2 (fun _ _ _ => rfl)
      unfold aSt at hag
      rw [hF] at hag
      first | (refine ⟨fr_rf _ _ _, ?_⟩; rw [if_neg h_152, if_pos h_162]; done) | (refine ⟨g1, ?_⟩; rw [← hag S_170 (fun m p hm hp => by unfold mdu dM; rw [Int.toNat_natCast]; exact g2 m p hm hp), if_neg h_152, if_neg (by omega)]; exact g3)
  · refine aw_ildw (n := 157) C dX7_seating_155 rfl rfl ?_
    refine hret 157 _ _ _ dX7_seating_157 (Or.inl rfl) ?_
    exact ⟨fr_rf _ _ _, by rw [if_pos h_152]⟩
theorem m_seating {k t i n w : Int} (hk : rng k) (ht : rng t) (hi : rng i) (hn : rng n) (hw : rng w) (W : MW S) (H : MH S) (hse : ∀ c, 0 ≤ c → c < 3 → 0 ≤ S 70 c ∧ S 70 c ≤ 4) (hmp0 : S 66 5 ≠ 0 → 0 < S 66 6) : AMi 4 yX7_seating cX7_seating 9 (some .int) [.inr (.inr 66), .inl k, .inl t, .inl i, .inl n, .inl w] S (fun z S' => (if k < 0 ∨ 4 ≤ k then z = -1 ∧ S' = st2 S 66 0 0 else if t < 0 ∨ 3 ≤ t ∨ ¬ ((0 ≤ w ∧ w ≤ 3) ∨ (10 ≤ w ∧ w ≤ 13)) then z = -2 ∧ S' = st2 S 66 0 0 else if fMs (S 67 k) (S 68 k) t i n ≠ 0 then z = -10 - fMs (S 67 k) (S 68 k) t i n ∧ S' = st2 S 66 0 (fMs (S 67 k) (S 68 k) t i n) else if S 66 5 = 0 then z = -3 ∧ S' = st2 S 66 0 0 else if n ≠ S 66 5 * S 66 6 then z = -2 ∧ S' = st2 S 66 0 0 else fr 80 82 (st2 S 66 0 0) S' ∧ (¬ (∀ j, 0 ≤ j → j < n → 0 ≤ S 69 (60 * k + i + j) ∧ S 69 (60 * k + i + j) < 3) → z = -2) ∧ ((∀ j, 0 ≤ j → j < n → 0 ≤ S 69 (60 * k + i + j) ∧ S 69 (60 * k + i + j) < 3) → z = aSt (mq S (60 * k + i)) (dM S) (S 70) (S 66 5).toNat (S 66 6).toNat w))) := by
  obtain ⟨t1, t2, t3, t4, t5, t6⟩ := id W
  have hmp := mp_in t1.1 t1.2 t2.1 t2.2
  have e5 : st2 S 66 0 0 66 5 = S 66 5 := rfl
  have e6 : st2 S 66 0 0 66 6 = S 66 6 := rfl
  refine ami_intro (L := [_, _, _, _, _, _, none, none, none]) (by decide) (Or.inl rfl) rfl (Nat.le_of_ble_eq_true rfl) (fun X C hret => ?_)
  refine aw_aldn (n := 1) C dX7_seating_0 rfl rfl ?_
  refine aw_iconst (n := 2) C dX7_seating_1 rfl ?_
  refine aw_put (z := 0) (n := 5) C dX7_seating_2 rfl fp_X7_71 rfl rfl rfl (Or.inl rfl) ?_
  refine aw_ildn (n := 6) C dX7_seating_5 rfl rfl ?_
  refine aw_cSi (n := 9) (vs := [_]) C dX7_seating_6 rfl rfl rfl mm_X7_isSheet wM_X7_90 (Nat.le_of_ble_eq_true rfl) (d_isSheet hk) (by decide) (fun z_6 S_6 q_6 => ?_)
  rw [q_6.1, q_6.2]
  clear q_6 S_6 z_6
  refine aw_ifne (tgt := 14) (n := 12) C dX7_seating_9 rfl rfl (by omega) (fun h_9 => ?_) (fun h_9 => ?_)
  · refine aw_ildn (n := 15) C dX7_seating_14 rfl rfl ?_
    refine aw_cSi (n := 18) (vs := [_]) C dX7_seating_15 rfl rfl rfl mm_X7_isSort wM_X7_94 (Nat.le_of_ble_eq_true rfl) (d_isSort ht) (by decide) (fun z_15 S_15 q_15 => ?_)
    rw [q_15.1, q_15.2]
    clear q_15 S_15 z_15
    refine aw_ifeq (tgt := 43) (n := 21) C dX7_seating_18 rfl rfl (by omega) (fun h_18 => ?_) (fun h_18 => ?_)
    · refine aw_bipush (n := 45) C dX7_seating_43 rfl rfl ?_
      refine hret 45 _ _ _ dX7_seating_45 (Or.inl rfl) ?_
      rw [if_neg (by omega), if_pos (by omega)]
      exact ⟨rfl, rfl⟩
    · refine aw_ildw (n := 23) C dX7_seating_21 rfl rfl ?_
      refine aw_iconst (n := 24) C dX7_seating_23 rfl ?_
      refine aw_iconst (n := 25) C dX7_seating_24 rfl ?_
      refine aw_cSi (n := 28) (vs := [_, _, _]) C dX7_seating_25 rfl rfl rfl mm_X7_within wM_X7_77 (Nat.le_of_ble_eq_true rfl) (d_within hw (by decide) (by decide)) (by decide) (fun z_25 S_25 q_25 => ?_)
      rw [q_25.1, q_25.2]
      clear q_25 S_25 z_25
      refine aw_ifne (tgt := 46) (n := 31) C dX7_seating_28 rfl rfl (by omega) (fun h_28 => ?_) (fun h_28 => ?_)
      · refine aw_aldn (n := 47) C dX7_seating_46 rfl rfl ?_
        refine aw_ildn (n := 48) C dX7_seating_47 rfl rfl ?_
        refine aw_ildn (n := 49) C dX7_seating_48 rfl rfl ?_
        refine aw_ildn (n := 50) C dX7_seating_49 rfl rfl ?_
        refine aw_ildw (n := 52) C dX7_seating_50 rfl rfl ?_
        have hfr := fMs_r (S 67 k) (S 68 k) t i n
        have hk2 := H.1 k (by omega) (by omega)
        refine aw_cVi (n := 55) (vs := [_, _, _, _]) C dX7_seating_52 rfl rfl rfl mm_X7_against wM_X7_97 rfl rfl (Nat.le_of_ble_eq_true rfl) (d_against (S := st2 S 66 0 0) H (by omega) (by omega) ht hi hn) (by decide) (fun z_52 S_52 q_52 => ?_)
        obtain ⟨qa, qb⟩ := q_52
        have qa2 : z_52 = fMs (S 67 k) (S 68 k) t i n := qa
        rw [qb]
        clear qa
        generalize hF : fMs (S 67 k) (S 68 k) t i n = F at *
        subst qa2
        refine aw_istw (n := 57) (L' := [_, _, _, _, _, _, _, _, _]) C dX7_seating_55 rfl (by decide) rfl rfl ?_
        refine aw_ildw (n := 59) C dX7_seating_57 rfl rfl ?_
        refine aw_ifeq (tgt := 69) (n := 62) C dX7_seating_59 rfl rfl (by omega) (fun h_59 => ?_) (fun h_59 => ?_)
        · refine aw_aldn (n := 70) C dX7_seating_69 rfl rfl ?_
          refine aw_getI (z := 5) (n := 73) C dX7_seating_70 rfl fl_X7_84 rfl rfl rfl ?_
          rw [e5]
          refine aw_ifne (tgt := 79) (n := 76) C dX7_seating_73 rfl rfl (by omega) (fun h_73 => ?_) (fun h_73 => ?_)
          · refine aw_ildw (n := 81) C dX7_seating_79 rfl rfl ?_
            refine aw_aldn (n := 82) C dX7_seating_81 rfl rfl ?_
            refine aw_getI (z := 5) (n := 85) C dX7_seating_82 rfl fl_X7_84 rfl rfl rfl ?_
            refine aw_aldn (n := 86) C dX7_seating_85 rfl rfl ?_
            refine aw_getI (z := 6) (n := 89) C dX7_seating_86 rfl fl_X7_81 rfl rfl rfl ?_
            rw [e5, e6]
            refine aw_imul (n := 90) C dX7_seating_89 rfl ?_
            refine aw_iceq (tgt := 96) (n := 93) C dX7_seating_90 rfl rfl (by omega) (by omega) (fun h_90 => ?_) (fun h_90 => ?_)
            · refine aw_bipush (n := 98) C dX7_seating_96 rfl rfl ?_
              refine aw_ildn (n := 99) C dX7_seating_98 rfl rfl ?_
              refine aw_imul (n := 100) C dX7_seating_99 rfl ?_
              refine aw_ildn (n := 101) C dX7_seating_100 rfl rfl ?_
              refine aw_iadd (n := 102) C dX7_seating_101 rfl ?_
              refine aw_istw (n := 104) (L' := [_, _, _, _, _, _, _, _, _]) C dX7_seating_102 rfl (by decide) rfl rfl ?_
              refine aw_iconst (n := 105) C dX7_seating_104 rfl ?_
              refine aw_istw (n := 107) (L' := [_, _, _, _, _, _, _, _, _]) C dX7_seating_105 rfl (by decide) rfl rfl ?_
              subst h_59
              obtain ⟨f1, f2, f3, f4, f5⟩ := fMs_0 hF
              have hn32 : n ≤ 32 := by omega
              have hbb : 0 ≤ 60 * k + i ∧ 60 * k + i + n ≤ 240 := by omega
              have hr2 := fun (z : Int) (S' : Mem) => hret 181 (z := z) (S' := S')
              refine d_seat_ok (S := st2 S 66 0 0) (by omega) hn32 hbb H.2 C hret ?_ ?_ n.toNat 0 (by omega) (fun x x0 x1 => by omega)
              · intro hno
                rw [if_neg (by omega), if_neg (by omega), if_neg (by omega), if_neg (by omega), if_neg (by omega)]
                exact ⟨fr_rf _ _ _, fun _ => rfl, fun h => absurd h hno⟩
              · intro hok
                exact d_seat_141 hn32 h_73 h_90 hok W hse hmp0 (by omega) hbb C (fun pc L z S' hd ho hz => hret pc L z S' hd ho (by rw [if_neg (by omega), if_neg (by omega), if_neg (by omega), if_neg (by omega), if_neg (by omega)]; exact ⟨hz.1, fun h => absurd hok h, fun _ => hz.2⟩))
            · refine aw_bipush (n := 95) C dX7_seating_93 rfl rfl ?_
              refine hret 95 _ _ _ dX7_seating_95 (Or.inl rfl) ?_
              rw [if_neg (by omega), if_neg (by omega), if_neg (by omega), if_neg (by omega), if_pos (by omega)]
              exact ⟨rfl, rfl⟩
          · refine aw_bipush (n := 78) C dX7_seating_76 rfl rfl ?_
            refine hret 78 _ _ _ dX7_seating_78 (Or.inl rfl) ?_
            rw [if_neg (by omega), if_neg (by omega), if_neg (by omega), if_pos (by first | assumption | omega)]
            exact ⟨rfl, rfl⟩
        · refine aw_aldn (n := 63) C dX7_seating_62 rfl rfl ?_
          refine aw_ildw (n := 65) C dX7_seating_63 rfl rfl ?_
          refine aw_cVi (n := 68) (vs := [_]) C dX7_seating_65 rfl rfl rfl mm_X7_fails wM_X7_101 rfl rfl (Nat.le_of_ble_eq_true rfl) (d_fails) (by decide) (fun z_65 S_65 q_65 => ?_)
          rw [q_65.1, q_65.2]
          clear q_65 S_65 z_65
          refine hret 68 _ _ _ dX7_seating_68 (Or.inl rfl) ?_
          rw [if_neg (by omega), if_neg (by omega), if_pos (by omega), st2_st2]
          exact ⟨rfl, rfl⟩
      · refine aw_ildw (n := 33) C dX7_seating_31 rfl rfl ?_
        refine aw_bipush (n := 35) C dX7_seating_33 rfl rfl ?_
        refine aw_bipush (n := 37) C dX7_seating_35 rfl rfl ?_
        refine aw_cSi (n := 40) (vs := [_, _, _]) C dX7_seating_37 rfl rfl rfl mm_X7_within wM_X7_77 (Nat.le_of_ble_eq_true rfl) (d_within hw (by decide) (by decide)) (by decide) (fun z_37 S_37 q_37 => ?_)
        rw [q_37.1, q_37.2]
        clear q_37 S_37 z_37
        refine aw_ifne (tgt := 46) (n := 43) C dX7_seating_40 rfl rfl (by omega) (fun h_40 => ?_) (fun h_40 => ?_)
        · refine aw_aldn (n := 47) C dX7_seating_46 rfl rfl ?_
          refine aw_ildn (n := 48) C dX7_seating_47 rfl rfl ?_
          refine aw_ildn (n := 49) C dX7_seating_48 rfl rfl ?_
          refine aw_ildn (n := 50) C dX7_seating_49 rfl rfl ?_
          refine aw_ildw (n := 52) C dX7_seating_50 rfl rfl ?_
          have hfr := fMs_r (S 67 k) (S 68 k) t i n
          have hk2 := H.1 k (by omega) (by omega)
          refine aw_cVi (n := 55) (vs := [_, _, _, _]) C dX7_seating_52 rfl rfl rfl mm_X7_against wM_X7_97 rfl rfl (Nat.le_of_ble_eq_true rfl) (d_against (S := st2 S 66 0 0) H (by omega) (by omega) ht hi hn) (by decide) (fun z_52 S_52 q_52 => ?_)
          obtain ⟨qa, qb⟩ := q_52
          have qa2 : z_52 = fMs (S 67 k) (S 68 k) t i n := qa
          rw [qb]
          clear qa
          generalize hF : fMs (S 67 k) (S 68 k) t i n = F at *
          subst qa2
          refine aw_istw (n := 57) (L' := [_, _, _, _, _, _, _, _, _]) C dX7_seating_55 rfl (by decide) rfl rfl ?_
          refine aw_ildw (n := 59) C dX7_seating_57 rfl rfl ?_
          refine aw_ifeq (tgt := 69) (n := 62) C dX7_seating_59 rfl rfl (by omega) (fun h_59 => ?_) (fun h_59 => ?_)
          · refine aw_aldn (n := 70) C dX7_seating_69 rfl rfl ?_
            refine aw_getI (z := 5) (n := 73) C dX7_seating_70 rfl fl_X7_84 rfl rfl rfl ?_
            rw [e5]
            refine aw_ifne (tgt := 79) (n := 76) C dX7_seating_73 rfl rfl (by omega) (fun h_73 => ?_) (fun h_73 => ?_)
            · refine aw_ildw (n := 81) C dX7_seating_79 rfl rfl ?_
              refine aw_aldn (n := 82) C dX7_seating_81 rfl rfl ?_
              refine aw_getI (z := 5) (n := 85) C dX7_seating_82 rfl fl_X7_84 rfl rfl rfl ?_
              refine aw_aldn (n := 86) C dX7_seating_85 rfl rfl ?_
              refine aw_getI (z := 6) (n := 89) C dX7_seating_86 rfl fl_X7_81 rfl rfl rfl ?_
              rw [e5, e6]
              refine aw_imul (n := 90) C dX7_seating_89 rfl ?_
              refine aw_iceq (tgt := 96) (n := 93) C dX7_seating_90 rfl rfl (by omega) (by omega) (fun h_90 => ?_) (fun h_90 => ?_)
              · refine aw_bipush (n := 98) C dX7_seating_96 rfl rfl ?_
                refine aw_ildn (n := 99) C dX7_seating_98 rfl rfl ?_
                refine aw_imul (n := 100) C dX7_seating_99 rfl ?_
                refine aw_ildn (n := 101) C dX7_seating_100 rfl rfl ?_
                refine aw_iadd (n := 102) C dX7_seating_101 rfl ?_
                refine aw_istw (n := 104) (L' := [_, _, _, _, _, _, _, _, _]) C dX7_seating_102 rfl (by decide) rfl rfl ?_
                refine aw_iconst (n := 105) C dX7_seating_104 rfl ?_
                refine aw_istw (n := 107) (L' := [_, _, _, _, _, _, _, _, _]) C dX7_seating_105 rfl (by decide) rfl rfl ?_
                subst h_59
                obtain ⟨f1, f2, f3, f4, f5⟩ := fMs_0 hF
                have hn32 : n ≤ 32 := by omega
                have hbb : 0 ≤ 60 * k + i ∧ 60 * k + i + n ≤ 240 := by omega
                have hr2 := fun (z : Int) (S' : Mem) => hret 181 (z := z) (S' := S')
                refine d_seat_ok (S := st2 S 66 0 0) (by omega) hn32 hbb H.2 C hret ?_ ?_ n.toNat 0 (by omega) (fun x x0 x1 => by omega)
                · intro hno
                  rw [if_neg (by omega), if_neg (by omega), if_neg (by omega), if_neg (by omega), if_neg (by omega)]
                  exact ⟨fr_rf _ _ _, fun _ => rfl, fun h => absurd h hno⟩
                · intro hok
                  exact d_seat_141 hn32 h_73 h_90 hok W hse hmp0 (by omega) hbb C (fun pc L z S' hd ho hz => hret pc L z S' hd ho (by rw [if_neg (by omega), if_neg (by omega), if_neg (by omega), if_neg (by omega), if_neg (by omega)]; exact ⟨hz.1, fun h => absurd hok h, fun _ => hz.2⟩))
              · refine aw_bipush (n := 95) C dX7_seating_93 rfl rfl ?_
                refine hret 95 _ _ _ dX7_seating_95 (Or.inl rfl) ?_
                rw [if_neg (by omega), if_neg (by omega), if_neg (by omega), if_neg (by omega), if_pos (by omega)]
                exact ⟨rfl, rfl⟩
            · refine aw_bipush (n := 78) C dX7_seating_76 rfl rfl ?_
              refine hret 78 _ _ _ dX7_seating_78 (Or.inl rfl) ?_
              rw [if_neg (by omega), if_neg (by omega), if_neg (by omega), if_pos (by first | assumption | omega)]
              exact ⟨rfl, rfl⟩
          · refine aw_aldn (n := 63) C dX7_seating_62 rfl rfl ?_
            refine aw_ildw (n := 65) C dX7_seating_63 rfl rfl ?_
            refine aw_cVi (n := 68) (vs := [_]) C dX7_seating_65 rfl rfl rfl mm_X7_fails wM_X7_101 rfl rfl (Nat.le_of_ble_eq_true rfl) (d_fails) (by decide) (fun z_65 S_65 q_65 => ?_)
            rw [q_65.1, q_65.2]
            clear q_65 S_65 z_65
            refine hret 68 _ _ _ dX7_seating_68 (Or.inl rfl) ?_
            rw [if_neg (by omega), if_neg (by omega), if_pos (by omega), st2_st2]
            exact ⟨rfl, rfl⟩
        · refine aw_bipush (n := 45) C dX7_seating_43 rfl rfl ?_
          refine hret 45 _ _ _ dX7_seating_45 (Or.inl rfl) ?_
          rw [if_neg (by omega), if_pos (by omega)]
          exact ⟨rfl, rfl⟩
  · refine aw_iconst (n := 13) C dX7_seating_12 rfl ?_
    refine hret 13 _ _ _ dX7_seating_13 (Or.inl rfl) ?_
    rw [if_pos (by omega)]
    exact ⟨rfl, rfl⟩
end MSE
