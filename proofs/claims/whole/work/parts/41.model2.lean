/-! the model: dues laid, seatings -/
section MSE
variable {X : AMX} {S : Mem} {M P : Nat} {b : Int}
theorem d_layDues_in {i : Nat} {S0 : Mem} (W : MW S) (h6 : S 66 6 = (P : Int)) (hi : i < 8) (hr : ∀ p, 0 ≤ p → p < S 66 6 → rng (S0 80 p)) (e66 : S0 66 = S 66) (C : CX X 2 RX7 cX7_layDues 3) (k : ∀ S1 : Mem, fr 81 82 S0 S1 → (∀ q : Nat, q < P → S1 81 (4 * (i : Int) + q) = due (S 66 7) (S 66 8) (S0 80 q)) → (∀ j : Int, j < 4 * (i : Int) → S1 81 j = S0 81 j) → AW X cX7_layDues 3 50 [some (.inr (.inr 66)), some (.inl i), some (.inl P)] [] S1) : ∀ (n p : Nat) (S1 : Mem), p + n = P → fr 81 82 S0 S1 → (∀ q : Nat, q < p → S1 81 (4 * (i : Int) + q) = due (S 66 7) (S 66 8) (S0 80 q)) → (∀ j : Int, j < 4 * (i : Int) → S1 81 j = S0 81 j) → AW X cX7_layDues 3 16 [some (.inr (.inr 66)), some (.inl i), some (.inl p)] [] S1 := by
  obtain ⟨t1, t2, t3, t4, t5, t6⟩ := id W
  intro n
  induction n with
  | zero =>
    intro p S1 hp hf hv ho
    obtain rfl : p = P := by omega
    have e6 : S1 66 6 = S 66 6 := by rw [hf 66 (by omega), e66]
    refine aw_ildn (n := 17) C dX7_layDues_16 rfl rfl ?_
    refine aw_aldn (n := 18) C dX7_layDues_17 rfl rfl ?_
    refine aw_getI (z := 6) (n := 21) C dX7_layDues_18 rfl fl_X7_81 rfl rfl rfl ?_
    refine aw_icge (tgt := 50) (n := 24) C dX7_layDues_21 rfl rfl (by omega) (by omega) (fun h_21 => ?_) (fun h_21 => ?_)
    · exact k S1 hf hv ho
    · omega
  | succ n ih =>
    intro p S1 hp hf hv ho
    have e6 : S1 66 6 = S 66 6 := by rw [hf 66 (by omega), e66]
    have e7 : S1 66 7 = S 66 7 := by rw [hf 66 (by omega), e66]
    have e8 : S1 66 8 = S 66 8 := by rw [hf 66 (by omega), e66]
    have hr1 := hr p (by omega) (by omega)
    refine aw_ildn (n := 17) C dX7_layDues_16 rfl rfl ?_
    refine aw_aldn (n := 18) C dX7_layDues_17 rfl rfl ?_
    refine aw_getI (z := 6) (n := 21) C dX7_layDues_18 rfl fl_X7_81 rfl rfl rfl ?_
    refine aw_icge (tgt := 50) (n := 24) C dX7_layDues_21 rfl rfl (by omega) (by omega) (fun h_21 => ?_) (fun h_21 => ?_)
    · omega
    · refine aw_aldn (n := 25) C dX7_layDues_24 rfl rfl ?_
      refine aw_getR (n := 28) C dX7_layDues_25 rfl fl_X7_53 rfl rfl ?_
      refine aw_iconst (n := 29) C dX7_layDues_28 rfl ?_
      refine aw_ildn (n := 30) C dX7_layDues_29 rfl rfl ?_
      refine aw_imul (n := 31) C dX7_layDues_30 rfl ?_
      refine aw_ildn (n := 32) C dX7_layDues_31 rfl rfl ?_
      refine aw_iadd (n := 33) C dX7_layDues_32 rfl ?_
      refine aw_aldn (n := 34) C dX7_layDues_33 rfl rfl ?_
      refine aw_aldn (n := 35) C dX7_layDues_34 rfl rfl ?_
      refine aw_getR (n := 38) C dX7_layDues_35 rfl fl_X7_50 rfl rfl ?_
      refine aw_ildn (n := 39) C dX7_layDues_38 rfl rfl ?_
      refine aw_iald (n := 40) C dX7_layDues_39 rfl rfl (by omega) (by omega) ?_
      rw [hf 80 (by omega)]
      refine aw_cVi (n := 43) (vs := [_]) C dX7_layDues_40 rfl rfl rfl mm_X7_dueBy wM_X7_165 rfl rfl (Nat.le_of_ble_eq_true rfl) (d_dueBy (r := S0 80 p) (by omega) (by omega) (by omega)) (by decide) (fun z_40 S_40 q_40 => ?_)
      rw [q_40.1, q_40.2]
      clear q_40 S_40 z_40
      rw [e7, e8]
      refine aw_iast (n := 44) C dX7_layDues_43 rfl rfl (by omega) (by omega) ?_
      refine aw_iinc (n := 47) (L' := [_, _, _]) C dX7_layDues_44 rfl rfl (by decide) rfl rfl ?_
      refine aw_goto (tgt := 16) C dX7_layDues_47 rfl ?_
      refine ih (p + 1) _ (by omega) (fr_tr hf (fr_w (fr_st _ _ _ _) (by omega) (by omega))) (fun q hq => ?_) (fun j hj => ?_)
      · by_cases h : q = p
        · rw [h, st2_s]
        · rw [st2_n (by omega)]; exact hv q (by omega)
      · rw [st2_n (by omega)]; exact ho j hj
theorem d_layDues_loop {post : Mem → Prop} (W : MW S) (h5 : S 66 5 = (M : Int)) (h6 : S 66 6 = (P : Int)) (C : CX X 2 RX7 cX7_layDues 3) (hret : ∀ (pc : Nat) (L : List (Option AV)) (S' : Mem), decode cX7_layDues pc = .ok (.return_, 1) → post S' → AW X cX7_layDues 3 pc L [] S') (hp : ∀ S', fr 80 82 S S' → (∀ m q : Nat, m < M → q < P → S' 81 (4 * (m : Int) + q) = due (S 66 7) (S 66 8) (RM S m q)) → post S') : ∀ (n i : Nat) (S1 : Mem) (x : Option AV), i + n = M → fr 80 82 S S1 → (∀ p, 0 ≤ p → p < S 66 6 → S1 80 p = RM S i p) → (∀ m q : Nat, m < i → q < P → S1 81 (4 * (m : Int) + q) = due (S 66 7) (S 66 8) (RM S m q)) → AW X cX7_layDues 3 6 [some (.inr (.inr 66)), some (.inl i), x] [] S1 := by
  obtain ⟨t1, t2, t3, t4, t5, t6⟩ := id W
  intro n
  induction n with
  | zero =>
    intro i S1 x hi hf hv ho
    obtain rfl : i = M := by omega
    have e5 : S1 66 5 = S 66 5 := by rw [hf 66 (by omega)]
    refine aw_ildn (n := 7) C dX7_layDues_6 rfl rfl ?_
    refine aw_aldn (n := 8) C dX7_layDues_7 rfl rfl ?_
    refine aw_getI (z := 5) (n := 11) C dX7_layDues_8 rfl fl_X7_84 rfl rfl rfl ?_
    refine aw_icge (tgt := 67) (n := 14) C dX7_layDues_11 rfl rfl (by omega) (by omega) (fun h_11 => ?_) (fun h_11 => ?_)
    · refine hret 67 _ _ dX7_layDues_67 ?_
      exact hp S1 hf ho
    · omega
  | succ n ih =>
    intro i S1 x hi hf hv ho
    have e66 := hf 66 (by omega)
    have e5 : S1 66 5 = S 66 5 := by rw [e66]
    have ht := (t5 i (by omega) (by omega)).1
    have k50 : ∀ S2 : Mem, fr 81 82 S1 S2 → (∀ q : Nat, q < P → S2 81 (4 * (i : Int) + q) = due (S 66 7) (S 66 8) (S1 80 q)) → (∀ j : Int, j < 4 * (i : Int) → S2 81 j = S1 81 j) → AW X cX7_layDues 3 50 [some (.inr (.inr 66)), some (.inl i), some (.inl P)] [] S2 := by
      intro S2 hf2 hv2 ho2
      have hff : fr 80 82 S S2 := fr_tr hf (fr_w hf2 (by omega) (by omega))
      have W2 := MW_fr W hff (by omega)
      have f66 := hff 66 (by omega)
      have hv80 : ∀ p, 0 ≤ p → p < S 66 6 → S2 80 p = RM S i p := fun p p0 p1 => by rw [hf2 80 (by omega)]; exact hv p p0 p1
      refine aw_aldn (n := 51) C dX7_layDues_50 rfl rfl ?_
      refine aw_ildn (n := 52) C dX7_layDues_51 rfl rfl ?_
      refine aw_aldn (n := 53) C dX7_layDues_52 rfl rfl ?_
      refine aw_getR (n := 56) C dX7_layDues_53 rfl fl_X7_22 rfl rfl ?_
      refine aw_ildn (n := 57) C dX7_layDues_56 rfl rfl ?_
      refine aw_zald (n := 58) C dX7_layDues_57 rfl rfl (by omega) (by omega) ?_
      rw [hff 71 (by omega)]
      refine aw_cVv (n := 61) (vs := [_, _]) C dX7_layDues_58 rfl rfl rfl mm_X7_goMile wM_X7_153 rfl rfl (Nat.le_of_ble_eq_true rfl) (d_goMile (m := i) W2 (by rw [f66]; omega) ht (fun p p0 p1 => by rw [f66] at p1; rw [hv80 p p0 p1]; exact RM_r W i p p0 p1)) (by decide) (fun S_58 q_58 => ?_)
      obtain ⟨g1, g2⟩ := q_58
      rw [f66, hff 74 (by omega), hff 76 (by omega), hff 72 (by omega), hff 73 (by omega)] at g2
      refine aw_iinc (n := 64) (L' := [_, _, _]) C dX7_layDues_61 rfl rfl (by decide) rfl rfl ?_
      refine aw_goto (tgt := 6) C dX7_layDues_64 rfl ?_
      refine ih (i + 1) _ _ (by omega) (fr_tr hff (fr_w g1 (by omega) (by omega))) (fun p p0 p1 => by rw [g2 p p0 p1]; exact RM_next W (by omega) hv80 p p0 p1) (fun m q hm hq => ?_)
      rw [g1 81 (by omega)]
      by_cases h : m = i
      · rw [h, hv2 q hq, hv q (by omega) (by omega)]
      · rw [ho2 _ (by omega)]; exact ho m q (by omega) hq
    refine aw_ildn (n := 7) C dX7_layDues_6 rfl rfl ?_
    refine aw_aldn (n := 8) C dX7_layDues_7 rfl rfl ?_
    refine aw_getI (z := 5) (n := 11) C dX7_layDues_8 rfl fl_X7_84 rfl rfl rfl ?_
    refine aw_icge (tgt := 67) (n := 14) C dX7_layDues_11 rfl rfl (by omega) (by omega) (fun h_11 => ?_) (fun h_11 => ?_)
    · omega
    · refine aw_iconst (n := 15) C dX7_layDues_14 rfl ?_
      refine aw_istn (n := 16) (L' := [_, _, _]) C dX7_layDues_15 rfl (by decide) rfl rfl ?_
      exact d_layDues_in (i := i) W h6 (by omega) (fun p p0 p1 => by have := RM_r W i p p0 p1; rw [hv p p0 p1]; omega) e66 C k50 P 0 S1 (by omega) (fr_rf _ _ _) (fun q hq => absurd hq (by omega)) (fun j _ => rfl)
theorem d_layDues (W : MW S) (h5 : S 66 5 = (M : Int)) (h6 : S 66 6 = (P : Int)) : AMv 2 yX7_layDues cX7_layDues 3 [.inr (.inr 66)] S (fun S' => fr 80 82 S S' ∧ ∀ m q : Nat, m < M → q < P → S' 81 (4 * (m : Int) + q) = due (S 66 7) (S 66 8) (RM S m q)) := by
  obtain ⟨t1, t2, t3, t4, t5, t6⟩ := id W
  refine amv_intro (L := [_, none, none]) (by decide) rfl (Nat.le_of_ble_eq_true rfl) (fun X C hret => ?_)
  refine aw_aldn (n := 1) C dX7_layDues_0 rfl rfl ?_
  refine aw_cVv (n := 4) (vs := []) C dX7_layDues_1 rfl rfl rfl mm_X7_begin wM_X7_150 rfl rfl (Nat.le_of_ble_eq_true rfl) (d_begin t2) (by decide) (fun S_1 q_1 => ?_)
  obtain ⟨g1, g2⟩ := q_1
  refine aw_iconst (n := 5) C dX7_layDues_4 rfl ?_
  refine aw_istn (n := 6) (L' := [_, _, _]) C dX7_layDues_5 rfl (by decide) rfl rfl ?_
  exact d_layDues_loop W h5 h6 C hret (fun S' a b => ⟨a, b⟩) M 0 _ _ (by omega) (fr_w g1 (by omega) (by omega)) g2 (fun m q hm => absurd hm (by omega))
/-- a seating at b in the cells -/
def MS (S : Mem) (M P : Nat) (b : Int) : Prop := S 66 5 = (M : Int) ∧ S 66 6 = (P : Int) ∧ M ≤ 8 ∧ P ≤ 4 ∧ 0 ≤ b ∧ b + ((M * P : Nat) : Int) ≤ 240 ∧ ∀ j : Nat, j < M * P → 0 ≤ S 69 (b + j) ∧ S 69 (b + j) < 3
def mq (S : Mem) (b : Int) : Fn := fun j => S 69 (b + j)
theorem ix_n {m p M P : Nat} (hm : m < M) (hp : p < P) : m * P + p < M * P := by
  have : (m + 1) * P ≤ M * P := Nat.mul_le_mul_right P hm
  rw [Nat.succ_mul] at this
  omega
theorem mp_n {M P : Nat} (hm : M ≤ 8) (hp : P ≤ 4) : M * P ≤ 32 := Nat.le_trans (Nat.mul_le_mul hm hp) (Nat.le_refl 32)
theorem d_seatedIn_loop {post : Int → Mem → Prop} {r c : Int} (h6 : S 66 6 = (P : Int)) (hP : P ≤ 4) (hr0 : 0 ≤ r) (hr1 : r + P ≤ 240) (hv : ∀ q : Nat, q < P → rng (S 69 (r + q))) (hc : rng c) (C : CX X 0 RX7 cX7_seatedIn 5) (hret : ∀ (pc : Nat) (L : List (Option AV)) (z : Int) (S' : Mem), decode cX7_seatedIn pc = .ok (.ireturn, 1) → ((some FieldType.int) = some .int ∨ ((some FieldType.int) = some .boolean ∧ (z = 0 ∨ z = 1))) → post z S' → AW X cX7_seatedIn 5 pc L [.inl z] S') (hp : post (sm (fun x => if S 69 (r + (x : Int)) = c then 1 else 0) P) S) : ∀ (n p : Nat), p + n = P → AW X cX7_seatedIn 5 5 [some (.inr (.inr 66)), some (.inl r), some (.inl c), some (.inl (sm (fun x => if S 69 (r + (x : Int)) = c then 1 else 0) p)), some (.inl p)] [] S := by
  intro n
  induction n with
  | zero =>
    intro p hpn
    obtain rfl : p = P := by omega
    refine aw_ildw (n := 7) C dX7_seatedIn_5 rfl rfl ?_
    refine aw_aldn (n := 8) C dX7_seatedIn_7 rfl rfl ?_
    refine aw_getI (z := 6) (n := 11) C dX7_seatedIn_8 rfl fl_X7_81 rfl rfl rfl ?_
    refine aw_icge (tgt := 41) (n := 14) C dX7_seatedIn_11 rfl rfl (by omega) (by omega) (fun h_11 => ?_) (fun h_11 => ?_)
    · refine aw_ildn (n := 42) C dX7_seatedIn_41 rfl rfl ?_
      refine hret 42 _ _ _ dX7_seatedIn_42 (Or.inl rfl) ?_
      exact hp
    · omega
  | succ n ih =>
    intro p hpn
    have hs := sm_r (f := fun x : Nat => if S 69 (r + (x : Int)) = c then (1 : Int) else 0) (a := 1) (n := p) (fun k _ => by split <;> omega)
    have hvp := hv p (by omega)
    refine aw_ildw (n := 7) C dX7_seatedIn_5 rfl rfl ?_
    refine aw_aldn (n := 8) C dX7_seatedIn_7 rfl rfl ?_
    refine aw_getI (z := 6) (n := 11) C dX7_seatedIn_8 rfl fl_X7_81 rfl rfl rfl ?_
    refine aw_icge (tgt := 41) (n := 14) C dX7_seatedIn_11 rfl rfl (by omega) (by omega) (fun h_11 => ?_) (fun h_11 => ?_)
    · omega
    · refine aw_ildn (n := 15) C dX7_seatedIn_14 rfl rfl ?_
      refine aw_aldn (n := 16) C dX7_seatedIn_15 rfl rfl ?_
      refine aw_getR (n := 19) C dX7_seatedIn_16 rfl fl_X7_16 rfl rfl ?_
      refine aw_ildn (n := 20) C dX7_seatedIn_19 rfl rfl ?_
      refine aw_ildw (n := 22) C dX7_seatedIn_20 rfl rfl ?_
      refine aw_iadd (n := 23) C dX7_seatedIn_22 rfl ?_
      refine aw_iald (n := 24) C dX7_seatedIn_23 rfl rfl (by omega) (by omega) ?_
      refine aw_ildn (n := 25) C dX7_seatedIn_24 rfl rfl ?_
      refine aw_icne (tgt := 32) (n := 28) C dX7_seatedIn_25 rfl rfl (by omega) (by omega) (fun h_25 => ?_) (fun h_25 => ?_)
      · refine aw_iconst (n := 33) C dX7_seatedIn_32 rfl ?_
        refine aw_iadd (n := 34) C dX7_seatedIn_33 rfl ?_
        refine aw_istn (n := 35) (L' := [_, _, _, _, _]) C dX7_seatedIn_34 rfl (by decide) rfl rfl ?_
        refine aw_iinc (n := 38) (L' := [_, _, _, _, _]) C dX7_seatedIn_35 rfl rfl (by decide) rfl rfl ?_
        refine aw_goto (tgt := 5) C dX7_seatedIn_38 rfl ?_
        have := ih (p + 1) (by omega)
        rw [sm_s] at this
        first | (rw [if_pos h_25] at this; exact this) | (rw [if_neg h_25] at this; exact this)
      · refine aw_iconst (n := 29) C dX7_seatedIn_28 rfl ?_
        refine aw_goto (tgt := 33) C dX7_seatedIn_29 rfl ?_
        refine aw_iadd (n := 34) C dX7_seatedIn_33 rfl ?_
        refine aw_istn (n := 35) (L' := [_, _, _, _, _]) C dX7_seatedIn_34 rfl (by decide) rfl rfl ?_
        refine aw_iinc (n := 38) (L' := [_, _, _, _, _]) C dX7_seatedIn_35 rfl rfl (by decide) rfl rfl ?_
        refine aw_goto (tgt := 5) C dX7_seatedIn_38 rfl ?_
        have := ih (p + 1) (by omega)
        rw [sm_s] at this
        first | (rw [if_pos h_25] at this; exact this) | (rw [if_neg h_25] at this; exact this)
theorem d_seatedIn {r c : Int} (h6 : S 66 6 = (P : Int)) (hP : P ≤ 4) (hr0 : 0 ≤ r) (hr1 : r + P ≤ 240) (hv : ∀ q : Nat, q < P → rng (S 69 (r + q))) (hc : rng c) : AMi 0 yX7_seatedIn cX7_seatedIn 5 (some .int) [.inr (.inr 66), .inl r, .inl c] S (fun z S' => z = sm (fun x => if S 69 (r + (x : Int)) = c then 1 else 0) P ∧ S' = S) := by
  refine ami_intro (L := [_, _, _, none, none]) (by decide) (Or.inl rfl) rfl (Nat.le_of_ble_eq_true rfl) (fun X C hret => ?_)
  refine aw_iconst (n := 1) C dX7_seatedIn_0 rfl ?_
  refine aw_istn (n := 2) (L' := [_, _, _, _, _]) C dX7_seatedIn_1 rfl (by decide) rfl rfl ?_
  refine aw_iconst (n := 3) C dX7_seatedIn_2 rfl ?_
  refine aw_istw (n := 5) (L' := [_, _, _, _, _]) C dX7_seatedIn_3 rfl (by decide) rfl rfl ?_
  exact d_seatedIn_loop h6 hP hr0 hr1 hv hc C hret ⟨rfl, rfl⟩ P 0 (by omega)
theorem cn_mq {j : Nat} {c : Int} : sm (fun x => if S 69 (b + (j : Int) * (P : Int) + (x : Int)) = c then 1 else 0) P = cn (mq S b) P j c P := by
  unfold cn mq
  exact sm_congr (fun k _ => by rw [Int.add_assoc])
theorem d_wb_in {post : Int → Mem → Prop} {j : Nat} (hS : MS S M P b) (hse : ∀ c, 0 ≤ c → c < 3 → 0 ≤ S 70 c ∧ S 70 c ≤ 4) (hj : j < M) (C : CX X 1 RX7 cX7_wrongBy 4) (hret : ∀ (pc : Nat) (L : List (Option AV)) (z : Int) (S' : Mem), decode cX7_wrongBy pc = .ok (.ireturn, 1) → ((some FieldType.int) = some .int ∨ ((some FieldType.int) = some .boolean ∧ (z = 0 ∨ z = 1))) → post z S' → AW X cX7_wrongBy 4 pc L [.inl z] S') (hbad : bad (mq S b) P (S 70) j = true → post j S) (k : bad (mq S b) P (S 70) j = false → AW X cX7_wrongBy 4 47 [some (.inr (.inr 66)), some (.inl b), some (.inl j), some (.inl 3)] [] S) : ∀ (n c : Nat), c + n = 3 → (∀ x : Nat, x < c → cn (mq S b) P j x P ≤ S 70 x) → AW X cX7_wrongBy 4 12 [some (.inr (.inr 66)), some (.inl b), some (.inl j), some (.inl c)] [] S := by
  obtain ⟨h1, h2, h3, h4, h5, h6, h7⟩ := id hS
  have hmp := mp_n h3 h4
  have hjp : (j : Int) * P + P ≤ ((M * P : Nat) : Int) := by
    have : (j + 1) * P ≤ M * P := Nat.mul_le_mul_right P hj
    rw [Nat.succ_mul] at this
    rw [← Int.natCast_mul]
    omega
  have hjp0 : 0 ≤ (j : Int) * P := by rw [← Int.natCast_mul]; omega
  intro n
  induction n with
  | zero =>
    intro c hc hv
    obtain rfl : c = 3 := by omega
    have v0 : cn (mq S b) P j 0 P ≤ S 70 0 := hv 0 (by omega)
    have v1 : cn (mq S b) P j 1 P ≤ S 70 1 := hv 1 (by omega)
    have v2 : cn (mq S b) P j 2 P ≤ S 70 2 := hv 2 (by omega)
    refine aw_ildn (n := 13) C dX7_wrongBy_12 rfl rfl ?_
    refine aw_iconst (n := 14) C dX7_wrongBy_13 rfl ?_
    refine aw_icge (tgt := 47) (n := 17) C dX7_wrongBy_14 rfl rfl (by omega) (by omega) (fun h_14 => ?_) (fun h_14 => ?_)
    · refine k (decide_eq_false ?_)
      rw [Int.toNat_natCast]
      omega
    · omega
  | succ n ih =>
    intro c hc hv
    have hsc := hse c (by omega) (by omega)
    have hcr := cn_r (mq S b) P j c P
    refine aw_ildn (n := 13) C dX7_wrongBy_12 rfl rfl ?_
    refine aw_iconst (n := 14) C dX7_wrongBy_13 rfl ?_
    refine aw_icge (tgt := 47) (n := 17) C dX7_wrongBy_14 rfl rfl (by omega) (by omega) (fun h_14 => ?_) (fun h_14 => ?_)
    · omega
    · refine aw_aldn (n := 18) C dX7_wrongBy_17 rfl rfl ?_
      refine aw_ildn (n := 19) C dX7_wrongBy_18 rfl rfl ?_
      refine aw_ildn (n := 20) C dX7_wrongBy_19 rfl rfl ?_
      refine aw_aldn (n := 21) C dX7_wrongBy_20 rfl rfl ?_
      refine aw_getI (z := 6) (n := 24) C dX7_wrongBy_21 rfl fl_X7_81 rfl rfl rfl ?_
      rw [h2]
      refine aw_imul (n := 25) C dX7_wrongBy_24 rfl ?_
      refine aw_iadd (n := 26) C dX7_wrongBy_25 rfl ?_
      refine aw_ildn (n := 27) C dX7_wrongBy_26 rfl rfl ?_
      refine aw_cVi (n := 30) (vs := [_, _]) C dX7_wrongBy_27 rfl rfl rfl mm_X7_seatedIn wM_X7_168 rfl rfl (Nat.le_of_ble_eq_true rfl) (d_seatedIn (P := P) h2 h4 (by omega) (by omega) (fun q hq => by have := h7 (j * P + q) (ix_n hj hq); rw [Int.natCast_add, Int.natCast_mul, ← Int.add_assoc] at this; omega) (by omega)) (by decide) (fun z_27 S_27 q_27 => ?_)
      obtain ⟨qa, qb⟩ := q_27
      rw [cn_mq] at qa
      rw [qa, qb]
      refine aw_aldn (n := 31) C dX7_wrongBy_30 rfl rfl ?_
      refine aw_getR (n := 34) C dX7_wrongBy_31 rfl fl_X7_19 rfl rfl ?_
      refine aw_ildn (n := 35) C dX7_wrongBy_34 rfl rfl ?_
      refine aw_iald (n := 36) C dX7_wrongBy_35 rfl rfl (by omega) (by omega) ?_
      refine aw_icle (tgt := 41) (n := 39) C dX7_wrongBy_36 rfl rfl (by omega) (by omega) (fun h_36 => ?_) (fun h_36 => ?_)
      · refine aw_iinc (n := 44) (L' := [_, _, _, _]) C dX7_wrongBy_41 rfl rfl (by decide) rfl rfl ?_
        refine aw_goto (tgt := 12) C dX7_wrongBy_44 rfl ?_
        refine ih (c + 1) (by omega) (fun x hx => ?_)
        by_cases h : x = c
        · rw [h]; omega
        · exact hv x (by omega)
      · refine aw_ildn (n := 40) C dX7_wrongBy_39 rfl rfl ?_
        refine hret 40 _ _ _ dX7_wrongBy_40 (Or.inl rfl) ?_
        refine hbad (decide_eq_true ?_)
        rw [Int.toNat_natCast]
        rcases (show c = 0 ∨ c = 1 ∨ c = 2 by omega) with rfl | rfl | rfl
        · exact Or.inl (by omega)
        · exact Or.inr (Or.inl (by omega))
        · exact Or.inr (Or.inr (by omega))
theorem d_wrongBy_loop {post : Int → Mem → Prop} (hS : MS S M P b) (hse : ∀ c, 0 ≤ c → c < 3 → 0 ≤ S 70 c ∧ S 70 c ≤ 4) (C : CX X 1 RX7 cX7_wrongBy 4) (hret : ∀ (pc : Nat) (L : List (Option AV)) (z : Int) (S' : Mem), decode cX7_wrongBy pc = .ok (.ireturn, 1) → ((some FieldType.int) = some .int ∨ ((some FieldType.int) = some .boolean ∧ (z = 0 ∨ z = 1))) → post z S' → AW X cX7_wrongBy 4 pc L [.inl z] S') (hp : post (fst1 (bad (mq S b) P (S 70)) M 0) S) : ∀ (n j : Nat) (x : Option AV), j + n = M → fst1 (bad (mq S b) P (S 70)) M 0 = fst1 (bad (mq S b) P (S 70)) n j → AW X cX7_wrongBy 4 2 [some (.inr (.inr 66)), some (.inl b), some (.inl j), x] [] S := by
  obtain ⟨h1, h2, h3, h4, h5, h6, h7⟩ := id hS
  intro n
  induction n with
  | zero =>
    intro j x hj he
    refine aw_ildn (n := 3) C dX7_wrongBy_2 rfl rfl ?_
    refine aw_aldn (n := 4) C dX7_wrongBy_3 rfl rfl ?_
    refine aw_getI (z := 5) (n := 7) C dX7_wrongBy_4 rfl fl_X7_84 rfl rfl rfl ?_
    refine aw_icge (tgt := 53) (n := 10) C dX7_wrongBy_7 rfl rfl (by omega) (by omega) (fun h_7 => ?_) (fun h_7 => ?_)
    · refine aw_bipush (n := 55) C dX7_wrongBy_53 rfl rfl ?_
      refine hret 55 _ _ _ dX7_wrongBy_55 (Or.inl rfl) ?_
      rw [he] at hp
      exact hp
    · omega
  | succ n ih =>
    intro j x hj he
    have k47 : bad (mq S b) P (S 70) j = false → AW X cX7_wrongBy 4 47 [some (.inr (.inr 66)), some (.inl b), some (.inl j), some (.inl 3)] [] S := by
      intro hb
      refine aw_iinc (n := 50) (L' := [_, _, _, _]) C dX7_wrongBy_47 rfl rfl (by decide) rfl rfl ?_
      refine aw_goto (tgt := 2) C dX7_wrongBy_50 rfl ?_
      exact ih (j + 1) _ (by omega) (by rw [he, fst1_f hb])
    refine aw_ildn (n := 3) C dX7_wrongBy_2 rfl rfl ?_
    refine aw_aldn (n := 4) C dX7_wrongBy_3 rfl rfl ?_
    refine aw_getI (z := 5) (n := 7) C dX7_wrongBy_4 rfl fl_X7_84 rfl rfl rfl ?_
    refine aw_icge (tgt := 53) (n := 10) C dX7_wrongBy_7 rfl rfl (by omega) (by omega) (fun h_7 => ?_) (fun h_7 => ?_)
    · omega
    · refine aw_iconst (n := 11) C dX7_wrongBy_10 rfl ?_
      refine aw_istn (n := 12) (L' := [_, _, _, _]) C dX7_wrongBy_11 rfl (by decide) rfl rfl ?_
      exact d_wb_in (j := j) hS hse (by omega) C hret (fun hb => by rw [he, fst1_t hb] at hp; exact hp) k47 3 0 (by omega) (fun x hx => absurd hx (by omega))
theorem d_wrongBy (hS : MS S M P b) (hse : ∀ c, 0 ≤ c → c < 3 → 0 ≤ S 70 c ∧ S 70 c ≤ 4) : AMi 1 yX7_wrongBy cX7_wrongBy 4 (some .int) [.inr (.inr 66), .inl b] S (fun z S' => z = fst1 (bad (mq S b) P (S 70)) M 0 ∧ S' = S) := by
  refine ami_intro (L := [_, _, none, none]) (by decide) (Or.inl rfl) rfl (Nat.le_of_ble_eq_true rfl) (fun X C hret => ?_)
  refine aw_iconst (n := 1) C dX7_wrongBy_0 rfl ?_
  refine aw_istn (n := 2) (L' := [_, _, _, _]) C dX7_wrongBy_1 rfl (by decide) rfl rfl ?_
  exact d_wrongBy_loop hS hse C hret ⟨rfl, rfl⟩ M 0 _ (by omega) rfl
theorem d_changesBy_loop {post : Int → Mem → Prop} (hS : MS S M P b) (hM : 0 < M) (C : CX X 0 RX7 cX7_changesBy 4) (hret : ∀ (pc : Nat) (L : List (Option AV)) (z : Int) (S' : Mem), decode cX7_changesBy pc = .ok (.ireturn, 1) → ((some FieldType.int) = some .int ∨ ((some FieldType.int) = some .boolean ∧ (z = 0 ∨ z = 1))) → post z S' → AW X cX7_changesBy 4 pc L [.inl z] S') (hp : post (sm (fCh (mq S b) P) ((M - 1) * P)) S) : ∀ (n k : Nat), k + n = (M - 1) * P → AW X cX7_changesBy 4 7 [some (.inr (.inr 66)), some (.inl b), some (.inl (sm (fCh (mq S b) P) k)), some (.inl ((k : Int) + P))] [] S := by
  obtain ⟨h1, h2, h3, h4, h5, h6, h7⟩ := id hS
  have hmp := mp_n h3 h4
  have hmm : (M - 1) * P + P = M * P := by rw [← Nat.succ_mul]; congr 1; omega
  have hc : (M : Int) * P = ((M * P : Nat) : Int) := (Int.natCast_mul M P).symm
  intro n
  induction n with
  | zero =>
    intro k hk
    obtain rfl : k = (M - 1) * P := by omega
    refine aw_ildn (n := 8) C dX7_changesBy_7 rfl rfl ?_
    refine aw_aldn (n := 9) C dX7_changesBy_8 rfl rfl ?_
    refine aw_getI (z := 5) (n := 12) C dX7_changesBy_9 rfl fl_X7_84 rfl rfl rfl ?_
    refine aw_aldn (n := 13) C dX7_changesBy_12 rfl rfl ?_
    refine aw_getI (z := 6) (n := 16) C dX7_changesBy_13 rfl fl_X7_81 rfl rfl rfl ?_
    rw [h1, h2]
    refine aw_imul (n := 17) C dX7_changesBy_16 rfl ?_
    rw [hc]
    refine aw_icge (tgt := 58) (n := 20) C dX7_changesBy_17 rfl rfl (by omega) (by omega) (fun h_17 => ?_) (fun h_17 => ?_)
    · refine aw_ildn (n := 59) C dX7_changesBy_58 rfl rfl ?_
      refine hret 59 _ _ _ dX7_changesBy_59 (Or.inl rfl) ?_
      exact hp
    · omega
  | succ n ih =>
    intro k hk
    have hs := sm_r (f := fCh (mq S b) P) (a := 1) (n := k) (fun k _ => by unfold fCh; split <;> omega)
    have v1 := h7 (k + P) (by omega)
    have v2 := h7 k (by omega)
    have e1 : b + ((k : Int) + P) = b + ((k + P : Nat) : Int) := by omega
    refine aw_ildn (n := 8) C dX7_changesBy_7 rfl rfl ?_
    refine aw_aldn (n := 9) C dX7_changesBy_8 rfl rfl ?_
    refine aw_getI (z := 5) (n := 12) C dX7_changesBy_9 rfl fl_X7_84 rfl rfl rfl ?_
    refine aw_aldn (n := 13) C dX7_changesBy_12 rfl rfl ?_
    refine aw_getI (z := 6) (n := 16) C dX7_changesBy_13 rfl fl_X7_81 rfl rfl rfl ?_
    rw [h1, h2]
    refine aw_imul (n := 17) C dX7_changesBy_16 rfl ?_
    rw [hc]
    refine aw_icge (tgt := 58) (n := 20) C dX7_changesBy_17 rfl rfl (by omega) (by omega) (fun h_17 => ?_) (fun h_17 => ?_)
    · omega
    · refine aw_ildn (n := 21) C dX7_changesBy_20 rfl rfl ?_
      refine aw_aldn (n := 22) C dX7_changesBy_21 rfl rfl ?_
      refine aw_getR (n := 25) C dX7_changesBy_22 rfl fl_X7_16 rfl rfl ?_
      refine aw_ildn (n := 26) C dX7_changesBy_25 rfl rfl ?_
      refine aw_ildn (n := 27) C dX7_changesBy_26 rfl rfl ?_
      refine aw_iadd (n := 28) C dX7_changesBy_27 rfl ?_
      rw [e1]
      refine aw_iald (n := 29) C dX7_changesBy_28 rfl rfl (by omega) (by omega) ?_
      refine aw_aldn (n := 30) C dX7_changesBy_29 rfl rfl ?_
      refine aw_getR (n := 33) C dX7_changesBy_30 rfl fl_X7_16 rfl rfl ?_
      refine aw_ildn (n := 34) C dX7_changesBy_33 rfl rfl ?_
      refine aw_ildn (n := 35) C dX7_changesBy_34 rfl rfl ?_
      refine aw_iadd (n := 36) C dX7_changesBy_35 rfl ?_
      refine aw_aldn (n := 37) C dX7_changesBy_36 rfl rfl ?_
      refine aw_getI (z := 6) (n := 40) C dX7_changesBy_37 rfl fl_X7_81 rfl rfl rfl ?_
      rw [h2]
      refine aw_isub (n := 41) C dX7_changesBy_40 rfl ?_
      rw [show b + ((k : Int) + P) - P = b + k by omega]
      refine aw_iald (n := 42) C dX7_changesBy_41 rfl rfl (by omega) (by omega) ?_
      refine aw_icne (tgt := 49) (n := 45) C dX7_changesBy_42 rfl rfl (by omega) (by omega) (fun h_42 => ?_) (fun h_42 => ?_)
      · refine aw_iconst (n := 50) C dX7_changesBy_49 rfl ?_
        refine aw_iadd (n := 51) C dX7_changesBy_50 rfl ?_
        refine aw_istn (n := 52) (L' := [_, _, _, _]) C dX7_changesBy_51 rfl (by decide) rfl rfl ?_
        refine aw_iinc (n := 55) (L' := [_, _, _, _]) C dX7_changesBy_52 rfl rfl (by decide) rfl rfl ?_
        refine aw_goto (tgt := 7) C dX7_changesBy_55 rfl ?_
        have := ih (k + 1) (by omega)
        rw [sm_s, show ((k + 1 : Nat) : Int) + (P : Int) = (k : Int) + P + 1 by omega] at this
        unfold fCh mq at this
        rw [← e1] at h_42
        first | (rw [if_pos h_42] at this; exact this) | (rw [if_neg h_42] at this; exact this)
      · refine aw_iconst (n := 46) C dX7_changesBy_45 rfl ?_
        refine aw_goto (tgt := 50) C dX7_changesBy_46 rfl ?_
        refine aw_iadd (n := 51) C dX7_changesBy_50 rfl ?_
        refine aw_istn (n := 52) (L' := [_, _, _, _]) C dX7_changesBy_51 rfl (by decide) rfl rfl ?_
        refine aw_iinc (n := 55) (L' := [_, _, _, _]) C dX7_changesBy_52 rfl rfl (by decide) rfl rfl ?_
        refine aw_goto (tgt := 7) C dX7_changesBy_55 rfl ?_
        have := ih (k + 1) (by omega)
        rw [sm_s, show ((k + 1 : Nat) : Int) + (P : Int) = (k : Int) + P + 1 by omega] at this
        unfold fCh mq at this
        rw [← e1] at h_42
        first | (rw [if_pos h_42] at this; exact this) | (rw [if_neg h_42] at this; exact this)
theorem d_changesBy (hS : MS S M P b) (hM : 0 < M) : AMi 0 yX7_changesBy cX7_changesBy 4 (some .int) [.inr (.inr 66), .inl b] S (fun z S' => z = sm (fCh (mq S b) P) ((M - 1) * P) ∧ S' = S) := by
  have h2 := hS.2.1
  refine ami_intro (L := [_, _, none, none]) (by decide) (Or.inl rfl) rfl (Nat.le_of_ble_eq_true rfl) (fun X C hret => ?_)
  refine aw_iconst (n := 1) C dX7_changesBy_0 rfl ?_
  refine aw_istn (n := 2) (L' := [_, _, _, _]) C dX7_changesBy_1 rfl (by decide) rfl rfl ?_
  refine aw_aldn (n := 3) C dX7_changesBy_2 rfl rfl ?_
  refine aw_getI (z := 6) (n := 6) C dX7_changesBy_3 rfl fl_X7_81 rfl rfl rfl ?_
  rw [h2]
  refine aw_istn (n := 7) (L' := [_, _, _, _]) C dX7_changesBy_6 rfl (by decide) rfl rfl ?_
  have := d_changesBy_loop hS hM C hret ⟨rfl, rfl⟩ ((M - 1) * P) 0 (by omega)
  rw [show ((0 : Nat) : Int) + (P : Int) = P by omega] at this
  exact this
/-- the dues as they lie -/
def mdu (S : Mem) (m p : Int) : Int := S 81 (4 * m + p)
theorem kdm {k : Nat} (hP : 0 < P) (hk : k < M * P) : k / P < M ∧ k % P < P ∧ ((k : Int) / (P : Int) = ((k / P : Nat) : Int)) ∧ ((k : Int) % (P : Int) = ((k % P : Nat) : Int)) := ⟨(Nat.div_lt_iff_lt_mul hP).2 hk, Nat.mod_lt _ hP, (Int.natCast_ediv k P).symm, (Int.natCast_emod k P).symm⟩
theorem d_lowBy_loop {post : Int → Mem → Prop} (hS : MS S M P b) (hd : ∀ m p : Nat, m < M → p < P → 0 ≤ S 81 (4 * (m : Int) + p) ∧ S 81 (4 * (m : Int) + p) ≤ 2) (hP : 0 < P) (C : CX X 0 RX7 cX7_lowBy 5) (hret : ∀ (pc : Nat) (L : List (Option AV)) (z : Int) (S' : Mem), decode cX7_lowBy pc = .ok (.ireturn, 1) → ((some FieldType.int) = some .int ∨ ((some FieldType.int) = some .boolean ∧ (z = 0 ∨ z = 1))) → post z S' → AW X cX7_lowBy 5 pc L [.inl z] S') (hp : post (sm (fLo (mq S b) P (mdu S)) (M * P)) S) : ∀ (n k : Nat) (x : Option AV), k + n = M * P → AW X cX7_lowBy 5 4 [some (.inr (.inr 66)), some (.inl b), some (.inl (sm (fLo (mq S b) P (mdu S)) k)), some (.inl (k : Int)), x] [] S := by
  obtain ⟨h1, h2, h3, h4, h5, h6, h7⟩ := id hS
  have hmp := mp_n h3 h4
  have hc : (M : Int) * P = ((M * P : Nat) : Int) := (Int.natCast_mul M P).symm
  intro n
  induction n with
  | zero =>
    intro k x hk
    obtain rfl : k = M * P := by omega
    refine aw_ildn (n := 5) C dX7_lowBy_4 rfl rfl ?_
    refine aw_aldn (n := 6) C dX7_lowBy_5 rfl rfl ?_
    refine aw_getI (z := 5) (n := 9) C dX7_lowBy_6 rfl fl_X7_84 rfl rfl rfl ?_
    refine aw_aldn (n := 10) C dX7_lowBy_9 rfl rfl ?_
    refine aw_getI (z := 6) (n := 13) C dX7_lowBy_10 rfl fl_X7_81 rfl rfl rfl ?_
    rw [h1, h2]
    refine aw_imul (n := 14) C dX7_lowBy_13 rfl ?_
    rw [hc]
    refine aw_icge (tgt := 68) (n := 17) C dX7_lowBy_14 rfl rfl (by omega) (by omega) (fun h_14 => ?_) (fun h_14 => ?_)
    · refine aw_ildn (n := 69) C dX7_lowBy_68 rfl rfl ?_
      refine hret 69 _ _ _ dX7_lowBy_69 (Or.inl rfl) ?_
      exact hp
    · omega
  | succ n ih =>
    intro k x hk
    obtain ⟨k1, k2, k3, k4⟩ := kdm (k := k) (M := M) hP (by omega)
    have hs := sm_r (f := fLo (mq S b) P (mdu S)) (a := 2) (n := k) (fun x hx => by
      obtain ⟨y1, y2, y3, y4⟩ := kdm (k := x) (M := M) hP (by omega)
      have a1 := hd (x / P) (x % P) y1 y2
      have a2 := h7 x (by omega)
      unfold fLo mq mdu
      rw [y3, y4]
      omega)
    have v1 := h7 k (by omega)
    have v2 := hd (k / P) (k % P) k1 k2
    generalize hu : k / P = u at *
    generalize hw : k % P = w at *
    refine aw_ildn (n := 5) C dX7_lowBy_4 rfl rfl ?_
    refine aw_aldn (n := 6) C dX7_lowBy_5 rfl rfl ?_
    refine aw_getI (z := 5) (n := 9) C dX7_lowBy_6 rfl fl_X7_84 rfl rfl rfl ?_
    refine aw_aldn (n := 10) C dX7_lowBy_9 rfl rfl ?_
    refine aw_getI (z := 6) (n := 13) C dX7_lowBy_10 rfl fl_X7_81 rfl rfl rfl ?_
    rw [h1, h2]
    refine aw_imul (n := 14) C dX7_lowBy_13 rfl ?_
    rw [hc]
    refine aw_icge (tgt := 68) (n := 17) C dX7_lowBy_14 rfl rfl (by omega) (by omega) (fun h_14 => ?_) (fun h_14 => ?_)
    · omega
    · refine aw_aldn (n := 18) C dX7_lowBy_17 rfl rfl ?_
      refine aw_getR (n := 21) C dX7_lowBy_18 rfl fl_X7_16 rfl rfl ?_
      refine aw_ildn (n := 22) C dX7_lowBy_21 rfl rfl ?_
      refine aw_ildn (n := 23) C dX7_lowBy_22 rfl rfl ?_
      refine aw_iadd (n := 24) C dX7_lowBy_23 rfl ?_
      refine aw_iald (n := 25) C dX7_lowBy_24 rfl rfl (by omega) (by omega) ?_
      refine aw_aldn (n := 26) C dX7_lowBy_25 rfl rfl ?_
      refine aw_getR (n := 29) C dX7_lowBy_26 rfl fl_X7_53 rfl rfl ?_
      refine aw_iconst (n := 30) C dX7_lowBy_29 rfl ?_
      refine aw_ildn (n := 31) C dX7_lowBy_30 rfl rfl ?_
      refine aw_aldn (n := 32) C dX7_lowBy_31 rfl rfl ?_
      refine aw_getI (z := 6) (n := 35) C dX7_lowBy_32 rfl fl_X7_81 rfl rfl rfl ?_
      rw [h2]
      refine aw_idiv (n := 36) C dX7_lowBy_35 rfl (by omega) (by omega) ?_
      rw [k3]
      refine aw_imul (n := 37) C dX7_lowBy_36 rfl ?_
      refine aw_ildn (n := 38) C dX7_lowBy_37 rfl rfl ?_
      refine aw_aldn (n := 39) C dX7_lowBy_38 rfl rfl ?_
      refine aw_getI (z := 6) (n := 42) C dX7_lowBy_39 rfl fl_X7_81 rfl rfl rfl ?_
      rw [h2]
      refine aw_irem (n := 43) C dX7_lowBy_42 rfl (by omega) (by omega) ?_
      rw [k4]
      refine aw_iadd (n := 44) C dX7_lowBy_43 rfl ?_
      refine aw_iald (n := 45) C dX7_lowBy_44 rfl rfl (by omega) (by omega) ?_
      refine aw_isub (n := 46) C dX7_lowBy_45 rfl ?_
      refine aw_istw (n := 48) (L' := [_, _, _, _, _]) C dX7_lowBy_46 rfl (by decide) rfl rfl ?_
      refine aw_ildn (n := 49) C dX7_lowBy_48 rfl rfl ?_
      refine aw_ildw (n := 51) C dX7_lowBy_49 rfl rfl ?_
      refine aw_ifle (tgt := 59) (n := 54) C dX7_lowBy_51 rfl rfl (by omega) (fun h_51 => ?_) (fun h_51 => ?_)
      · refine aw_iconst (n := 60) C dX7_lowBy_59 rfl ?_
        refine aw_iadd (n := 61) C dX7_lowBy_60 rfl ?_
        refine aw_istn (n := 62) (L' := [_, _, _, _, _]) C dX7_lowBy_61 rfl (by decide) rfl rfl ?_
        refine aw_iinc (n := 65) (L' := [_, _, _, _, _]) C dX7_lowBy_62 rfl rfl (by decide) rfl rfl ?_
        refine aw_goto (tgt := 4) C dX7_lowBy_65 rfl ?_
        have := ih (k + 1) _ (by omega)
        rw [sm_s] at this
        unfold fLo mq mdu at this
        rw [k3, k4] at this
        first | (rw [show max 0 (S 69 (b + k) - S 81 (4 * (u : Int) + w)) = 0 by omega] at this; exact this) | (rw [show max 0 (S 69 (b + k) - S 81 (4 * (u : Int) + w)) = S 69 (b + k) - S 81 (4 * (u : Int) + w) by omega] at this; exact this)
      · refine aw_ildw (n := 56) C dX7_lowBy_54 rfl rfl ?_
        refine aw_goto (tgt := 60) C dX7_lowBy_56 rfl ?_
        refine aw_iadd (n := 61) C dX7_lowBy_60 rfl ?_
        refine aw_istn (n := 62) (L' := [_, _, _, _, _]) C dX7_lowBy_61 rfl (by decide) rfl rfl ?_
        refine aw_iinc (n := 65) (L' := [_, _, _, _, _]) C dX7_lowBy_62 rfl rfl (by decide) rfl rfl ?_
        refine aw_goto (tgt := 4) C dX7_lowBy_65 rfl ?_
        have := ih (k + 1) _ (by omega)
        rw [sm_s] at this
        unfold fLo mq mdu at this
        rw [k3, k4] at this
        first | (rw [show max 0 (S 69 (b + k) - S 81 (4 * (u : Int) + w)) = 0 by omega] at this; exact this) | (rw [show max 0 (S 69 (b + k) - S 81 (4 * (u : Int) + w)) = S 69 (b + k) - S 81 (4 * (u : Int) + w) by omega] at this; exact this)
theorem d_lowBy (hS : MS S M P b) (hd : ∀ m p : Nat, m < M → p < P → 0 ≤ S 81 (4 * (m : Int) + p) ∧ S 81 (4 * (m : Int) + p) ≤ 2) (hP : 0 < P) : AMi 0 yX7_lowBy cX7_lowBy 5 (some .int) [.inr (.inr 66), .inl b] S (fun z S' => z = sm (fLo (mq S b) P (mdu S)) (M * P) ∧ S' = S) := by
  refine ami_intro (L := [_, _, none, none, none]) (by decide) (Or.inl rfl) rfl (Nat.le_of_ble_eq_true rfl) (fun X C hret => ?_)
  refine aw_iconst (n := 1) C dX7_lowBy_0 rfl ?_
  refine aw_istn (n := 2) (L' := [_, _, _, _, _]) C dX7_lowBy_1 rfl (by decide) rfl rfl ?_
  refine aw_iconst (n := 3) C dX7_lowBy_2 rfl ?_
  refine aw_istn (n := 4) (L' := [_, _, _, _, _]) C dX7_lowBy_3 rfl (by decide) rfl rfl ?_
  exact d_lowBy_loop hS hd hP C hret ⟨rfl, rfl⟩ (M * P) 0 _ (by omega)
end MSE
