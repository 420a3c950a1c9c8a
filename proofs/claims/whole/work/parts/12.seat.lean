/-! Seating: what is counted -/
def fCh (q : Fn) (P : Int) (k : Nat) : Int := if q ((k : Int) + P) = q (k : Int) then 0 else 1
def fLo (q : Fn) (P : Int) (du : Int → Int → Int) (k : Nat) : Int := max 0 (q (k : Int) - du ((k : Int) / P) ((k : Int) % P))
def fAb (q : Fn) (P : Int) (du : Int → Int → Int) (p : Int) (m : Nat) : Int := if q ((m : Int) * P + p) < du (m : Int) p then 1 else 0
/-- dues by the line's regrets -/
def duC (S : Mem) (m p : Int) : Int := due (S 10 10) (S 10 11) (S (19 + (min m 8).toNat) p)
theorem duC_n (S : Mem) {m : Nat} (h : m ≤ 8) (p : Int) : duC S (m : Int) p = due (S 10 10) (S 10 11) (S (19 + m) p) := by unfold duC; rw [show (min (m : Int) 8).toNat = m by omega]
theorem sm_s (f : Nat → Int) (n : Nat) : sm f (n + 1) = sm f n + f n := rfl
theorem dm {m p P : Nat} (h : p < P) : (((m * P + p : Nat) : Int) / (P : Int) = (m : Int)) ∧ (((m * P + p : Nat) : Int) % (P : Int) = (p : Int)) := by
  have h1 : (m * P + p) / P = m := by rw [Nat.mul_comm, Nat.mul_add_div (by omega), Nat.div_eq_of_lt h, Nat.add_zero]
  have h2 : (m * P + p) % P = p := by rw [Nat.mul_comm, Nat.mul_add_mod, Nat.mod_eq_of_lt h]
  rw [← Int.natCast_ediv, ← Int.natCast_emod, h1, h2]
  exact ⟨rfl, rfl⟩
/-- the seating's numbers are within their bounds -/
def SW (S : Mem) (M P : Nat) : Prop := S 10 8 = (M : Int) ∧ S 10 9 = (P : Int) ∧ M ≤ 8 ∧ P ≤ 4 ∧ (∀ j, 0 ≤ j → j < S 10 8 * S 10 9 → 0 ≤ S 51 j ∧ S 51 j < 3) ∧ rng (S 10 10) ∧ rng (S 10 11) ∧ (∀ m : Nat, m ≤ M → ∀ p, 0 ≤ p → p < S 10 9 → rng (S (19 + m) p))
theorem SW_q {S : Mem} {M P m p : Nat} (h : SW S M P) (hm : m < M) (hp : p < P) : 0 ≤ S 51 ((m : Int) * S 10 9 + (p : Int)) ∧ S 51 ((m : Int) * S 10 9 + (p : Int)) < 3 := by
  obtain ⟨h1, h2, h3, h4, h5, -⟩ := h
  have := ix_in (m := m) (p := p) (M := S 10 8) (P := S 10 9) (by omega) (by omega) (by omega) (by omega) (by omega) (by omega)
  exact h5 _ this.1 this.2.1
section SEAT
variable {X : AMX} {S : Mem} {M P : Nat}
theorem c_cc_in {j : Nat} (hS : SW S M P) (hj : j + 1 < M) (C : CX X 1 RX2 cX2_countChanges 4) (k : AW X cX2_countChanges 4 54 [some (.inr (.inr 50)), some (.inl (sm (fCh (S 51) P) ((j + 1) * P))), some (.inl ((j : Int) + 1)), some (.inl P)] [] S) : ∀ (n p : Nat), p + n = P → AW X cX2_countChanges 4 17 [some (.inr (.inr 50)), some (.inl (sm (fCh (S 51) P) (j * P + p))), some (.inl ((j : Int) + 1)), some (.inl p)] [] S := by
  obtain ⟨h1, h2, h3, h4, h5, -⟩ := id hS
  intro n
  induction n with
  | zero =>
    intro p hp
    obtain rfl : p = P := by omega
    rw [Nat.succ_mul] at k
    refine aw_ildn (n := 18) C dX2_countChanges_17 rfl rfl ?_
    refine aw_aldn (n := 19) C dX2_countChanges_18 rfl rfl ?_
    refine aw_getR (n := 22) C dX2_countChanges_19 rfl fl_X2_18 rfl rfl ?_
    refine aw_getI (z := 9) (n := 25) C dX2_countChanges_22 rfl fl_X2_28 rfl rfl rfl ?_
    refine aw_icge (tgt := 54) (n := 28) C dX2_countChanges_25 rfl rfl (by omega) (by omega) (fun h_25 => ?_) (fun h_25 => ?_)
    · exact k
    · omega
  | succ n ih =>
    intro p hp
    have q1 := SW_q hS (m := j + 1) (p := p) (by omega) (by omega)
    have q2 := SW_q hS (m := j) (p := p) (by omega) (by omega)
    have e1 : (((j + 1 : Nat) : Int) * S 10 9 + (p : Int)) = ((j * P + p : Nat) : Int) + (P : Int) := by rw [h2, Int.natCast_add, Int.natCast_add, Int.natCast_mul, Int.add_mul]; omega
    have e2 : ((j : Int) * S 10 9 + (p : Int)) = ((j * P + p : Nat) : Int) := by rw [h2, Int.natCast_add, Int.natCast_mul]
    have es : sm (fCh (S 51) P) (j * P + (p + 1)) = sm (fCh (S 51) P) (j * P + p) + fCh (S 51) P (j * P + p) := rfl
    refine aw_ildn (n := 18) C dX2_countChanges_17 rfl rfl ?_
    refine aw_aldn (n := 19) C dX2_countChanges_18 rfl rfl ?_
    refine aw_getR (n := 22) C dX2_countChanges_19 rfl fl_X2_18 rfl rfl ?_
    refine aw_getI (z := 9) (n := 25) C dX2_countChanges_22 rfl fl_X2_28 rfl rfl rfl ?_
    refine aw_icge (tgt := 54) (n := 28) C dX2_countChanges_25 rfl rfl (by omega) (by omega) (fun h_25 => ?_) (fun h_25 => ?_)
    · omega
    · refine aw_aldn (n := 29) C dX2_countChanges_28 rfl rfl ?_
      refine aw_ildn (n := 30) C dX2_countChanges_29 rfl rfl ?_
      refine aw_ildn (n := 31) C dX2_countChanges_30 rfl rfl ?_
      refine aw_cVi (n := 34) (vs := [_, _]) C dX2_countChanges_31 rfl rfl rfl mm_X2_classOf wM_X2_41 rfl rfl (Nat.le_of_ble_eq_true rfl) (c_classOf (m := ((j + 1 : Nat) : Int)) (by omega) (by omega) (by omega) (by omega) (by omega) (by omega)) (by decide) (fun z_31 S_31 q_31 => ?_)
      rw [q_31.1, q_31.2]
      clear q_31 S_31 z_31
      refine aw_aldn (n := 35) C dX2_countChanges_34 rfl rfl ?_
      refine aw_ildn (n := 36) C dX2_countChanges_35 rfl rfl ?_
      refine aw_ildn (n := 37) C dX2_countChanges_36 rfl rfl ?_
      refine aw_iconst (n := 38) C dX2_countChanges_37 rfl ?_
      refine aw_isub (n := 39) C dX2_countChanges_38 rfl ?_
      rw [show (j : Int) + 1 - 1 = (j : Int) by omega]
      refine aw_cVi (n := 42) (vs := [_, _]) C dX2_countChanges_39 rfl rfl rfl mm_X2_classOf wM_X2_41 rfl rfl (Nat.le_of_ble_eq_true rfl) (c_classOf (m := (j : Int)) (by omega) (by omega) (by omega) (by omega) (by omega) (by omega)) (by decide) (fun z_39 S_39 q_39 => ?_)
      rw [q_39.1, q_39.2]
      clear q_39 S_39 z_39
      refine aw_iceq (tgt := 48) (n := 45) C dX2_countChanges_42 rfl rfl (by omega) (by omega) (fun h_42 => ?_) (fun h_42 => ?_)
      · refine aw_iinc (n := 51) (L' := [_, _, _, _]) C dX2_countChanges_48 rfl rfl (by decide) rfl rfl ?_
        refine aw_goto (tgt := 17) C dX2_countChanges_51 rfl ?_
        have := ih (p + 1) (by omega)
        rw [es] at this
        unfold fCh at this
        rw [e1, e2] at h_42
        first | (rw [if_pos h_42, Int.add_zero] at this; exact this) | (rw [if_neg h_42] at this; exact this)
      · refine aw_iinc (n := 48) (L' := [_, _, _, _]) C dX2_countChanges_45 rfl rfl (by decide) rfl rfl ?_
        refine aw_iinc (n := 51) (L' := [_, _, _, _]) C dX2_countChanges_48 rfl rfl (by decide) rfl rfl ?_
        refine aw_goto (tgt := 17) C dX2_countChanges_51 rfl ?_
        have := ih (p + 1) (by omega)
        rw [es] at this
        unfold fCh at this
        rw [e1, e2] at h_42
        first | (rw [if_pos h_42, Int.add_zero] at this; exact this) | (rw [if_neg h_42] at this; exact this)
theorem c_countChanges_loop {post : Int → Mem → Prop} (hS : SW S M P) (C : CX X 1 RX2 cX2_countChanges 4) (hret : ∀ (pc : Nat) (L : List (Option AV)) (z : Int) (S' : Mem), decode cX2_countChanges pc = .ok (.ireturn, 1) → ((some FieldType.int) = some .int ∨ ((some FieldType.int) = some .boolean ∧ (z = 0 ∨ z = 1))) → post z S' → AW X cX2_countChanges 4 pc L [.inl z] S') (hp : post (sm (fCh (S 51) P) ((M - 1) * P)) S) : ∀ (n j : Nat) (x : Option AV), j + 1 + n = M → AW X cX2_countChanges 4 4 [some (.inr (.inr 50)), some (.inl (sm (fCh (S 51) P) (j * P))), some (.inl ((j : Int) + 1)), x] [] S := by
  obtain ⟨h1, h2, h3, h4, h5, -⟩ := id hS
  intro n
  induction n with
  | zero =>
    intro j x hj
    refine aw_ildn (n := 5) C dX2_countChanges_4 rfl rfl ?_
    refine aw_aldn (n := 6) C dX2_countChanges_5 rfl rfl ?_
    refine aw_getR (n := 9) C dX2_countChanges_6 rfl fl_X2_18 rfl rfl ?_
    refine aw_getI (z := 8) (n := 12) C dX2_countChanges_9 rfl fl_X2_22 rfl rfl rfl ?_
    refine aw_icge (tgt := 60) (n := 15) C dX2_countChanges_12 rfl rfl (by omega) (by omega) (fun h_12 => ?_) (fun h_12 => ?_)
    · refine aw_ildn (n := 61) C dX2_countChanges_60 rfl rfl ?_
      refine hret 61 _ _ _ dX2_countChanges_61 (Or.inl rfl) ?_
      rw [show M - 1 = j by omega] at hp
      exact hp
    · omega
  | succ n ih =>
    intro j x hj
    have k54 : AW X cX2_countChanges 4 54 [some (.inr (.inr 50)), some (.inl (sm (fCh (S 51) P) ((j + 1) * P))), some (.inl ((j : Int) + 1)), some (.inl P)] [] S := by
      refine aw_iinc (n := 57) (L' := [_, _, _, _]) C dX2_countChanges_54 rfl rfl (by decide) rfl rfl ?_
      refine aw_goto (tgt := 4) C dX2_countChanges_57 rfl ?_
      exact ih (j + 1) _ (by omega)
    refine aw_ildn (n := 5) C dX2_countChanges_4 rfl rfl ?_
    refine aw_aldn (n := 6) C dX2_countChanges_5 rfl rfl ?_
    refine aw_getR (n := 9) C dX2_countChanges_6 rfl fl_X2_18 rfl rfl ?_
    refine aw_getI (z := 8) (n := 12) C dX2_countChanges_9 rfl fl_X2_22 rfl rfl rfl ?_
    refine aw_icge (tgt := 60) (n := 15) C dX2_countChanges_12 rfl rfl (by omega) (by omega) (fun h_12 => ?_) (fun h_12 => ?_)
    · omega
    · refine aw_iconst (n := 16) C dX2_countChanges_15 rfl ?_
      refine aw_istn (n := 17) (L' := [_, _, _, _]) C dX2_countChanges_16 rfl (by decide) rfl rfl ?_
      exact c_cc_in (j := j) hS (by omega) C k54 P 0 (by omega)
theorem c_countChanges (hS : SW S M P) (hM : 0 < M) : AMi 1 yX2_countChanges cX2_countChanges 4 (some .int) [.inr (.inr 50)] S (fun z S' => z = sm (fCh (S 51) P) ((M - 1) * P) ∧ S' = S) := by
  refine ami_intro (L := [_, none, none, none]) (by decide) (Or.inl rfl) rfl (Nat.le_of_ble_eq_true rfl) (fun X C hret => ?_)
  refine aw_iconst (n := 1) C dX2_countChanges_0 rfl ?_
  refine aw_istn (n := 2) (L' := [_, _, _, _]) C dX2_countChanges_1 rfl (by decide) rfl rfl ?_
  refine aw_iconst (n := 3) C dX2_countChanges_2 rfl ?_
  refine aw_istn (n := 4) (L' := [_, _, _, _]) C dX2_countChanges_3 rfl (by decide) rfl rfl ?_
  have := c_countChanges_loop hS C hret ⟨rfl, rfl⟩ (M - 1) 0 none (by omega)
  rw [Nat.zero_mul] at this
  exact this
theorem c_cl_in {j : Nat} (hS : SW S M P) (hj : j < M) (C : CX X 1 RX2 cX2_countLow 4) (k : AW X cX2_countLow 4 57 [some (.inr (.inr 50)), some (.inl (sm (fLo (S 51) P (duC S)) ((j + 1) * P))), some (.inl j), some (.inl P)] [] S) : ∀ (n p : Nat), p + n = P → AW X cX2_countLow 4 17 [some (.inr (.inr 50)), some (.inl (sm (fLo (S 51) P (duC S)) (j * P + p))), some (.inl j), some (.inl p)] [] S := by
  obtain ⟨h1, h2, h3, h4, h5, h6, h7, h8⟩ := id hS
  intro n
  induction n with
  | zero =>
    intro p hp
    obtain rfl : p = P := by omega
    rw [Nat.succ_mul] at k
    refine aw_ildn (n := 18) C dX2_countLow_17 rfl rfl ?_
    refine aw_aldn (n := 19) C dX2_countLow_18 rfl rfl ?_
    refine aw_getR (n := 22) C dX2_countLow_19 rfl fl_X2_18 rfl rfl ?_
    refine aw_getI (z := 9) (n := 25) C dX2_countLow_22 rfl fl_X2_28 rfl rfl rfl ?_
    refine aw_icge (tgt := 57) (n := 28) C dX2_countLow_25 rfl rfl (by omega) (by omega) (fun h_25 => ?_) (fun h_25 => ?_)
    · exact k
    · omega
  | succ n ih =>
    intro p hp
    have q2 := SW_q hS (m := j) (p := p) (by omega) (by omega)
    have e2 : ((j : Int) * S 10 9 + (p : Int)) = ((j * P + p : Nat) : Int) := by rw [h2, Int.natCast_add, Int.natCast_mul]
    have es : sm (fLo (S 51) P (duC S)) (j * P + (p + 1)) = sm (fLo (S 51) P (duC S)) (j * P + p) + fLo (S 51) P (duC S) (j * P + p) := rfl
    have hd := due_r (S 10 10) (S 10 11) (S (19 + j) p)
    refine aw_ildn (n := 18) C dX2_countLow_17 rfl rfl ?_
    refine aw_aldn (n := 19) C dX2_countLow_18 rfl rfl ?_
    refine aw_getR (n := 22) C dX2_countLow_19 rfl fl_X2_18 rfl rfl ?_
    refine aw_getI (z := 9) (n := 25) C dX2_countLow_22 rfl fl_X2_28 rfl rfl rfl ?_
    refine aw_icge (tgt := 57) (n := 28) C dX2_countLow_25 rfl rfl (by omega) (by omega) (fun h_25 => ?_) (fun h_25 => ?_)
    · omega
    · refine aw_ildn (n := 29) C dX2_countLow_28 rfl rfl ?_
      refine aw_iconst (n := 30) C dX2_countLow_29 rfl ?_
      refine aw_aldn (n := 31) C dX2_countLow_30 rfl rfl ?_
      refine aw_ildn (n := 32) C dX2_countLow_31 rfl rfl ?_
      refine aw_ildn (n := 33) C dX2_countLow_32 rfl rfl ?_
      refine aw_cVi (n := 36) (vs := [_, _]) C dX2_countLow_33 rfl rfl rfl mm_X2_classOf wM_X2_41 rfl rfl (Nat.le_of_ble_eq_true rfl) (c_classOf (by omega) (by omega) (by omega) (by omega) (by omega) (by omega)) (by decide) (fun z_33 S_33 q_33 => ?_)
      rw [q_33.1, q_33.2]
      clear q_33 S_33 z_33
      refine aw_aldn (n := 37) C dX2_countLow_36 rfl rfl ?_
      refine aw_getR (n := 40) C dX2_countLow_37 rfl fl_X2_18 rfl rfl ?_
      refine aw_ildn (n := 41) C dX2_countLow_40 rfl rfl ?_
      refine aw_ildn (n := 42) C dX2_countLow_41 rfl rfl ?_
      refine aw_cVi (n := 45) (vs := [_, _]) C dX2_countLow_42 rfl rfl rfl mm_X5_classDue wM_X2_48 rfl rfl (Nat.le_of_ble_eq_true rfl) (c_classDue10 (m := j) (by omega) (by omega) (by omega) (h8 j (by omega) p (by omega) (by omega)) h6 h7) (by decide) (fun z_42 S_42 q_42 => ?_)
      rw [q_42.1, q_42.2]
      clear q_42 S_42 z_42
      refine aw_isub (n := 46) C dX2_countLow_45 rfl ?_
      refine aw_mmax (n := 49) C dX2_countLow_46 rfl wM_X2_51 wS_yJ9_max_7cf53 wI_J9 wC_yJ9_max_7cf53 (by decide) (Nat.le_of_ble_eq_true rfl) (by omega) (by omega) ?_
      refine aw_iadd (n := 50) C dX2_countLow_49 rfl ?_
      refine aw_istn (n := 51) (L' := [_, _, _, _]) C dX2_countLow_50 rfl (by decide) rfl rfl ?_
      refine aw_iinc (n := 54) (L' := [_, _, _, _]) C dX2_countLow_51 rfl rfl (by decide) rfl rfl ?_
      refine aw_goto (tgt := 17) C dX2_countLow_54 rfl ?_
      have := ih (p + 1) (by omega)
      rw [es] at this
      unfold fLo at this
      rw [(dm (m := j) (p := p) (P := P) (by omega)).1, (dm (m := j) (p := p) (P := P) (by omega)).2, duC_n S (by omega), ← e2] at this
      exact this
theorem c_countLow_loop {post : Int → Mem → Prop} (hS : SW S M P) (C : CX X 1 RX2 cX2_countLow 4) (hret : ∀ (pc : Nat) (L : List (Option AV)) (z : Int) (S' : Mem), decode cX2_countLow pc = .ok (.ireturn, 1) → ((some FieldType.int) = some .int ∨ ((some FieldType.int) = some .boolean ∧ (z = 0 ∨ z = 1))) → post z S' → AW X cX2_countLow 4 pc L [.inl z] S') (hp : post (sm (fLo (S 51) P (duC S)) (M * P)) S) : ∀ (n j : Nat) (x : Option AV), j + n = M → AW X cX2_countLow 4 4 [some (.inr (.inr 50)), some (.inl (sm (fLo (S 51) P (duC S)) (j * P))), some (.inl j), x] [] S := by
  obtain ⟨h1, h2, h3, h4, h5, -⟩ := id hS
  intro n
  induction n with
  | zero =>
    intro j x hj
    refine aw_ildn (n := 5) C dX2_countLow_4 rfl rfl ?_
    refine aw_aldn (n := 6) C dX2_countLow_5 rfl rfl ?_
    refine aw_getR (n := 9) C dX2_countLow_6 rfl fl_X2_18 rfl rfl ?_
    refine aw_getI (z := 8) (n := 12) C dX2_countLow_9 rfl fl_X2_22 rfl rfl rfl ?_
    refine aw_icge (tgt := 63) (n := 15) C dX2_countLow_12 rfl rfl (by omega) (by omega) (fun h_12 => ?_) (fun h_12 => ?_)
    · refine aw_ildn (n := 64) C dX2_countLow_63 rfl rfl ?_
      refine hret 64 _ _ _ dX2_countLow_64 (Or.inl rfl) ?_
      rw [show M = j by omega] at hp
      exact hp
    · omega
  | succ n ih =>
    intro j x hj
    have k57 : AW X cX2_countLow 4 57 [some (.inr (.inr 50)), some (.inl (sm (fLo (S 51) P (duC S)) ((j + 1) * P))), some (.inl j), some (.inl P)] [] S := by
      refine aw_iinc (n := 60) (L' := [_, _, _, _]) C dX2_countLow_57 rfl rfl (by decide) rfl rfl ?_
      refine aw_goto (tgt := 4) C dX2_countLow_60 rfl ?_
      exact ih (j + 1) _ (by omega)
    refine aw_ildn (n := 5) C dX2_countLow_4 rfl rfl ?_
    refine aw_aldn (n := 6) C dX2_countLow_5 rfl rfl ?_
    refine aw_getR (n := 9) C dX2_countLow_6 rfl fl_X2_18 rfl rfl ?_
    refine aw_getI (z := 8) (n := 12) C dX2_countLow_9 rfl fl_X2_22 rfl rfl rfl ?_
    refine aw_icge (tgt := 63) (n := 15) C dX2_countLow_12 rfl rfl (by omega) (by omega) (fun h_12 => ?_) (fun h_12 => ?_)
    · omega
    · refine aw_iconst (n := 16) C dX2_countLow_15 rfl ?_
      refine aw_istn (n := 17) (L' := [_, _, _, _]) C dX2_countLow_16 rfl (by decide) rfl rfl ?_
      exact c_cl_in (j := j) hS (by omega) C k57 P 0 (by omega)
theorem c_countLow (hS : SW S M P) : AMi 1 yX2_countLow cX2_countLow 4 (some .int) [.inr (.inr 50)] S (fun z S' => z = sm (fLo (S 51) P (duC S)) (M * P) ∧ S' = S) := by
  refine ami_intro (L := [_, none, none, none]) (by decide) (Or.inl rfl) rfl (Nat.le_of_ble_eq_true rfl) (fun X C hret => ?_)
  refine aw_iconst (n := 1) C dX2_countLow_0 rfl ?_
  refine aw_istn (n := 2) (L' := [_, _, _, _]) C dX2_countLow_1 rfl (by decide) rfl rfl ?_
  refine aw_iconst (n := 3) C dX2_countLow_2 rfl ?_
  refine aw_istn (n := 4) (L' := [_, _, _, _]) C dX2_countLow_3 rfl (by decide) rfl rfl ?_
  have := c_countLow_loop hS C hret ⟨rfl, rfl⟩ M 0 none (by omega)
  rw [Nat.zero_mul] at this
  exact this
theorem c_milesAbove_loop {p : Nat} {post : Int → Mem → Prop} (hS : SW S M P) (hpP : p < P) (C : CX X 1 RX2 cX2_milesAbove 4) (hret : ∀ (pc : Nat) (L : List (Option AV)) (z : Int) (S' : Mem), decode cX2_milesAbove pc = .ok (.ireturn, 1) → ((some FieldType.int) = some .int ∨ ((some FieldType.int) = some .boolean ∧ (z = 0 ∨ z = 1))) → post z S' → AW X cX2_milesAbove 4 pc L [.inl z] S') (hp : post (sm (fAb (S 51) P (duC S) p) M) S) : ∀ (n j : Nat), j + n = M → AW X cX2_milesAbove 4 4 [some (.inr (.inr 50)), some (.inl p), some (.inl (sm (fAb (S 51) P (duC S) p) j)), some (.inl j)] [] S := by
  obtain ⟨h1, h2, h3, h4, h5, h6, h7, h8⟩ := id hS
  intro n
  induction n with
  | zero =>
    intro j hj
    refine aw_ildn (n := 5) C dX2_milesAbove_4 rfl rfl ?_
    refine aw_aldn (n := 6) C dX2_milesAbove_5 rfl rfl ?_
    refine aw_getR (n := 9) C dX2_milesAbove_6 rfl fl_X2_18 rfl rfl ?_
    refine aw_getI (z := 8) (n := 12) C dX2_milesAbove_9 rfl fl_X2_22 rfl rfl rfl ?_
    refine aw_icge (tgt := 42) (n := 15) C dX2_milesAbove_12 rfl rfl (by omega) (by omega) (fun h_12 => ?_) (fun h_12 => ?_)
    · refine aw_ildn (n := 43) C dX2_milesAbove_42 rfl rfl ?_
      refine hret 43 _ _ _ dX2_milesAbove_43 (Or.inl rfl) ?_
      rw [show M = j by omega] at hp
      exact hp
    · omega
  | succ n ih =>
    intro j hj
    have q2 := SW_q hS (m := j) (p := p) (by omega) (by omega)
    have hd := due_r (S 10 10) (S 10 11) (S (19 + j) p)
    have fv : fAb (S 51) P (duC S) p j = if S 51 ((j : Int) * S 10 9 + p) < due (S 10 10) (S 10 11) (S (19 + j) p) then 1 else 0 := by unfold fAb; rw [duC_n S (by omega), h2]
    refine aw_ildn (n := 5) C dX2_milesAbove_4 rfl rfl ?_
    refine aw_aldn (n := 6) C dX2_milesAbove_5 rfl rfl ?_
    refine aw_getR (n := 9) C dX2_milesAbove_6 rfl fl_X2_18 rfl rfl ?_
    refine aw_getI (z := 8) (n := 12) C dX2_milesAbove_9 rfl fl_X2_22 rfl rfl rfl ?_
    refine aw_icge (tgt := 42) (n := 15) C dX2_milesAbove_12 rfl rfl (by omega) (by omega) (fun h_12 => ?_) (fun h_12 => ?_)
    · omega
    · refine aw_aldn (n := 16) C dX2_milesAbove_15 rfl rfl ?_
      refine aw_ildn (n := 17) C dX2_milesAbove_16 rfl rfl ?_
      refine aw_ildn (n := 18) C dX2_milesAbove_17 rfl rfl ?_
      refine aw_cVi (n := 21) (vs := [_, _]) C dX2_milesAbove_18 rfl rfl rfl mm_X2_classOf wM_X2_41 rfl rfl (Nat.le_of_ble_eq_true rfl) (c_classOf (by omega) (by omega) (by omega) (by omega) (by omega) (by omega)) (by decide) (fun z_18 S_18 q_18 => ?_)
      rw [q_18.1, q_18.2]
      clear q_18 S_18 z_18
      refine aw_aldn (n := 22) C dX2_milesAbove_21 rfl rfl ?_
      refine aw_getR (n := 25) C dX2_milesAbove_22 rfl fl_X2_18 rfl rfl ?_
      refine aw_ildn (n := 26) C dX2_milesAbove_25 rfl rfl ?_
      refine aw_ildn (n := 27) C dX2_milesAbove_26 rfl rfl ?_
      refine aw_cVi (n := 30) (vs := [_, _]) C dX2_milesAbove_27 rfl rfl rfl mm_X5_classDue wM_X2_48 rfl rfl (Nat.le_of_ble_eq_true rfl) (c_classDue10 (m := j) (by omega) (by omega) (by omega) (h8 j (by omega) p (by omega) (by omega)) h6 h7) (by decide) (fun z_27 S_27 q_27 => ?_)
      rw [q_27.1, q_27.2]
      clear q_27 S_27 z_27
      refine aw_icge (tgt := 36) (n := 33) C dX2_milesAbove_30 rfl rfl (by omega) (by omega) (fun h_30 => ?_) (fun h_30 => ?_)
      · refine aw_iinc (n := 39) (L' := [_, _, _, _]) C dX2_milesAbove_36 rfl rfl (by decide) rfl rfl ?_
        refine aw_goto (tgt := 4) C dX2_milesAbove_39 rfl ?_
        have := ih (j + 1) (by omega)
        rw [sm_s, fv] at this
        first | (rw [if_pos h_30] at this; exact this) | (rw [if_neg (by omega), Int.add_zero] at this; exact this)
      · refine aw_iinc (n := 36) (L' := [_, _, _, _]) C dX2_milesAbove_33 rfl rfl (by decide) rfl rfl ?_
        refine aw_iinc (n := 39) (L' := [_, _, _, _]) C dX2_milesAbove_36 rfl rfl (by decide) rfl rfl ?_
        refine aw_goto (tgt := 4) C dX2_milesAbove_39 rfl ?_
        have := ih (j + 1) (by omega)
        rw [sm_s, fv] at this
        first | (rw [if_pos h_30] at this; exact this) | (rw [if_neg (by omega), Int.add_zero] at this; exact this)
theorem c_milesAbove {p : Nat} (hS : SW S M P) (hpP : p < P) : AMi 1 yX2_milesAbove cX2_milesAbove 4 (some .int) [.inr (.inr 50), .inl (p : Int)] S (fun z S' => z = sm (fAb (S 51) P (duC S) p) M ∧ S' = S) := by
  refine ami_intro (L := [_, _, none, none]) (by decide) (Or.inl rfl) rfl (Nat.le_of_ble_eq_true rfl) (fun X C hret => ?_)
  refine aw_iconst (n := 1) C dX2_milesAbove_0 rfl ?_
  refine aw_istn (n := 2) (L' := [_, _, _, _]) C dX2_milesAbove_1 rfl (by decide) rfl rfl ?_
  refine aw_iconst (n := 3) C dX2_milesAbove_2 rfl ?_
  refine aw_istn (n := 4) (L' := [_, _, _, _]) C dX2_milesAbove_3 rfl (by decide) rfl rfl ?_
  exact c_milesAbove_loop hS hpP C hret ⟨rfl, rfl⟩ M 0 (by omega)
theorem c_countAbove_loop {post : Int → Mem → Prop} (hS : SW S M P) (C : CX X 2 RX2 cX2_countAbove 3) (hret : ∀ (pc : Nat) (L : List (Option AV)) (z : Int) (S' : Mem), decode cX2_countAbove pc = .ok (.ireturn, 1) → ((some FieldType.int) = some .int ∨ ((some FieldType.int) = some .boolean ∧ (z = 0 ∨ z = 1))) → post z S' → AW X cX2_countAbove 3 pc L [.inl z] S') (hp : post (sm (fun p => sm (fAb (S 51) P (duC S) p) M) P) S) : ∀ (n p : Nat), p + n = P → AW X cX2_countAbove 3 4 [some (.inr (.inr 50)), some (.inl (sm (fun p => sm (fAb (S 51) P (duC S) p) M) p)), some (.inl p)] [] S := by
  obtain ⟨h1, h2, h3, h4, h5, h6, h7, h8⟩ := id hS
  intro n
  induction n with
  | zero =>
    intro j hj
    refine aw_ildn (n := 5) C dX2_countAbove_4 rfl rfl ?_
    refine aw_aldn (n := 6) C dX2_countAbove_5 rfl rfl ?_
    refine aw_getR (n := 9) C dX2_countAbove_6 rfl fl_X2_18 rfl rfl ?_
    refine aw_getI (z := 9) (n := 12) C dX2_countAbove_9 rfl fl_X2_28 rfl rfl rfl ?_
    refine aw_icge (tgt := 29) (n := 15) C dX2_countAbove_12 rfl rfl (by omega) (by omega) (fun h_12 => ?_) (fun h_12 => ?_)
    · refine aw_ildn (n := 30) C dX2_countAbove_29 rfl rfl ?_
      refine hret 30 _ _ _ dX2_countAbove_30 (Or.inl rfl) ?_
      rw [show P = j by omega] at hp ⊢
      exact hp
    · omega
  | succ n ih =>
    intro j hj
    refine aw_ildn (n := 5) C dX2_countAbove_4 rfl rfl ?_
    refine aw_aldn (n := 6) C dX2_countAbove_5 rfl rfl ?_
    refine aw_getR (n := 9) C dX2_countAbove_6 rfl fl_X2_18 rfl rfl ?_
    refine aw_getI (z := 9) (n := 12) C dX2_countAbove_9 rfl fl_X2_28 rfl rfl rfl ?_
    refine aw_icge (tgt := 29) (n := 15) C dX2_countAbove_12 rfl rfl (by omega) (by omega) (fun h_12 => ?_) (fun h_12 => ?_)
    · omega
    · refine aw_ildn (n := 16) C dX2_countAbove_15 rfl rfl ?_
      refine aw_aldn (n := 17) C dX2_countAbove_16 rfl rfl ?_
      refine aw_ildn (n := 18) C dX2_countAbove_17 rfl rfl ?_
      refine aw_cVi (n := 21) (vs := [_]) C dX2_countAbove_18 rfl rfl rfl mm_X2_milesAbove wM_X2_56 rfl rfl (Nat.le_of_ble_eq_true rfl) (c_milesAbove (p := j) hS (by omega)) (by decide) (fun z_18 S_18 q_18 => ?_)
      rw [q_18.1, q_18.2]
      clear q_18 S_18 z_18
      refine aw_iadd (n := 22) C dX2_countAbove_21 rfl ?_
      refine aw_istn (n := 23) (L' := [_, _, _]) C dX2_countAbove_22 rfl (by decide) rfl rfl ?_
      refine aw_iinc (n := 26) (L' := [_, _, _]) C dX2_countAbove_23 rfl rfl (by decide) rfl rfl ?_
      refine aw_goto (tgt := 4) C dX2_countAbove_26 rfl ?_
      exact ih (j + 1) (by omega)
theorem c_countAbove (hS : SW S M P) : AMi 2 yX2_countAbove cX2_countAbove 3 (some .int) [.inr (.inr 50)] S (fun z S' => z = sm (fun p => sm (fAb (S 51) P (duC S) p) M) P ∧ S' = S) := by
  refine ami_intro (L := [_, none, none]) (by decide) (Or.inl rfl) rfl (Nat.le_of_ble_eq_true rfl) (fun X C hret => ?_)
  refine aw_iconst (n := 1) C dX2_countAbove_0 rfl ?_
  refine aw_istn (n := 2) (L' := [_, _, _]) C dX2_countAbove_1 rfl (by decide) rfl rfl ?_
  refine aw_iconst (n := 3) C dX2_countAbove_2 rfl ?_
  refine aw_istn (n := 4) (L' := [_, _, _]) C dX2_countAbove_3 rfl (by decide) rfl rfl ?_
  exact c_countAbove_loop hS C hret ⟨rfl, rfl⟩ P 0 (by omega)
end SEAT
