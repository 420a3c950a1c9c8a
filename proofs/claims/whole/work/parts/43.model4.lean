/-! the model: what the readings tell -/
def MR (S : Mem) : Prop := (0 ≤ S 66 26 ∧ S 66 26 ≤ 8) ∧ ∀ k, 0 ≤ k → k < S 66 26 → (0 ≤ S 84 k ∧ S 84 k < S 66 6) ∧ (0 ≤ S 85 k ∧ S 85 k ≤ S 66 5) ∧ (0 ≤ S 86 k ∧ S 86 k ≤ 2)
section MBG
variable {X : AMX} {S : Mem} {p w : Int}
theorem d_areSoIn_loop {post : Int → Mem → Prop} {m : Int} (W : MW S) (R : MR S) (hm : rng m) (hr : ∀ p, 0 ≤ p → p < S 66 6 → rng (S 80 p)) (C : CX X 1 RX7 cX7_areSoIn 3) (hret : ∀ (pc : Nat) (L : List (Option AV)) (z : Int) (S' : Mem), decode cX7_areSoIn pc = .ok (.ireturn, 1) → ((some FieldType.boolean) = some .int ∨ ((some FieldType.boolean) = some .boolean ∧ (z = 0 ∨ z = 1))) → post z S' → AW X cX7_areSoIn 3 pc L [.inl z] S') (hp1 : (∀ k, 0 ≤ k → k < S 66 26 → S 85 k = m → due (S 66 7) (S 66 8) (S 80 (S 84 k)) = S 86 k) → post 1 S) (hp0 : ¬ (∀ k, 0 ≤ k → k < S 66 26 → S 85 k = m → due (S 66 7) (S 66 8) (S 80 (S 84 k)) = S 86 k) → post 0 S) : ∀ (n j : Nat), (j : Int) + n = S 66 26 → (∀ k, 0 ≤ k → k < (j : Int) → S 85 k = m → due (S 66 7) (S 66 8) (S 80 (S 84 k)) = S 86 k) → AW X cX7_areSoIn 3 2 [some (.inr (.inr 66)), some (.inl m), some (.inl j)] [] S := by
  obtain ⟨t1, t2, t3, t4, t5, t6⟩ := id W
  obtain ⟨R1, R2⟩ := id R
  intro n
  induction n with
  | zero =>
    intro j hj hv
    refine aw_ildn (n := 3) C dX7_areSoIn_2 rfl rfl ?_
    refine aw_aldn (n := 4) C dX7_areSoIn_3 rfl rfl ?_
    refine aw_getI (z := 26) (n := 7) C dX7_areSoIn_4 rfl fl_X7_123 rfl rfl rfl ?_
    refine aw_icge (tgt := 52) (n := 10) C dX7_areSoIn_7 rfl rfl (by omega) (by omega) (fun h_7 => ?_) (fun h_7 => ?_)
    · refine aw_iconst (n := 53) C dX7_areSoIn_52 rfl ?_
      refine hret 53 _ _ _ dX7_areSoIn_53 (Or.inr ⟨rfl, by omega⟩) ?_
      exact hp1 (fun k k0 k1 => hv k k0 (by omega))
    · omega
  | succ n ih =>
    intro j hj hv
    have rj := R2 j (by omega) (by omega)
    have hrj := hr (S 84 j) rj.1.1 rj.1.2
    have hdr := due_r (S 66 7) (S 66 8) (S 80 (S 84 j))
    refine aw_ildn (n := 3) C dX7_areSoIn_2 rfl rfl ?_
    refine aw_aldn (n := 4) C dX7_areSoIn_3 rfl rfl ?_
    refine aw_getI (z := 26) (n := 7) C dX7_areSoIn_4 rfl fl_X7_123 rfl rfl rfl ?_
    refine aw_icge (tgt := 52) (n := 10) C dX7_areSoIn_7 rfl rfl (by omega) (by omega) (fun h_7 => ?_) (fun h_7 => ?_)
    · omega
    · refine aw_aldn (n := 11) C dX7_areSoIn_10 rfl rfl ?_
      refine aw_getR (n := 14) C dX7_areSoIn_11 rfl fl_X7_65 rfl rfl ?_
      refine aw_ildn (n := 15) C dX7_areSoIn_14 rfl rfl ?_
      refine aw_iald (n := 16) C dX7_areSoIn_15 rfl rfl (by omega) (by omega) ?_
      refine aw_ildn (n := 17) C dX7_areSoIn_16 rfl rfl ?_
      refine aw_icne (tgt := 46) (n := 20) C dX7_areSoIn_17 rfl rfl (by omega) (by omega) (fun h_17 => ?_) (fun h_17 => ?_)
      · refine aw_iinc (n := 49) (L' := [_, _, _]) C dX7_areSoIn_46 rfl rfl (by decide) rfl rfl ?_
        refine aw_goto (tgt := 2) C dX7_areSoIn_49 rfl ?_
        refine ih (j + 1) (by omega) (fun k k0 k1 hk => ?_)
        by_cases e : k = j
        · subst e
          first | assumption | exact absurd hk h_17
        · exact hv k k0 (by omega) hk
      · refine aw_aldn (n := 21) C dX7_areSoIn_20 rfl rfl ?_
        refine aw_aldn (n := 22) C dX7_areSoIn_21 rfl rfl ?_
        refine aw_getR (n := 25) C dX7_areSoIn_22 rfl fl_X7_50 rfl rfl ?_
        refine aw_aldn (n := 26) C dX7_areSoIn_25 rfl rfl ?_
        refine aw_getR (n := 29) C dX7_areSoIn_26 rfl fl_X7_62 rfl rfl ?_
        refine aw_ildn (n := 30) C dX7_areSoIn_29 rfl rfl ?_
        refine aw_iald (n := 31) C dX7_areSoIn_30 rfl rfl (by omega) (by omega) ?_
        refine aw_iald (n := 32) C dX7_areSoIn_31 rfl rfl (by omega) (by omega) ?_
        refine aw_cVi (n := 35) (vs := [_]) C dX7_areSoIn_32 rfl rfl rfl mm_X7_dueBy wM_X7_165 rfl rfl (Nat.le_of_ble_eq_true rfl) (d_dueBy hrj (by omega) (by omega)) (by decide) (fun z_32 S_32 q_32 => ?_)
        rw [q_32.1, q_32.2]
        clear q_32 S_32 z_32
        refine aw_aldn (n := 36) C dX7_areSoIn_35 rfl rfl ?_
        refine aw_getR (n := 39) C dX7_areSoIn_36 rfl fl_X7_68 rfl rfl ?_
        refine aw_ildn (n := 40) C dX7_areSoIn_39 rfl rfl ?_
        refine aw_iald (n := 41) C dX7_areSoIn_40 rfl rfl (by omega) (by omega) ?_
        refine aw_iceq (tgt := 46) (n := 44) C dX7_areSoIn_41 rfl rfl (by omega) (by omega) (fun h_41 => ?_) (fun h_41 => ?_)
        · refine aw_iinc (n := 49) (L' := [_, _, _]) C dX7_areSoIn_46 rfl rfl (by decide) rfl rfl ?_
          refine aw_goto (tgt := 2) C dX7_areSoIn_49 rfl ?_
          refine ih (j + 1) (by omega) (fun k k0 k1 hk => ?_)
          by_cases e : k = j
          · subst e
            first | assumption | exact absurd hk h_17
          · exact hv k k0 (by omega) hk
        · refine aw_iconst (n := 45) C dX7_areSoIn_44 rfl ?_
          refine hret 45 _ _ _ dX7_areSoIn_45 (Or.inr ⟨rfl, by omega⟩) ?_
          refine hp0 (fun h => ?_)
          have := h j (by omega) (by omega) h_17
          omega
theorem d_areSoIn {m : Int} (W : MW S) (R : MR S) (hm : rng m) (hr : ∀ p, 0 ≤ p → p < S 66 6 → rng (S 80 p)) : AMi 1 yX7_areSoIn cX7_areSoIn 3 (some .boolean) [.inr (.inr 66), .inl m] S (fun z S' => S' = S ∧ (z = 0 ∨ z = 1) ∧ (z = 1 ↔ ∀ k, 0 ≤ k → k < S 66 26 → S 85 k = m → due (S 66 7) (S 66 8) (S 80 (S 84 k)) = S 86 k)) := by
  have R1 := R.1
  refine ami_intro (L := [_, _, none]) (by decide) (Or.inr rfl) rfl (Nat.le_of_ble_eq_true rfl) (fun X C hret => ?_)
  refine aw_iconst (n := 1) C dX7_areSoIn_0 rfl ?_
  refine aw_istn (n := 2) (L' := [_, _, _]) C dX7_areSoIn_1 rfl (by decide) rfl rfl ?_
  exact d_areSoIn_loop W R hm hr C hret (fun h => ⟨rfl, Or.inr rfl, fun _ => h, fun _ => rfl⟩) (fun h => ⟨rfl, Or.inl rfl, fun h0 => absurd h0 (by decide), fun h1 => absurd h1 h⟩) (S 66 26).toNat 0 (by omega) (fun k k0 k1 => by omega)
theorem MR_fr {S' : Mem} {lo hi : Nat} (R : MR S) (h : fr lo hi S S') (hl : 77 ≤ lo) (hh : hi ≤ 84) : MR S' := by
  unfold MR
  rw [h 66 (by omega), h 84 (by omega), h 85 (by omega), h 86 (by omega)]
  exact R
theorem d_areSo_loop {post : Int → Mem → Prop} (W : MW S) (R : MR S) (C : CX X 2 RX7 cX7_areSo 2) (hret : ∀ (pc : Nat) (L : List (Option AV)) (z : Int) (S' : Mem), decode cX7_areSo pc = .ok (.ireturn, 1) → ((some FieldType.boolean) = some .int ∨ ((some FieldType.boolean) = some .boolean ∧ (z = 0 ∨ z = 1))) → post z S' → AW X cX7_areSo 2 pc L [.inl z] S') (hp : ∀ z S', fr 80 81 S S' → (z = 0 ∨ z = 1) → (z = 1 ↔ soR (S 66 7) (S 66 8) (RM S) (S 84) (S 85) (S 86) (S 66 26)) → post z S') : ∀ (n j : Nat) (S1 : Mem), (j : Int) + n = S 66 5 → fr 80 81 S S1 → (∀ p, 0 ≤ p → p < S 66 6 → S1 80 p = RM S j p) → (∀ k, 0 ≤ k → k < S 66 26 → S 85 k < j → due (S 66 7) (S 66 8) (RM S (S 85 k).toNat (S 84 k)) = S 86 k) → AW X cX7_areSo 2 6 [some (.inr (.inr 66)), some (.inl j)] [] S1 := by
  obtain ⟨t1, t2, t3, t4, t5, t6⟩ := id W
  obtain ⟨R1, R2⟩ := id R
  intro n
  induction n with
  | zero =>
    intro j S1 hj hf hv hs
    have e66 := hf 66 (by omega)
    have e5 : S1 66 5 = S 66 5 := by rw [e66]
    refine aw_ildn (n := 7) C dX7_areSo_6 rfl rfl ?_
    refine aw_aldn (n := 8) C dX7_areSo_7 rfl rfl ?_
    refine aw_getI (z := 5) (n := 11) C dX7_areSo_8 rfl fl_X7_84 rfl rfl rfl ?_
    refine aw_icge (tgt := 41) (n := 14) C dX7_areSo_11 rfl rfl (by omega) (by omega) (fun h_11 => ?_) (fun h_11 => ?_)
    · refine aw_aldn (n := 42) C dX7_areSo_41 rfl rfl ?_
      refine aw_aldn (n := 43) C dX7_areSo_42 rfl rfl ?_
      refine aw_getI (z := 5) (n := 46) C dX7_areSo_43 rfl fl_X7_84 rfl rfl rfl ?_
      refine aw_cVi (n := 49) (vs := [_]) C dX7_areSo_46 rfl rfl rfl mm_X7_areSoIn wM_X7_214 rfl rfl (Nat.le_of_ble_eq_true rfl) (d_areSoIn (m := S1 66 5) (MW_fr W hf (by omega)) (MR_fr R hf (by omega) (by omega)) (by omega) (fun p p0 p1 => by rw [e66] at p1; have := RM_r W j p p0 p1; rw [hv p p0 p1]; omega)) (by decide) (fun z_46 S_46 q_46 => ?_)
      obtain ⟨g1, g2, g3⟩ := q_46
      rw [e66, hf 84 (by omega), hf 85 (by omega), hf 86 (by omega)] at g3
      refine hret 49 _ _ _ dX7_areSo_49 (Or.inr ⟨rfl, g2⟩) ?_
      rw [g1]
      refine hp _ S1 hf g2 (g3.trans ⟨fun h k k0 k1 => ?_, fun h k k0 k1 hk => ?_⟩)
      · have rk := R2 k k0 k1
        by_cases e : S 85 k = S 66 5
        · have := h k k0 k1 e
          rw [hv (S 84 k) rk.1.1 rk.1.2] at this
          rw [show (S 85 k).toNat = j by omega]
          exact this
        · exact hs k k0 k1 (by omega)
      · have rk := R2 k k0 k1
        have := h k k0 k1
        rw [show (S 85 k).toNat = j by omega] at this
        rw [hv (S 84 k) rk.1.1 rk.1.2]
        exact this
    · omega
  | succ n ih =>
    intro j S1 hj hf hv hs
    have e66 := hf 66 (by omega)
    have e5 : S1 66 5 = S 66 5 := by rw [e66]
    have ht := (t5 j (by omega) (by omega)).1
    refine aw_ildn (n := 7) C dX7_areSo_6 rfl rfl ?_
    refine aw_aldn (n := 8) C dX7_areSo_7 rfl rfl ?_
    refine aw_getI (z := 5) (n := 11) C dX7_areSo_8 rfl fl_X7_84 rfl rfl rfl ?_
    refine aw_icge (tgt := 41) (n := 14) C dX7_areSo_11 rfl rfl (by omega) (by omega) (fun h_11 => ?_) (fun h_11 => ?_)
    · omega
    · refine aw_aldn (n := 15) C dX7_areSo_14 rfl rfl ?_
      refine aw_ildn (n := 16) C dX7_areSo_15 rfl rfl ?_
      refine aw_cVi (n := 19) (vs := [_]) C dX7_areSo_16 rfl rfl rfl mm_X7_areSoIn wM_X7_214 rfl rfl (Nat.le_of_ble_eq_true rfl) (d_areSoIn (m := (j : Int)) (MW_fr W hf (by omega)) (MR_fr R hf (by omega) (by omega)) (by omega) (fun p p0 p1 => by rw [e66] at p1; have := RM_r W j p p0 p1; rw [hv p p0 p1]; omega)) (by decide) (fun z_16 S_16 q_16 => ?_)
      obtain ⟨g1, g2, g3⟩ := q_16
      rw [e66, hf 84 (by omega), hf 85 (by omega), hf 86 (by omega)] at g3
      rw [g1]
      refine aw_ifne (tgt := 24) (n := 22) C dX7_areSo_19 rfl rfl (by omega) (fun h_19 => ?_) (fun h_19 => ?_)
      · refine aw_aldn (n := 25) C dX7_areSo_24 rfl rfl ?_
        refine aw_ildn (n := 26) C dX7_areSo_25 rfl rfl ?_
        refine aw_aldn (n := 27) C dX7_areSo_26 rfl rfl ?_
        refine aw_getR (n := 30) C dX7_areSo_27 rfl fl_X7_22 rfl rfl ?_
        refine aw_ildn (n := 31) C dX7_areSo_30 rfl rfl ?_
        refine aw_zald (n := 32) C dX7_areSo_31 rfl rfl (by omega) (by omega) ?_
        rw [hf 71 (by omega)]
        refine aw_cVv (n := 35) (vs := [_, _]) C dX7_areSo_32 rfl rfl rfl mm_X7_goMile wM_X7_153 rfl rfl (Nat.le_of_ble_eq_true rfl) (d_goMile (m := j) (MW_fr W hf (by omega)) (by rw [e66]; omega) ht (fun p p0 p1 => by rw [e66] at p1; rw [hv p p0 p1]; exact RM_r W j p p0 p1)) (by decide) (fun S_32 q_32 => ?_)
        obtain ⟨k1, k2⟩ := q_32
        rw [e66, hf 74 (by omega), hf 76 (by omega), hf 72 (by omega), hf 73 (by omega)] at k2
        refine aw_iinc (n := 38) (L' := [_, _]) C dX7_areSo_35 rfl rfl (by decide) rfl rfl ?_
        refine aw_goto (tgt := 6) C dX7_areSo_38 rfl ?_
        refine ih (j + 1) _ (by omega) (fr_tr hf k1) (fun p p0 p1 => by rw [k2 p p0 p1]; exact RM_next W (by omega) hv p p0 p1) (fun k k0 k1 hk => ?_)
        have rk := R2 k k0 k1
        by_cases e : S 85 k = j
        · have := g3.mp (by omega) k k0 k1 e
          rw [hv (S 84 k) rk.1.1 rk.1.2] at this
          rw [show (S 85 k).toNat = j by omega]
          exact this
        · exact hs k k0 k1 (by omega)
      · refine aw_iconst (n := 23) C dX7_areSo_22 rfl ?_
        refine hret 23 _ _ _ dX7_areSo_23 (Or.inr ⟨rfl, by omega⟩) ?_
        refine hp 0 S1 hf (Or.inl rfl) ⟨fun h => absurd h (by decide), fun h => ?_⟩
        exfalso
        have : z_16 = 1 := g3.mpr (fun k k0 k1 hk => by
          have rk := R2 k k0 k1
          have := h k k0 k1
          rw [show (S 85 k).toNat = j by omega] at this
          rw [hv (S 84 k) rk.1.1 rk.1.2]
          exact this)
        omega
theorem d_areSo (W : MW S) (R : MR S) : AMi 2 yX7_areSo cX7_areSo 2 (some .boolean) [.inr (.inr 66)] S (fun z S' => fr 80 81 S S' ∧ (z = 0 ∨ z = 1) ∧ (z = 1 ↔ soR (S 66 7) (S 66 8) (RM S) (S 84) (S 85) (S 86) (S 66 26))) := by
  obtain ⟨t1, t2, t3, t4, t5, t6⟩ := id W
  refine ami_intro (L := [_, none]) (by decide) (Or.inr rfl) rfl (Nat.le_of_ble_eq_true rfl) (fun X C hret => ?_)
  refine aw_aldn (n := 1) C dX7_areSo_0 rfl rfl ?_
  refine aw_cVv (n := 4) (vs := []) C dX7_areSo_1 rfl rfl rfl mm_X7_begin wM_X7_150 rfl rfl (Nat.le_of_ble_eq_true rfl) (d_begin t2) (by decide) (fun S_1 q_1 => ?_)
  obtain ⟨g1, g2⟩ := q_1
  refine aw_iconst (n := 5) C dX7_areSo_4 rfl ?_
  refine aw_istn (n := 6) (L' := [_, _]) C dX7_areSo_5 rfl (by decide) rfl rfl ?_
  exact d_areSo_loop W R C hret (fun z S' a b c => ⟨a, b, c⟩) (S 66 5).toNat 0 _ (by omega) g1 g2 (fun k k0 k1 hk => absurd hk (by have := (R.2 k k0 k1).2.1; omega))
/-- all as it was, but for one number of one passenger, and the regrets -/
def GM (S S1 : Mem) (p : Int) (ex : Nat) : Prop := (∀ c, c ≠ ex → c ≠ 80 → S1 c = S c) ∧ ∀ x, x ≠ p → S1 ex x = S ex x
theorem GM_rf (S : Mem) (p : Int) (ex : Nat) : GM S S p ex := ⟨fun _ _ _ => rfl, fun _ _ => rfl⟩
theorem GM_st {S S1 : Mem} {p v : Int} {ex : Nat} (h : GM S S1 p ex) : st2 S1 ex p v ex = fu (S ex) p v := by
  rw [st2_fu]
  funext x
  unfold fu
  by_cases e : x = p
  · rw [if_pos e, if_pos e]
  · rw [if_neg e, if_neg e, h.2 x e]
theorem GM_end {S S1 : Mem} {p : Int} {ex : Nat} (h : GM S S1 p ex) (he : ex ≠ 80) : fr 80 81 S (st2 S1 ex p (S ex p)) := fun c hc => by
  by_cases e : c = ex
  · rw [e, GM_st h]
    funext x
    unfold fu
    by_cases e : x = p
    · rw [if_pos e, e]
    · rw [if_neg e]
  · rw [st2_o c e, h.1 c e (by omega)]
def RvM (ex : Nat) (S : Mem) (p v : Int) : Nat → Fn := rg (if ex = 74 then fu (S 74) p v else S 74) (if ex = 76 then fu (S 76) p v else S 76) (if ex = 75 then fu (S 75) p v else S 75) (S 71) (S 72) (S 73)
theorem d_try {S1 : Mem} {v : Int} {ex : Nat} (hex : ex = 74 ∨ ex = 75 ∨ ex = 76) (W : MW S) (R : MR S) (h : GM S S1 p ex) (hv : (ex = 74 → 0 ≤ v ∧ v ≤ 2) ∧ (ex = 75 → 0 ≤ v ∧ v ≤ 59) ∧ (ex = 76 → 0 ≤ v ∧ v ≤ 9)) : AMi 2 yX7_areSo cX7_areSo 2 (some .boolean) [.inr (.inr 66)] (st2 S1 ex p v) (fun z S' => GM S S' p ex ∧ (z = 0 ∨ z = 1) ∧ (z = 1 ↔ soR (S 66 7) (S 66 8) (RvM ex S p v) (S 84) (S 85) (S 86) (S 66 26))) := by
  obtain ⟨t1, t2, t3, t4, t5, t6⟩ := id W
  have o : ∀ c, c ≠ ex → c ≠ 80 → st2 S1 ex p v c = S c := fun c c1 c2 => by rw [st2_o c c1, h.1 c c1 c2]
  have oe : st2 S1 ex p v ex = fu (S ex) p v := GM_st h
  have v4 : st2 S1 ex p v 74 = (if ex = 74 then fu (S 74) p v else S 74) := by
    by_cases e : ex = 74
    · rw [if_pos e]; rw [e] at oe; rw [e]; exact oe
    · rw [if_neg e]; exact o 74 (fun x => e x.symm) (by decide)
  have v5 : st2 S1 ex p v 75 = (if ex = 75 then fu (S 75) p v else S 75) := by
    by_cases e : ex = 75
    · rw [if_pos e]; rw [e] at oe; rw [e]; exact oe
    · rw [if_neg e]; exact o 75 (fun x => e x.symm) (by decide)
  have v6 : st2 S1 ex p v 76 = (if ex = 76 then fu (S 76) p v else S 76) := by
    by_cases e : ex = 76
    · rw [if_pos e]; rw [e] at oe; rw [e]; exact oe
    · rw [if_neg e]; exact o 76 (fun x => e x.symm) (by decide)
  have W2 : MW (st2 S1 ex p v) := by
    unfold MW
    rw [o 66 (by omega) (by decide), o 71 (by omega) (by decide), o 72 (by omega) (by decide), o 73 (by omega) (by decide), v4, v5, v6]
    refine ⟨t1, t2, t3, t4, t5, fun x x0 x1 => ?_⟩
    obtain ⟨b1, b2, b3⟩ := t6 x x0 x1
    refine ⟨?_, ?_, ?_⟩
    · by_cases e : ex = 74
      · rw [if_pos e]; exact fu_r b1 (hv.1 e)
      · rw [if_neg e]; exact b1
    · by_cases e : ex = 75
      · rw [if_pos e]; exact fu_r b2 (hv.2.1 e)
      · rw [if_neg e]; exact b2
    · by_cases e : ex = 76
      · rw [if_pos e]; exact fu_r b3 (hv.2.2 e)
      · rw [if_neg e]; exact b3
  have R2 : MR (st2 S1 ex p v) := by
    unfold MR
    rw [o 66 (by omega) (by decide), o 84 (by omega) (by decide), o 85 (by omega) (by decide), o 86 (by omega) (by decide)]
    exact R
  refine ami_mono (d_areSo W2 R2) (fun z S' hz => ?_)
  obtain ⟨z1, z2, z3⟩ := hz
  refine ⟨⟨fun c c1 c2 => ?_, fun x hx => ?_⟩, z2, ?_⟩
  · rw [z1 c (by omega), o c c1 c2]
  · rw [z1 ex (by omega), st2_n hx, h.2 x hx]
  · unfold RM at z3
    rw [o 66 (by omega) (by decide), o 71 (by omega) (by decide), o 72 (by omega) (by decide), o 73 (by omega) (by decide), o 84 (by omega) (by decide), o 85 (by omega) (by decide), o 86 (by omega) (by decide), v4, v5, v6] at z3
    exact z3
noncomputable def bM (ex : Nat) (S : Mem) (p : Int) (v : Nat) : Bool := bB (soR (S 66 7) (S 66 8) (RvM ex S p v) (S 84) (S 85) (S 86) (S 66 26))
theorem bM_z {ex : Nat} {z : Int} {v : Nat} (h1 : z = 0 ∨ z = 1) (h2 : z = 1 ↔ soR (S 66 7) (S 66 8) (RvM ex S p v) (S 84) (S 85) (S 86) (S 66 26)) : (z = 0 → bM ex S p v = false) ∧ (¬ z = 0 → bM ex S p v = true) := by
  refine ⟨fun h => ?_, fun h => bB_t.mpr (h2.mp (by omega))⟩
  cases e : bM ex S p v with
  | false => rfl
  | true => have := h2.mpr (bB_t.mp e); omega
theorem m_began_loop {post : Int → Mem → Prop} (hp0 : 0 ≤ p) (hp1 : p < S 66 6) (W : MW S) (R : MR S) (hw : w = 0 ∨ w = 1) (C : CX X 3 RX7 cX7_began 7) (hret : ∀ (pc : Nat) (L : List (Option AV)) (z : Int) (S' : Mem), decode cX7_began pc = .ok (.ireturn, 1) → ((some FieldType.int) = some .int ∨ ((some FieldType.int) = some .boolean ∧ (z = 0 ∨ z = 1))) → post z S' → AW X cX7_began 7 pc L [.inl z] S') (hp : ∀ S', fr 80 81 S S' → post (if w = 0 then cnB (bM 75 S p) 60 else lsB (bM 75 S p) 60) S') : ∀ (r v : Nat) (S1 : Mem), v + r = 60 → GM S S1 p 75 → AW X cX7_began 7 39 [some (.inr (.inr 66)), some (.inl p), some (.inl w), some (.inl (S 75 p)), some (.inl (cnB (bM 75 S p) v)), some (.inl (lsB (bM 75 S p) v)), some (.inl v)] [] S1 := by
  obtain ⟨t1, t2, t3, t4, t5, t6⟩ := id W
  intro r
  induction r with
  | zero =>
    intro v S1 hv hg
    obtain rfl : v = 60 := by omega
    have bp := t6 p hp0 hp1
    refine aw_ildw (n := 41) C dX7_began_39 rfl rfl ?_
    refine aw_bipush (n := 43) C dX7_began_41 rfl rfl ?_
    refine aw_icgt (tgt := 84) (n := 46) C dX7_began_43 rfl rfl (by omega) (by omega) (fun h_43 => ?_) (fun h_43 => ?_)
    · refine aw_aldn (n := 85) C dX7_began_84 rfl rfl ?_
      refine aw_getR (n := 88) C dX7_began_85 rfl fl_X7_35 rfl rfl ?_
      refine aw_ildn (n := 89) C dX7_began_88 rfl rfl ?_
      refine aw_ildn (n := 90) C dX7_began_89 rfl rfl ?_
      refine aw_iast (n := 91) C dX7_began_90 rfl rfl (by omega) (by omega) ?_
      refine aw_ildn (n := 92) C dX7_began_91 rfl rfl ?_
      refine aw_ifne (tgt := 100) (n := 95) C dX7_began_92 rfl rfl (by omega) (fun h_92 => ?_) (fun h_92 => ?_)
      · refine aw_ildw (n := 102) C dX7_began_100 rfl rfl ?_
        refine hret 102 _ _ _ dX7_began_102 (Or.inl rfl) ?_
        first | (have := hp _ (GM_end hg (by decide)); rw [if_pos h_92] at this; exact this) | (have := hp _ (GM_end hg (by decide)); rw [if_neg h_92] at this; exact this)
      · refine aw_ildw (n := 97) C dX7_began_95 rfl rfl ?_
        refine aw_goto (tgt := 102) C dX7_began_97 rfl ?_
        refine hret 102 _ _ _ dX7_began_102 (Or.inl rfl) ?_
        first | (have := hp _ (GM_end hg (by decide)); rw [if_pos h_92] at this; exact this) | (have := hp _ (GM_end hg (by decide)); rw [if_neg h_92] at this; exact this)
    · omega
  | succ r ih =>
    intro v S1 hv hg
    have hcr := cnB_r (bM 75 S p) v
    have hlr := lsB_r (bM 75 S p) v
    refine aw_ildw (n := 41) C dX7_began_39 rfl rfl ?_
    refine aw_bipush (n := 43) C dX7_began_41 rfl rfl ?_
    refine aw_icgt (tgt := 84) (n := 46) C dX7_began_43 rfl rfl (by omega) (by omega) (fun h_43 => ?_) (fun h_43 => ?_)
    · omega
    · refine aw_aldn (n := 47) C dX7_began_46 rfl rfl ?_
      refine aw_getR (n := 50) C dX7_began_47 rfl fl_X7_35 rfl rfl ?_
      refine aw_ildn (n := 51) C dX7_began_50 rfl rfl ?_
      refine aw_ildw (n := 53) C dX7_began_51 rfl rfl ?_
      refine aw_iast (n := 54) C dX7_began_53 rfl rfl (by omega) (by omega) ?_
      refine aw_aldn (n := 55) C dX7_began_54 rfl rfl ?_
      refine aw_cVi (n := 58) (vs := []) C dX7_began_55 rfl rfl rfl mm_X7_areSo wM_X7_217 rfl rfl (Nat.le_of_ble_eq_true rfl) (d_try (v := (v : Int)) (Or.inr (Or.inl rfl)) W R hg ⟨fun h => by omega, fun _ => by omega, fun h => by omega⟩) (by decide) (fun z_55 S_55 q_55 => ?_)
      obtain ⟨g1, g2, g3⟩ := q_55
      have hbz := bM_z g2 g3
      have e1 := cnB_s (bM 75 S p) v
      have e2 : lsB (bM 75 S p) (v + 1) = if bM 75 S p v = true then (if cnB (bM 75 S p) v = 0 then (v : Int) else lsB (bM 75 S p) v) else lsB (bM 75 S p) v := rfl
      refine aw_ifeq (tgt := 78) (n := 61) C dX7_began_58 rfl rfl (by omega) (fun h_58 => ?_) (fun h_58 => ?_)
      · refine aw_iinc (n := 81) (L' := [_, _, _, _, _, _, _]) C dX7_began_78 rfl rfl (by decide) rfl rfl ?_
        refine aw_goto (tgt := 39) C dX7_began_81 rfl ?_
        have := ih (v + 1) _ (by omega) g1
        rw [e1, e2] at this
        first | (rw [hbz.1 h_58, if_neg (by decide), if_neg (by decide), Int.add_zero] at this; exact this) | (rw [hbz.2 h_58, if_pos rfl, if_pos rfl, if_pos h_63] at this; exact this) | (rw [hbz.2 h_58, if_pos rfl, if_pos rfl, if_neg h_63] at this; exact this)
      · refine aw_ildw (n := 63) C dX7_began_61 rfl rfl ?_
        refine aw_ifne (tgt := 71) (n := 66) C dX7_began_63 rfl rfl (by omega) (fun h_63 => ?_) (fun h_63 => ?_)
        · refine aw_ildw (n := 73) C dX7_began_71 rfl rfl ?_
          refine aw_istw (n := 75) (L' := [_, _, _, _, _, _, _]) C dX7_began_73 rfl (by decide) rfl rfl ?_
          refine aw_iinc (n := 78) (L' := [_, _, _, _, _, _, _]) C dX7_began_75 rfl rfl (by decide) rfl rfl ?_
          refine aw_iinc (n := 81) (L' := [_, _, _, _, _, _, _]) C dX7_began_78 rfl rfl (by decide) rfl rfl ?_
          refine aw_goto (tgt := 39) C dX7_began_81 rfl ?_
          have := ih (v + 1) _ (by omega) g1
          rw [e1, e2] at this
          first | (rw [hbz.1 h_58, if_neg (by decide), if_neg (by decide), Int.add_zero] at this; exact this) | (rw [hbz.2 h_58, if_pos rfl, if_pos rfl, if_pos h_63] at this; exact this) | (rw [hbz.2 h_58, if_pos rfl, if_pos rfl, if_neg h_63] at this; exact this)
        · refine aw_ildw (n := 68) C dX7_began_66 rfl rfl ?_
          refine aw_goto (tgt := 73) C dX7_began_68 rfl ?_
          refine aw_istw (n := 75) (L' := [_, _, _, _, _, _, _]) C dX7_began_73 rfl (by decide) rfl rfl ?_
          refine aw_iinc (n := 78) (L' := [_, _, _, _, _, _, _]) C dX7_began_75 rfl rfl (by decide) rfl rfl ?_
          refine aw_iinc (n := 81) (L' := [_, _, _, _, _, _, _]) C dX7_began_78 rfl rfl (by decide) rfl rfl ?_
          refine aw_goto (tgt := 39) C dX7_began_81 rfl ?_
          have := ih (v + 1) _ (by omega) g1
          rw [e1, e2] at this
          first | (rw [hbz.1 h_58, if_neg (by decide), if_neg (by decide), Int.add_zero] at this; exact this) | (rw [hbz.2 h_58, if_pos rfl, if_pos rfl, if_pos h_63] at this; exact this) | (rw [hbz.2 h_58, if_pos rfl, if_pos rfl, if_neg h_63] at this; exact this)
theorem m_began (hp : rng p) (hw : rng w) (W : MW S) (R : MR S) : AMi 3 yX7_began cX7_began 7 (some .int) [.inr (.inr 66), .inl p, .inl w] S (fun z S' => fr 80 81 S S' ∧ z = (if p < 0 ∨ S 66 6 ≤ p then -1 else if w < 0 ∨ 1 < w then -2 else if w = 0 then cnB (bM 75 S p) 60 else lsB (bM 75 S p) 60)) := by
  obtain ⟨t1, t2, t3, t4, t5, t6⟩ := id W
  refine ami_intro (L := [_, _, _, none, none, none, none]) (by decide) (Or.inl rfl) rfl (Nat.le_of_ble_eq_true rfl) (fun X C hret => ?_)
  refine aw_aldn (n := 1) C dX7_began_0 rfl rfl ?_
  refine aw_ildn (n := 2) C dX7_began_1 rfl rfl ?_
  refine aw_cVi (n := 5) (vs := [_]) C dX7_began_2 rfl rfl rfl mm_X7_isPassenger wM_X7_137 rfl rfl (Nat.le_of_ble_eq_true rfl) (d_isPassenger hp (by omega)) (by decide) (fun z_2 S_2 q_2 => ?_)
  rw [q_2.1, q_2.2]
  clear q_2 S_2 z_2
  refine aw_ifne (tgt := 10) (n := 8) C dX7_began_5 rfl rfl (by omega) (fun h_5 => ?_) (fun h_5 => ?_)
  · refine aw_ildn (n := 11) C dX7_began_10 rfl rfl ?_
    refine aw_iconst (n := 12) C dX7_began_11 rfl ?_
    refine aw_iconst (n := 13) C dX7_began_12 rfl ?_
    refine aw_cSi (n := 16) (vs := [_, _, _]) C dX7_began_13 rfl rfl rfl mm_X7_within wM_X7_77 (Nat.le_of_ble_eq_true rfl) (d_within hw (by decide) (by decide)) (by decide) (fun z_13 S_13 q_13 => ?_)
    rw [q_13.1, q_13.2]
    clear q_13 S_13 z_13
    refine aw_ifne (tgt := 22) (n := 19) C dX7_began_16 rfl rfl (by omega) (fun h_16 => ?_) (fun h_16 => ?_)
    · refine aw_aldn (n := 23) C dX7_began_22 rfl rfl ?_
      refine aw_getR (n := 26) C dX7_began_23 rfl fl_X7_35 rfl rfl ?_
      refine aw_ildn (n := 27) C dX7_began_26 rfl rfl ?_
      refine aw_iald (n := 28) C dX7_began_27 rfl rfl (by omega) (by omega) ?_
      refine aw_istn (n := 29) (L' := [_, _, _, _, _, _, _]) C dX7_began_28 rfl (by decide) rfl rfl ?_
      refine aw_iconst (n := 30) C dX7_began_29 rfl ?_
      refine aw_istw (n := 32) (L' := [_, _, _, _, _, _, _]) C dX7_began_30 rfl (by decide) rfl rfl ?_
      refine aw_bipush (n := 34) C dX7_began_32 rfl rfl ?_
      refine aw_istw (n := 36) (L' := [_, _, _, _, _, _, _]) C dX7_began_34 rfl (by decide) rfl rfl ?_
      refine aw_iconst (n := 37) C dX7_began_36 rfl ?_
      refine aw_istw (n := 39) (L' := [_, _, _, _, _, _, _]) C dX7_began_37 rfl (by decide) rfl rfl ?_
      refine m_began_loop (by omega) (by omega) W R (by omega) C hret (fun S' hf => ⟨hf, ?_⟩) 60 0 _ (by omega) (GM_rf _ _ _)
      symm
      rw [if_neg (by omega), if_neg (by omega)]
    · refine aw_bipush (n := 21) C dX7_began_19 rfl rfl ?_
      refine hret 21 _ _ _ dX7_began_21 (Or.inl rfl) ?_
      exact ⟨fr_rf _ _ _, by rw [if_neg (by omega), if_pos (by omega)]⟩
  · refine aw_iconst (n := 9) C dX7_began_8 rfl ?_
    refine hret 9 _ _ _ dX7_began_9 (Or.inl rfl) ?_
    exact ⟨fr_rf _ _ _, by rw [if_pos (by omega)]⟩
theorem or_nil : ∀ s : Nat, s < 1024 → Int32.ofInt (s : Int) ||| Int32.ofInt 0 = Int32.ofInt ((s : Int) + 0) := by decide +kernel
theorem or_bz {v : Nat} {s b : Int} (hv : v < 10) (h0 : 0 ≤ s) (h1 : s < 2 ^ v) (hb : b = 0 ∨ b = 2 ^ v) : Int32.ofInt s ||| Int32.ofInt b = Int32.ofInt (s + b) := by
  rcases hb with rfl | rfl
  · obtain ⟨n, rfl⟩ : ∃ n : Nat, s = n := ⟨s.toNat, by omega⟩
    have h3 : (2 : Int) ^ v ≤ 1024 := by
      have : (2 : Nat) ^ v ≤ 2 ^ 10 := Nat.pow_le_pow_right (by decide) (by omega)
      have : ((2 ^ v : Nat) : Int) ≤ ((2 ^ 10 : Nat) : Int) := by omega
      rw [Int.natCast_pow] at this
      exact this
    exact or_nil n (by omega)
  · exact or_bitI hv h0 h1
theorem m_set74_loop {post : Int → Mem → Prop} (hp0 : 0 ≤ p) (hp1 : p < S 66 6) (W : MW S) (R : MR S) (C : CX X 3 RX7 cX7_kinds 5) (hret : ∀ (pc : Nat) (L : List (Option AV)) (z : Int) (S' : Mem), decode cX7_kinds pc = .ok (.ireturn, 1) → ((some FieldType.int) = some .int ∨ ((some FieldType.int) = some .boolean ∧ (z = 0 ∨ z = 1))) → post z S' → AW X cX7_kinds 5 pc L [.inl z] S') (hp : ∀ S', fr 80 81 S S' → post (seB (bM 74 S p) 3) S') : ∀ (r v : Nat) (S1 : Mem), v + r = 3 → GM S S1 p 74 → AW X cX7_kinds 5 22 [some (.inr (.inr 66)), some (.inl p), some (.inl (S 74 p)), some (.inl (seB (bM 74 S p) v)), some (.inl v)] [] S1 := by
  obtain ⟨t1, t2, t3, t4, t5, t6⟩ := id W
  intro r
  induction r with
  | zero =>
    intro v S1 hv hg
    obtain rfl : v = 3 := by omega
    have bp := t6 p hp0 hp1
    refine aw_ildw (n := 24) C dX7_kinds_22 rfl rfl ?_
    refine aw_iconst (n := 25) C dX7_kinds_24 rfl ?_
    refine aw_icge (tgt := 60) (n := 28) C dX7_kinds_25 rfl rfl (by omega) (by omega) (fun h_25 => ?_) (fun h_25 => ?_)
    · refine aw_aldn (n := 61) C dX7_kinds_60 rfl rfl ?_
      refine aw_getR (n := 64) C dX7_kinds_61 rfl fl_X7_32 rfl rfl ?_
      refine aw_ildn (n := 65) C dX7_kinds_64 rfl rfl ?_
      refine aw_ildn (n := 66) C dX7_kinds_65 rfl rfl ?_
      refine aw_iast (n := 67) C dX7_kinds_66 rfl rfl (by omega) (by omega) ?_
      refine aw_ildn (n := 68) C dX7_kinds_67 rfl rfl ?_
      refine hret 68 _ _ _ dX7_kinds_68 (Or.inl rfl) ?_
      exact hp _ (GM_end hg (by decide))
    · omega
  | succ r ih =>
    intro v S1 hv hg
    have hsr := seB_r (bM 74 S p) v
    refine aw_ildw (n := 24) C dX7_kinds_22 rfl rfl ?_
    refine aw_iconst (n := 25) C dX7_kinds_24 rfl ?_
    refine aw_icge (tgt := 60) (n := 28) C dX7_kinds_25 rfl rfl (by omega) (by omega) (fun h_25 => ?_) (fun h_25 => ?_)
    · omega
    · refine aw_aldn (n := 29) C dX7_kinds_28 rfl rfl ?_
      refine aw_getR (n := 32) C dX7_kinds_29 rfl fl_X7_32 rfl rfl ?_
      refine aw_ildn (n := 33) C dX7_kinds_32 rfl rfl ?_
      refine aw_ildw (n := 35) C dX7_kinds_33 rfl rfl ?_
      refine aw_iast (n := 36) C dX7_kinds_35 rfl rfl (by omega) (by omega) ?_
      refine aw_ildn (n := 37) C dX7_kinds_36 rfl rfl ?_
      refine aw_aldn (n := 38) C dX7_kinds_37 rfl rfl ?_
      refine aw_cVi (n := 41) (vs := []) C dX7_kinds_38 rfl rfl rfl mm_X7_areSo wM_X7_217 rfl rfl (Nat.le_of_ble_eq_true rfl) (d_try (v := (v : Int)) (ex := 74) (by decide) W R hg ⟨fun h => by omega, fun h => by omega, fun h => by omega⟩) (by decide) (fun z_38 S_38 q_38 => ?_)
      obtain ⟨g1, g2, g3⟩ := q_38
      have hbz := bM_z g2 g3
      have e1 := seB_s (bM 74 S p) v
      refine aw_ifeq (tgt := 51) (n := 44) C dX7_kinds_41 rfl rfl (by omega) (fun h_41 => ?_) (fun h_41 => ?_)
      · refine aw_iconst (n := 52) C dX7_kinds_51 rfl ?_
        refine aw_ior (n := 53) C dX7_kinds_52 rfl (or_bz (v := v) (by omega) hsr.1 hsr.2 (by first | exact Or.inl rfl | exact Or.inr rfl)) ?_
        refine aw_istn (n := 54) (L' := [_, _, _, _, _]) C dX7_kinds_53 rfl (by decide) rfl rfl ?_
        refine aw_iinc (n := 57) (L' := [_, _, _, _, _]) C dX7_kinds_54 rfl rfl (by decide) rfl rfl ?_
        refine aw_goto (tgt := 22) C dX7_kinds_57 rfl ?_
        have := ih (v + 1) _ (by omega) g1
        rw [e1] at this
        first | (rw [hbz.1 h_41, if_neg (by decide)] at this; exact this) | (rw [hbz.2 h_41, if_pos rfl] at this; exact this)
      · refine aw_iconst (n := 45) C dX7_kinds_44 rfl ?_
        refine aw_ildw (n := 47) C dX7_kinds_45 rfl rfl ?_
        refine aw_ishl (n := 48) C dX7_kinds_47 rfl (shl_bitI (by omega)) ?_
        refine aw_goto (tgt := 52) C dX7_kinds_48 rfl ?_
        refine aw_ior (n := 53) C dX7_kinds_52 rfl (or_bz (v := v) (by omega) hsr.1 hsr.2 (by first | exact Or.inl rfl | exact Or.inr rfl)) ?_
        refine aw_istn (n := 54) (L' := [_, _, _, _, _]) C dX7_kinds_53 rfl (by decide) rfl rfl ?_
        refine aw_iinc (n := 57) (L' := [_, _, _, _, _]) C dX7_kinds_54 rfl rfl (by decide) rfl rfl ?_
        refine aw_goto (tgt := 22) C dX7_kinds_57 rfl ?_
        have := ih (v + 1) _ (by omega) g1
        rw [e1] at this
        first | (rw [hbz.1 h_41, if_neg (by decide)] at this; exact this) | (rw [hbz.2 h_41, if_pos rfl] at this; exact this)
theorem m_kinds (hp : rng p) (W : MW S) (R : MR S) : AMi 3 yX7_kinds cX7_kinds 5 (some .int) [.inr (.inr 66), .inl p] S (fun z S' => fr 80 81 S S' ∧ z = (if p < 0 ∨ S 66 6 ≤ p then -1 else seB (bM 74 S p) 3)) := by
  obtain ⟨t1, t2, t3, t4, t5, t6⟩ := id W
  refine ami_intro (L := [_, _, none, none, none]) (by decide) (Or.inl rfl) rfl (Nat.le_of_ble_eq_true rfl) (fun X C hret => ?_)
  refine aw_aldn (n := 1) C dX7_kinds_0 rfl rfl ?_
  refine aw_ildn (n := 2) C dX7_kinds_1 rfl rfl ?_
  refine aw_cVi (n := 5) (vs := [_]) C dX7_kinds_2 rfl rfl rfl mm_X7_isPassenger wM_X7_137 rfl rfl (Nat.le_of_ble_eq_true rfl) (d_isPassenger hp (by omega)) (by decide) (fun z_2 S_2 q_2 => ?_)
  rw [q_2.1, q_2.2]
  clear q_2 S_2 z_2
  refine aw_ifne (tgt := 10) (n := 8) C dX7_kinds_5 rfl rfl (by omega) (fun h_5 => ?_) (fun h_5 => ?_)
  · refine aw_aldn (n := 11) C dX7_kinds_10 rfl rfl ?_
    refine aw_getR (n := 14) C dX7_kinds_11 rfl fl_X7_32 rfl rfl ?_
    refine aw_ildn (n := 15) C dX7_kinds_14 rfl rfl ?_
    refine aw_iald (n := 16) C dX7_kinds_15 rfl rfl (by omega) (by omega) ?_
    refine aw_istn (n := 17) (L' := [_, _, _, _, _]) C dX7_kinds_16 rfl (by decide) rfl rfl ?_
    refine aw_iconst (n := 18) C dX7_kinds_17 rfl ?_
    refine aw_istn (n := 19) (L' := [_, _, _, _, _]) C dX7_kinds_18 rfl (by decide) rfl rfl ?_
    refine aw_iconst (n := 20) C dX7_kinds_19 rfl ?_
    refine aw_istw (n := 22) (L' := [_, _, _, _, _]) C dX7_kinds_20 rfl (by decide) rfl rfl ?_
    refine m_set74_loop (by omega) (by omega) W R C hret (fun S' hf => ⟨hf, ?_⟩) 3 0 _ (by omega) (GM_rf _ _ _)
    rw [if_neg (by omega)]
  · refine aw_iconst (n := 9) C dX7_kinds_8 rfl ?_
    refine hret 9 _ _ _ dX7_kinds_9 (Or.inl rfl) ?_
    exact ⟨fr_rf _ _ _, by rw [if_pos (by omega)]⟩
theorem m_set76_loop {post : Int → Mem → Prop} (hp0 : 0 ≤ p) (hp1 : p < S 66 6) (W : MW S) (R : MR S) (C : CX X 3 RX7 cX7_fadings 5) (hret : ∀ (pc : Nat) (L : List (Option AV)) (z : Int) (S' : Mem), decode cX7_fadings pc = .ok (.ireturn, 1) → ((some FieldType.int) = some .int ∨ ((some FieldType.int) = some .boolean ∧ (z = 0 ∨ z = 1))) → post z S' → AW X cX7_fadings 5 pc L [.inl z] S') (hp : ∀ S', fr 80 81 S S' → post (seB (bM 76 S p) 10) S') : ∀ (r v : Nat) (S1 : Mem), v + r = 10 → GM S S1 p 76 → AW X cX7_fadings 5 22 [some (.inr (.inr 66)), some (.inl p), some (.inl (S 76 p)), some (.inl (seB (bM 76 S p) v)), some (.inl v)] [] S1 := by
  obtain ⟨t1, t2, t3, t4, t5, t6⟩ := id W
  intro r
  induction r with
  | zero =>
    intro v S1 hv hg
    obtain rfl : v = 10 := by omega
    have bp := t6 p hp0 hp1
    refine aw_ildw (n := 24) C dX7_fadings_22 rfl rfl ?_
    refine aw_bipush (n := 26) C dX7_fadings_24 rfl rfl ?_
    refine aw_icgt (tgt := 61) (n := 29) C dX7_fadings_26 rfl rfl (by omega) (by omega) (fun h_26 => ?_) (fun h_26 => ?_)
    · refine aw_aldn (n := 62) C dX7_fadings_61 rfl rfl ?_
      refine aw_getR (n := 65) C dX7_fadings_62 rfl fl_X7_38 rfl rfl ?_
      refine aw_ildn (n := 66) C dX7_fadings_65 rfl rfl ?_
      refine aw_ildn (n := 67) C dX7_fadings_66 rfl rfl ?_
      refine aw_iast (n := 68) C dX7_fadings_67 rfl rfl (by omega) (by omega) ?_
      refine aw_ildn (n := 69) C dX7_fadings_68 rfl rfl ?_
      refine hret 69 _ _ _ dX7_fadings_69 (Or.inl rfl) ?_
      exact hp _ (GM_end hg (by decide))
    · omega
  | succ r ih =>
    intro v S1 hv hg
    have hsr := seB_r (bM 76 S p) v
    refine aw_ildw (n := 24) C dX7_fadings_22 rfl rfl ?_
    refine aw_bipush (n := 26) C dX7_fadings_24 rfl rfl ?_
    refine aw_icgt (tgt := 61) (n := 29) C dX7_fadings_26 rfl rfl (by omega) (by omega) (fun h_26 => ?_) (fun h_26 => ?_)
    · omega
    · refine aw_aldn (n := 30) C dX7_fadings_29 rfl rfl ?_
      refine aw_getR (n := 33) C dX7_fadings_30 rfl fl_X7_38 rfl rfl ?_
      refine aw_ildn (n := 34) C dX7_fadings_33 rfl rfl ?_
      refine aw_ildw (n := 36) C dX7_fadings_34 rfl rfl ?_
      refine aw_iast (n := 37) C dX7_fadings_36 rfl rfl (by omega) (by omega) ?_
      refine aw_ildn (n := 38) C dX7_fadings_37 rfl rfl ?_
      refine aw_aldn (n := 39) C dX7_fadings_38 rfl rfl ?_
      refine aw_cVi (n := 42) (vs := []) C dX7_fadings_39 rfl rfl rfl mm_X7_areSo wM_X7_217 rfl rfl (Nat.le_of_ble_eq_true rfl) (d_try (v := (v : Int)) (ex := 76) (by decide) W R hg ⟨fun h => by omega, fun h => by omega, fun h => by omega⟩) (by decide) (fun z_39 S_39 q_39 => ?_)
      obtain ⟨g1, g2, g3⟩ := q_39
      have hbz := bM_z g2 g3
      have e1 := seB_s (bM 76 S p) v
      refine aw_ifeq (tgt := 52) (n := 45) C dX7_fadings_42 rfl rfl (by omega) (fun h_42 => ?_) (fun h_42 => ?_)
      · refine aw_iconst (n := 53) C dX7_fadings_52 rfl ?_
        refine aw_ior (n := 54) C dX7_fadings_53 rfl (or_bz (v := v) (by omega) hsr.1 hsr.2 (by first | exact Or.inl rfl | exact Or.inr rfl)) ?_
        refine aw_istn (n := 55) (L' := [_, _, _, _, _]) C dX7_fadings_54 rfl (by decide) rfl rfl ?_
        refine aw_iinc (n := 58) (L' := [_, _, _, _, _]) C dX7_fadings_55 rfl rfl (by decide) rfl rfl ?_
        refine aw_goto (tgt := 22) C dX7_fadings_58 rfl ?_
        have := ih (v + 1) _ (by omega) g1
        rw [e1] at this
        first | (rw [hbz.1 h_42, if_neg (by decide)] at this; exact this) | (rw [hbz.2 h_42, if_pos rfl] at this; exact this)
      · refine aw_iconst (n := 46) C dX7_fadings_45 rfl ?_
        refine aw_ildw (n := 48) C dX7_fadings_46 rfl rfl ?_
        refine aw_ishl (n := 49) C dX7_fadings_48 rfl (shl_bitI (by omega)) ?_
        refine aw_goto (tgt := 53) C dX7_fadings_49 rfl ?_
        refine aw_ior (n := 54) C dX7_fadings_53 rfl (or_bz (v := v) (by omega) hsr.1 hsr.2 (by first | exact Or.inl rfl | exact Or.inr rfl)) ?_
        refine aw_istn (n := 55) (L' := [_, _, _, _, _]) C dX7_fadings_54 rfl (by decide) rfl rfl ?_
        refine aw_iinc (n := 58) (L' := [_, _, _, _, _]) C dX7_fadings_55 rfl rfl (by decide) rfl rfl ?_
        refine aw_goto (tgt := 22) C dX7_fadings_58 rfl ?_
        have := ih (v + 1) _ (by omega) g1
        rw [e1] at this
        first | (rw [hbz.1 h_42, if_neg (by decide)] at this; exact this) | (rw [hbz.2 h_42, if_pos rfl] at this; exact this)
theorem m_fadings (hp : rng p) (W : MW S) (R : MR S) : AMi 3 yX7_fadings cX7_fadings 5 (some .int) [.inr (.inr 66), .inl p] S (fun z S' => fr 80 81 S S' ∧ z = (if p < 0 ∨ S 66 6 ≤ p then -1 else seB (bM 76 S p) 10)) := by
  obtain ⟨t1, t2, t3, t4, t5, t6⟩ := id W
  refine ami_intro (L := [_, _, none, none, none]) (by decide) (Or.inl rfl) rfl (Nat.le_of_ble_eq_true rfl) (fun X C hret => ?_)
  refine aw_aldn (n := 1) C dX7_fadings_0 rfl rfl ?_
  refine aw_ildn (n := 2) C dX7_fadings_1 rfl rfl ?_
  refine aw_cVi (n := 5) (vs := [_]) C dX7_fadings_2 rfl rfl rfl mm_X7_isPassenger wM_X7_137 rfl rfl (Nat.le_of_ble_eq_true rfl) (d_isPassenger hp (by omega)) (by decide) (fun z_2 S_2 q_2 => ?_)
  rw [q_2.1, q_2.2]
  clear q_2 S_2 z_2
  refine aw_ifne (tgt := 10) (n := 8) C dX7_fadings_5 rfl rfl (by omega) (fun h_5 => ?_) (fun h_5 => ?_)
  · refine aw_aldn (n := 11) C dX7_fadings_10 rfl rfl ?_
    refine aw_getR (n := 14) C dX7_fadings_11 rfl fl_X7_38 rfl rfl ?_
    refine aw_ildn (n := 15) C dX7_fadings_14 rfl rfl ?_
    refine aw_iald (n := 16) C dX7_fadings_15 rfl rfl (by omega) (by omega) ?_
    refine aw_istn (n := 17) (L' := [_, _, _, _, _]) C dX7_fadings_16 rfl (by decide) rfl rfl ?_
    refine aw_iconst (n := 18) C dX7_fadings_17 rfl ?_
    refine aw_istn (n := 19) (L' := [_, _, _, _, _]) C dX7_fadings_18 rfl (by decide) rfl rfl ?_
    refine aw_iconst (n := 20) C dX7_fadings_19 rfl ?_
    refine aw_istw (n := 22) (L' := [_, _, _, _, _]) C dX7_fadings_20 rfl (by decide) rfl rfl ?_
    refine m_set76_loop (by omega) (by omega) W R C hret (fun S' hf => ⟨hf, ?_⟩) 10 0 _ (by omega) (GM_rf _ _ _)
    rw [if_neg (by omega)]
  · refine aw_iconst (n := 9) C dX7_fadings_8 rfl ?_
    refine hret 9 _ _ _ dX7_fadings_9 (Or.inl rfl) ?_
    exact ⟨fr_rf _ _ _, by rw [if_pos (by omega)]⟩
end MBG
