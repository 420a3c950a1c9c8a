/-! the model: what its calls share, plain calls -/
def MW (S : Mem) : Prop := (0 ≤ S 66 5 ∧ S 66 5 ≤ 8) ∧ (0 ≤ S 66 6 ∧ S 66 6 ≤ 4) ∧ (0 ≤ S 66 7 ∧ S 66 7 ≤ 99) ∧ (0 ≤ S 66 8 ∧ S 66 8 ≤ 99) ∧ (∀ m, 0 ≤ m → m < S 66 5 → (S 71 m = 0 ∨ S 71 m = 1) ∧ tok (S 66 6) (S 72 m) (S 73 m)) ∧ (∀ p, 0 ≤ p → p < S 66 6 → (0 ≤ S 74 p ∧ S 74 p ≤ 2) ∧ (0 ≤ S 75 p ∧ S 75 p ≤ 59) ∧ (0 ≤ S 76 p ∧ S 76 p ≤ 9))
theorem MW_o {S S' : Mem} (W : MW S) (h : ∀ c, 66 ≤ c → c < 77 → S' c = S c) : MW S' := by
  unfold MW
  rw [h 66 (by omega) (by omega), h 71 (by omega) (by omega), h 72 (by omega) (by omega), h 73 (by omega) (by omega), h 74 (by omega) (by omega), h 75 (by omega) (by omega), h 76 (by omega) (by omega)]
  exact W
theorem MW_fr {S S' : Mem} {lo hi : Nat} (W : MW S) (h : fr lo hi S S') (hl : 77 ≤ lo) : MW S' := MW_o W (fun c _ h2 => h c (by omega))
theorem d_fails {S : Mem} {f : Int} : AMi 0 yX7_fails cX7_fails 2 (some .int) [.inr (.inr 66), .inl f] S (fun z S' => z = -10 - f ∧ S' = st2 S 66 0 f) := by
  refine ami_intro (L := [_, _]) (by decide) (Or.inl rfl) rfl (Nat.le_of_ble_eq_true rfl) (fun X C hret => ?_)
  refine aw_aldn (n := 1) C dX7_fails_0 rfl rfl ?_
  refine aw_ildn (n := 2) C dX7_fails_1 rfl rfl ?_
  refine aw_put (z := 0) (n := 5) C dX7_fails_2 rfl fp_X7_71 rfl rfl rfl (Or.inl rfl) ?_
  refine aw_bipush (n := 7) C dX7_fails_5 rfl rfl ?_
  refine aw_ildn (n := 8) C dX7_fails_7 rfl rfl ?_
  refine aw_isub (n := 9) C dX7_fails_8 rfl ?_
  refine hret 9 _ _ _ dX7_fails_9 (Or.inl rfl) ?_
  exact ⟨rfl, rfl⟩
theorem d_lost {S : Mem} {f : Int} : AMl 0 yX7_lost cX7_lost 2 (some .long) [.inr (.inr 66), .inl f] S (fun z S' => z = -9223372036854775808 ∧ S' = st2 S 66 0 f) := by
  refine aml_intro (L := [_, _]) (by decide) rfl (Nat.le_of_ble_eq_true rfl) (fun X C hret => ?_)
  refine aw_aldn (n := 1) C dX7_lost_0 rfl rfl ?_
  refine aw_ildn (n := 2) C dX7_lost_1 rfl rfl ?_
  refine aw_put (z := 0) (n := 5) C dX7_lost_2 rfl fp_X7_71 rfl rfl rfl (Or.inl rfl) ?_
  refine aw_ldc2 (z := -9223372036854775808) (n := 8) C dX7_lost_5 rfl wL_X7_75 (by decide) ?_
  refine hret 8 _ _ _ dX7_lost_8 ?_
  exact ⟨rfl, rfl⟩
theorem d_within {S : Mem} {v a b : Int} (hv : rng v) (ha : rng a) (hb : rng b) : AMi 0 yX7_within cX7_within 3 (some .boolean) [.inl v, .inl a, .inl b] S (fun z S' => z = (if a ≤ v ∧ v ≤ b then 1 else 0) ∧ S' = S) := by
  refine ami_intro (L := [_, _, _]) (by decide) (Or.inr rfl) rfl (Nat.le_of_ble_eq_true rfl) (fun X C hret => ?_)
  refine aw_ildn (n := 1) C dX7_within_0 rfl rfl ?_
  refine aw_ildn (n := 2) C dX7_within_1 rfl rfl ?_
  refine aw_iclt (tgt := 14) (n := 5) C dX7_within_2 rfl rfl (by omega) (by omega) (fun h_2 => ?_) (fun h_2 => ?_)
  · refine aw_iconst (n := 15) C dX7_within_14 rfl ?_
    refine hret 15 _ _ _ dX7_within_15 (Or.inr ⟨rfl, by omega⟩) ?_
    exact ⟨by omega, rfl⟩
  · refine aw_ildn (n := 6) C dX7_within_5 rfl rfl ?_
    refine aw_ildn (n := 7) C dX7_within_6 rfl rfl ?_
    refine aw_icgt (tgt := 14) (n := 10) C dX7_within_7 rfl rfl (by omega) (by omega) (fun h_7 => ?_) (fun h_7 => ?_)
    · refine aw_iconst (n := 15) C dX7_within_14 rfl ?_
      refine hret 15 _ _ _ dX7_within_15 (Or.inr ⟨rfl, by omega⟩) ?_
      exact ⟨by omega, rfl⟩
    · refine aw_iconst (n := 11) C dX7_within_10 rfl ?_
      refine aw_goto (tgt := 15) C dX7_within_11 rfl ?_
      refine hret 15 _ _ _ dX7_within_15 (Or.inr ⟨rfl, by omega⟩) ?_
      exact ⟨by omega, rfl⟩
theorem d_isSheet {S : Mem} {v : Int} (hv : rng v) : AMi 1 yX7_isSheet cX7_isSheet 1 (some .boolean) [.inl v] S (fun z S' => z = (if 0 ≤ v ∧ v ≤ 3 then 1 else 0) ∧ S' = S) := by
  refine ami_intro (L := [_]) (by decide) (Or.inr rfl) rfl (Nat.le_of_ble_eq_true rfl) (fun X C hret => ?_)
  refine aw_ildn (n := 1) C dX7_isSheet_0 rfl rfl ?_
  refine aw_iconst (n := 2) C dX7_isSheet_1 rfl ?_
  refine aw_iconst (n := 3) C dX7_isSheet_2 rfl ?_
  refine aw_cSi (n := 6) (vs := [_, _, _]) C dX7_isSheet_3 rfl rfl rfl mm_X7_within wM_X7_77 (Nat.le_of_ble_eq_true rfl) (d_within hv (by decide) (by decide)) (by decide) (fun z_3 S_3 q_3 => ?_)
  rw [q_3.1, q_3.2]
  clear q_3 S_3 z_3
  refine hret 6 _ _ _ dX7_isSheet_6 (Or.inr ⟨rfl, by omega⟩) ?_
  exact ⟨rfl, rfl⟩
theorem d_isSort {S : Mem} {v : Int} (hv : rng v) : AMi 1 yX7_isSort cX7_isSort 1 (some .boolean) [.inl v] S (fun z S' => z = (if 0 ≤ v ∧ v ≤ 2 then 1 else 0) ∧ S' = S) := by
  refine ami_intro (L := [_]) (by decide) (Or.inr rfl) rfl (Nat.le_of_ble_eq_true rfl) (fun X C hret => ?_)
  refine aw_ildn (n := 1) C dX7_isSort_0 rfl rfl ?_
  refine aw_iconst (n := 2) C dX7_isSort_1 rfl ?_
  refine aw_iconst (n := 3) C dX7_isSort_2 rfl ?_
  refine aw_cSi (n := 6) (vs := [_, _, _]) C dX7_isSort_3 rfl rfl rfl mm_X7_within wM_X7_77 (Nat.le_of_ble_eq_true rfl) (d_within hv (by decide) (by decide)) (by decide) (fun z_3 S_3 q_3 => ?_)
  rw [q_3.1, q_3.2]
  clear q_3 S_3 z_3
  refine hret 6 _ _ _ dX7_isSort_6 (Or.inr ⟨rfl, by omega⟩) ?_
  exact ⟨rfl, rfl⟩
/-- sheets within their bounds, as the model has them -/
def MH (S : Mem) : Prop := (∀ k, 0 ≤ k → k < 4 → (S 67 k = -9 ∨ (0 ≤ S 67 k ∧ S 67 k ≤ 2)) ∧ (0 ≤ S 68 k ∧ S 68 k ≤ 60)) ∧ ∀ i, rng (S 69 i)
theorem d_against {S : Mem} {k t i n : Int} (H : MH S) (k0 : 0 ≤ k) (k1 : k < 4) (ht : rng t) (hi : rng i) (hn : rng n) : AMi 0 yX7_against cX7_against 5 (some .int) [.inr (.inr 66), .inl k, .inl t, .inl i, .inl n] S (fun z S' => z = (if S 67 k = -9 then 1 else if S 67 k = t then (if n < 0 then 4 else if i < 0 ∨ S 68 k < i ∨ S 68 k - i < n then 3 else 0) else 2) ∧ S' = S) := by
  obtain ⟨h1, h2⟩ := H.1 k k0 k1
  refine ami_intro (L := [_, _, _, _, _]) (by decide) (Or.inl rfl) rfl (Nat.le_of_ble_eq_true rfl) (fun X C hret => ?_)
  refine aw_aldn (n := 1) C dX7_against_0 rfl rfl ?_
  refine aw_getR (n := 4) C dX7_against_1 rfl fl_X7_9 rfl rfl ?_
  refine aw_ildn (n := 5) C dX7_against_4 rfl rfl ?_
  refine aw_iald (n := 6) C dX7_against_5 rfl rfl (by omega) (by omega) ?_
  refine aw_bipush (n := 8) C dX7_against_6 rfl rfl ?_
  refine aw_iceq (tgt := 23) (n := 11) C dX7_against_8 rfl rfl (by omega) (by omega) (fun h_8 => ?_) (fun h_8 => ?_)
  · refine aw_aldn (n := 24) C dX7_against_23 rfl rfl ?_
    refine aw_getR (n := 27) C dX7_against_24 rfl fl_X7_9 rfl rfl ?_
    refine aw_ildn (n := 28) C dX7_against_27 rfl rfl ?_
    refine aw_iald (n := 29) C dX7_against_28 rfl rfl (by omega) (by omega) ?_
    refine aw_bipush (n := 31) C dX7_against_29 rfl rfl ?_
    refine aw_icne (tgt := 36) (n := 34) C dX7_against_31 rfl rfl (by omega) (by omega) (fun h_31 => ?_) (fun h_31 => ?_)
    · refine aw_ildw (n := 38) C dX7_against_36 rfl rfl ?_
      refine aw_ifge (tgt := 43) (n := 41) C dX7_against_38 rfl rfl (by omega) (fun h_38 => ?_) (fun h_38 => ?_)
      · refine aw_ildn (n := 44) C dX7_against_43 rfl rfl ?_
        refine aw_iflt (tgt := 70) (n := 47) C dX7_against_44 rfl rfl (by omega) (fun h_44 => ?_) (fun h_44 => ?_)
        · refine aw_iconst (n := 71) C dX7_against_70 rfl ?_
          refine aw_goto (tgt := 75) C dX7_against_71 rfl ?_
          refine hret 75 _ _ _ dX7_against_75 (Or.inl rfl) ?_
          exact ⟨by omega, rfl⟩
        · refine aw_ildn (n := 48) C dX7_against_47 rfl rfl ?_
          refine aw_aldn (n := 49) C dX7_against_48 rfl rfl ?_
          refine aw_getR (n := 52) C dX7_against_49 rfl fl_X7_13 rfl rfl ?_
          refine aw_ildn (n := 53) C dX7_against_52 rfl rfl ?_
          refine aw_iald (n := 54) C dX7_against_53 rfl rfl (by omega) (by omega) ?_
          refine aw_icgt (tgt := 70) (n := 57) C dX7_against_54 rfl rfl (by omega) (by omega) (fun h_54 => ?_) (fun h_54 => ?_)
          · refine aw_iconst (n := 71) C dX7_against_70 rfl ?_
            refine aw_goto (tgt := 75) C dX7_against_71 rfl ?_
            refine hret 75 _ _ _ dX7_against_75 (Or.inl rfl) ?_
            exact ⟨by omega, rfl⟩
          · refine aw_ildw (n := 59) C dX7_against_57 rfl rfl ?_
            refine aw_aldn (n := 60) C dX7_against_59 rfl rfl ?_
            refine aw_getR (n := 63) C dX7_against_60 rfl fl_X7_13 rfl rfl ?_
            refine aw_ildn (n := 64) C dX7_against_63 rfl rfl ?_
            refine aw_iald (n := 65) C dX7_against_64 rfl rfl (by omega) (by omega) ?_
            refine aw_ildn (n := 66) C dX7_against_65 rfl rfl ?_
            refine aw_isub (n := 67) C dX7_against_66 rfl ?_
            refine aw_icle (tgt := 74) (n := 70) C dX7_against_67 rfl rfl (by omega) (by omega) (fun h_67 => ?_) (fun h_67 => ?_)
            · refine aw_iconst (n := 75) C dX7_against_74 rfl ?_
              refine hret 75 _ _ _ dX7_against_75 (Or.inl rfl) ?_
              exact ⟨by omega, rfl⟩
            · refine aw_iconst (n := 71) C dX7_against_70 rfl ?_
              refine aw_goto (tgt := 75) C dX7_against_71 rfl ?_
              refine hret 75 _ _ _ dX7_against_75 (Or.inl rfl) ?_
              exact ⟨by omega, rfl⟩
      · refine aw_iconst (n := 42) C dX7_against_41 rfl ?_
        refine hret 42 _ _ _ dX7_against_42 (Or.inl rfl) ?_
        exact ⟨by omega, rfl⟩
    · refine aw_iconst (n := 35) C dX7_against_34 rfl ?_
      refine hret 35 _ _ _ dX7_against_35 (Or.inl rfl) ?_
      exact ⟨by omega, rfl⟩
  · refine aw_aldn (n := 12) C dX7_against_11 rfl rfl ?_
    refine aw_getR (n := 15) C dX7_against_12 rfl fl_X7_9 rfl rfl ?_
    refine aw_ildn (n := 16) C dX7_against_15 rfl rfl ?_
    refine aw_iald (n := 17) C dX7_against_16 rfl rfl (by omega) (by omega) ?_
    refine aw_ildn (n := 18) C dX7_against_17 rfl rfl ?_
    refine aw_iceq (tgt := 23) (n := 21) C dX7_against_18 rfl rfl (by omega) (by omega) (fun h_18 => ?_) (fun h_18 => ?_)
    · refine aw_aldn (n := 24) C dX7_against_23 rfl rfl ?_
      refine aw_getR (n := 27) C dX7_against_24 rfl fl_X7_9 rfl rfl ?_
      refine aw_ildn (n := 28) C dX7_against_27 rfl rfl ?_
      refine aw_iald (n := 29) C dX7_against_28 rfl rfl (by omega) (by omega) ?_
      refine aw_bipush (n := 31) C dX7_against_29 rfl rfl ?_
      refine aw_icne (tgt := 36) (n := 34) C dX7_against_31 rfl rfl (by omega) (by omega) (fun h_31 => ?_) (fun h_31 => ?_)
      · refine aw_ildw (n := 38) C dX7_against_36 rfl rfl ?_
        refine aw_ifge (tgt := 43) (n := 41) C dX7_against_38 rfl rfl (by omega) (fun h_38 => ?_) (fun h_38 => ?_)
        · refine aw_ildn (n := 44) C dX7_against_43 rfl rfl ?_
          refine aw_iflt (tgt := 70) (n := 47) C dX7_against_44 rfl rfl (by omega) (fun h_44 => ?_) (fun h_44 => ?_)
          · refine aw_iconst (n := 71) C dX7_against_70 rfl ?_
            refine aw_goto (tgt := 75) C dX7_against_71 rfl ?_
            refine hret 75 _ _ _ dX7_against_75 (Or.inl rfl) ?_
            exact ⟨by omega, rfl⟩
          · refine aw_ildn (n := 48) C dX7_against_47 rfl rfl ?_
            refine aw_aldn (n := 49) C dX7_against_48 rfl rfl ?_
            refine aw_getR (n := 52) C dX7_against_49 rfl fl_X7_13 rfl rfl ?_
            refine aw_ildn (n := 53) C dX7_against_52 rfl rfl ?_
            refine aw_iald (n := 54) C dX7_against_53 rfl rfl (by omega) (by omega) ?_
            refine aw_icgt (tgt := 70) (n := 57) C dX7_against_54 rfl rfl (by omega) (by omega) (fun h_54 => ?_) (fun h_54 => ?_)
            · refine aw_iconst (n := 71) C dX7_against_70 rfl ?_
              refine aw_goto (tgt := 75) C dX7_against_71 rfl ?_
              refine hret 75 _ _ _ dX7_against_75 (Or.inl rfl) ?_
              exact ⟨by omega, rfl⟩
            · refine aw_ildw (n := 59) C dX7_against_57 rfl rfl ?_
              refine aw_aldn (n := 60) C dX7_against_59 rfl rfl ?_
              refine aw_getR (n := 63) C dX7_against_60 rfl fl_X7_13 rfl rfl ?_
              refine aw_ildn (n := 64) C dX7_against_63 rfl rfl ?_
              refine aw_iald (n := 65) C dX7_against_64 rfl rfl (by omega) (by omega) ?_
              refine aw_ildn (n := 66) C dX7_against_65 rfl rfl ?_
              refine aw_isub (n := 67) C dX7_against_66 rfl ?_
              refine aw_icle (tgt := 74) (n := 70) C dX7_against_67 rfl rfl (by omega) (by omega) (fun h_67 => ?_) (fun h_67 => ?_)
              · refine aw_iconst (n := 75) C dX7_against_74 rfl ?_
                refine hret 75 _ _ _ dX7_against_75 (Or.inl rfl) ?_
                exact ⟨by omega, rfl⟩
              · refine aw_iconst (n := 71) C dX7_against_70 rfl ?_
                refine aw_goto (tgt := 75) C dX7_against_71 rfl ?_
                refine hret 75 _ _ _ dX7_against_75 (Or.inl rfl) ?_
                exact ⟨by omega, rfl⟩
        · refine aw_iconst (n := 42) C dX7_against_41 rfl ?_
          refine hret 42 _ _ _ dX7_against_42 (Or.inl rfl) ?_
          exact ⟨by omega, rfl⟩
      · refine aw_iconst (n := 35) C dX7_against_34 rfl ?_
        refine hret 35 _ _ _ dX7_against_35 (Or.inl rfl) ?_
        exact ⟨by omega, rfl⟩
    · refine aw_iconst (n := 22) C dX7_against_21 rfl ?_
      refine hret 22 _ _ _ dX7_against_22 (Or.inl rfl) ?_
      exact ⟨by omega, rfl⟩
theorem d_isPassenger {S : Mem} {p : Int} (hp : rng p) (h : rng (S 66 6)) : AMi 0 yX7_isPassenger cX7_isPassenger 2 (some .boolean) [.inr (.inr 66), .inl p] S (fun z S' => z = (if p < 0 ∨ S 66 6 ≤ p then 0 else 1) ∧ S' = S) := by
  refine ami_intro (L := [_, _]) (by decide) (Or.inr rfl) rfl (Nat.le_of_ble_eq_true rfl) (fun X C hret => ?_)
  refine aw_ildn (n := 1) C dX7_isPassenger_0 rfl rfl ?_
  refine aw_iflt (tgt := 16) (n := 4) C dX7_isPassenger_1 rfl rfl (by omega) (fun h_1 => ?_) (fun h_1 => ?_)
  · refine aw_iconst (n := 17) C dX7_isPassenger_16 rfl ?_
    refine hret 17 _ _ _ dX7_isPassenger_17 (Or.inr ⟨rfl, by omega⟩) ?_
    exact ⟨by omega, rfl⟩
  · refine aw_ildn (n := 5) C dX7_isPassenger_4 rfl rfl ?_
    refine aw_aldn (n := 6) C dX7_isPassenger_5 rfl rfl ?_
    refine aw_getI (z := 6) (n := 9) C dX7_isPassenger_6 rfl fl_X7_81 rfl rfl rfl ?_
    refine aw_icge (tgt := 16) (n := 12) C dX7_isPassenger_9 rfl rfl (by omega) (by omega) (fun h_9 => ?_) (fun h_9 => ?_)
    · refine aw_iconst (n := 17) C dX7_isPassenger_16 rfl ?_
      refine hret 17 _ _ _ dX7_isPassenger_17 (Or.inr ⟨rfl, by omega⟩) ?_
      exact ⟨by omega, rfl⟩
    · refine aw_iconst (n := 13) C dX7_isPassenger_12 rfl ?_
      refine aw_goto (tgt := 17) C dX7_isPassenger_13 rfl ?_
      refine hret 17 _ _ _ dX7_isPassenger_17 (Or.inr ⟨rfl, by omega⟩) ?_
      exact ⟨by omega, rfl⟩
theorem d_isMile {S : Mem} {p : Int} (hp : rng p) (h : rng (S 66 5)) : AMi 0 yX7_isMile cX7_isMile 2 (some .boolean) [.inr (.inr 66), .inl p] S (fun z S' => z = (if p < 0 ∨ S 66 5 ≤ p then 0 else 1) ∧ S' = S) := by
  refine ami_intro (L := [_, _]) (by decide) (Or.inr rfl) rfl (Nat.le_of_ble_eq_true rfl) (fun X C hret => ?_)
  refine aw_ildn (n := 1) C dX7_isMile_0 rfl rfl ?_
  refine aw_iflt (tgt := 16) (n := 4) C dX7_isMile_1 rfl rfl (by omega) (fun h_1 => ?_) (fun h_1 => ?_)
  · refine aw_iconst (n := 17) C dX7_isMile_16 rfl ?_
    refine hret 17 _ _ _ dX7_isMile_17 (Or.inr ⟨rfl, by omega⟩) ?_
    exact ⟨by omega, rfl⟩
  · refine aw_ildn (n := 5) C dX7_isMile_4 rfl rfl ?_
    refine aw_aldn (n := 6) C dX7_isMile_5 rfl rfl ?_
    refine aw_getI (z := 5) (n := 9) C dX7_isMile_6 rfl fl_X7_84 rfl rfl rfl ?_
    refine aw_icge (tgt := 16) (n := 12) C dX7_isMile_9 rfl rfl (by omega) (by omega) (fun h_9 => ?_) (fun h_9 => ?_)
    · refine aw_iconst (n := 17) C dX7_isMile_16 rfl ?_
      refine hret 17 _ _ _ dX7_isMile_17 (Or.inr ⟨rfl, by omega⟩) ?_
      exact ⟨by omega, rfl⟩
    · refine aw_iconst (n := 13) C dX7_isMile_12 rfl ?_
      refine aw_goto (tgt := 17) C dX7_isMile_13 rfl ?_
      refine hret 17 _ _ _ dX7_isMile_17 (Or.inr ⟨rfl, by omega⟩) ?_
      exact ⟨by omega, rfl⟩
theorem m_ofPassenger {S : Mem} {p w : Int} (hp : rng p) (hw : rng w) (h9 : 0 ≤ S 66 6 ∧ S 66 6 ≤ 4) : AMi 1 yX7_ofPassenger cX7_ofPassenger 3 (some .int) [.inr (.inr 66), .inl p, .inl w] S (fun z S' => z = (if p < 0 ∨ S 66 6 ≤ p then -1 else if w = 0 then S 74 p else if w = 1 then S 75 p else if w = 2 then S 76 p else -2) ∧ S' = S) := by
  refine ami_intro (L := [_, _, _]) (by decide) (Or.inl rfl) rfl (Nat.le_of_ble_eq_true rfl) (fun X C hret => ?_)
  refine aw_aldn (n := 1) C dX7_ofPassenger_0 rfl rfl ?_
  refine aw_ildn (n := 2) C dX7_ofPassenger_1 rfl rfl ?_
  refine aw_cVi (n := 5) (vs := [_]) C dX7_ofPassenger_2 rfl rfl rfl mm_X7_isPassenger wM_X7_137 rfl rfl (Nat.le_of_ble_eq_true rfl) (d_isPassenger hp (by omega)) (by decide) (fun z_2 S_2 q_2 => ?_)
  rw [q_2.1, q_2.2]
  clear q_2 S_2 z_2
  refine aw_ifne (tgt := 10) (n := 8) C dX7_ofPassenger_5 rfl rfl (by omega) (fun h_5 => ?_) (fun h_5 => ?_)
  · refine aw_ildn (n := 11) C dX7_ofPassenger_10 rfl rfl ?_
    refine aw_ifne (tgt := 23) (n := 14) C dX7_ofPassenger_11 rfl rfl (by omega) (fun h_11 => ?_) (fun h_11 => ?_)
    · refine aw_ildn (n := 24) C dX7_ofPassenger_23 rfl rfl ?_
      refine aw_iconst (n := 25) C dX7_ofPassenger_24 rfl ?_
      refine aw_icne (tgt := 37) (n := 28) C dX7_ofPassenger_25 rfl rfl (by omega) (by omega) (fun h_25 => ?_) (fun h_25 => ?_)
      · refine aw_ildn (n := 38) C dX7_ofPassenger_37 rfl rfl ?_
        refine aw_iconst (n := 39) C dX7_ofPassenger_38 rfl ?_
        refine aw_icne (tgt := 51) (n := 42) C dX7_ofPassenger_39 rfl rfl (by omega) (by omega) (fun h_39 => ?_) (fun h_39 => ?_)
        · refine aw_bipush (n := 53) C dX7_ofPassenger_51 rfl rfl ?_
          refine hret 53 _ _ _ dX7_ofPassenger_53 (Or.inl rfl) ?_
          exact ⟨by omega, rfl⟩
        · refine aw_aldn (n := 43) C dX7_ofPassenger_42 rfl rfl ?_
          refine aw_getR (n := 46) C dX7_ofPassenger_43 rfl fl_X7_38 rfl rfl ?_
          refine aw_ildn (n := 47) C dX7_ofPassenger_46 rfl rfl ?_
          refine aw_iald (n := 48) C dX7_ofPassenger_47 rfl rfl (by omega) (by omega) ?_
          refine aw_goto (tgt := 53) C dX7_ofPassenger_48 rfl ?_
          refine hret 53 _ _ _ dX7_ofPassenger_53 (Or.inl rfl) ?_
          exact ⟨by omega, rfl⟩
      · refine aw_aldn (n := 29) C dX7_ofPassenger_28 rfl rfl ?_
        refine aw_getR (n := 32) C dX7_ofPassenger_29 rfl fl_X7_35 rfl rfl ?_
        refine aw_ildn (n := 33) C dX7_ofPassenger_32 rfl rfl ?_
        refine aw_iald (n := 34) C dX7_ofPassenger_33 rfl rfl (by omega) (by omega) ?_
        refine aw_goto (tgt := 53) C dX7_ofPassenger_34 rfl ?_
        refine hret 53 _ _ _ dX7_ofPassenger_53 (Or.inl rfl) ?_
        exact ⟨by omega, rfl⟩
    · refine aw_aldn (n := 15) C dX7_ofPassenger_14 rfl rfl ?_
      refine aw_getR (n := 18) C dX7_ofPassenger_15 rfl fl_X7_32 rfl rfl ?_
      refine aw_ildn (n := 19) C dX7_ofPassenger_18 rfl rfl ?_
      refine aw_iald (n := 20) C dX7_ofPassenger_19 rfl rfl (by omega) (by omega) ?_
      refine aw_goto (tgt := 53) C dX7_ofPassenger_20 rfl ?_
      refine hret 53 _ _ _ dX7_ofPassenger_53 (Or.inl rfl) ?_
      exact ⟨by omega, rfl⟩
  · refine aw_iconst (n := 9) C dX7_ofPassenger_8 rfl ?_
    refine hret 9 _ _ _ dX7_ofPassenger_9 (Or.inl rfl) ?_
    exact ⟨by omega, rfl⟩
theorem m_seats {S : Mem} {c v : Int} (hc : rng c) (hv : rng v) (h8 : 0 ≤ S 66 5 ∧ S 66 5 ≤ 8) : AMi 1 yX7_seats cX7_seats 4 (some .int) [.inr (.inr 66), .inl c, .inl v] S (fun z S' => z = (if S 66 5 = 0 then -3 else if c < 0 ∨ 3 ≤ c ∨ v < 0 ∨ 4 < v then -2 else S 70 c) ∧ S' = (if S 66 5 = 0 ∨ c < 0 ∨ 3 ≤ c ∨ v < 0 ∨ 4 < v then S else st2 S 70 c v)) := by
  refine ami_intro (L := [_, _, _, none]) (by decide) (Or.inl rfl) rfl (Nat.le_of_ble_eq_true rfl) (fun X C hret => ?_)
  refine aw_aldn (n := 1) C dX7_seats_0 rfl rfl ?_
  refine aw_getI (z := 5) (n := 4) C dX7_seats_1 rfl fl_X7_84 rfl rfl rfl ?_
  refine aw_ifne (tgt := 10) (n := 7) C dX7_seats_4 rfl rfl (by omega) (fun h_4 => ?_) (fun h_4 => ?_)
  · refine aw_ildn (n := 11) C dX7_seats_10 rfl rfl ?_
    refine aw_iconst (n := 12) C dX7_seats_11 rfl ?_
    refine aw_iconst (n := 13) C dX7_seats_12 rfl ?_
    refine aw_cSi (n := 16) (vs := [_, _, _]) C dX7_seats_13 rfl rfl rfl mm_X7_within wM_X7_77 (Nat.le_of_ble_eq_true rfl) (d_within hc (by decide) (by decide)) (by decide) (fun z_13 S_13 q_13 => ?_)
    rw [q_13.1, q_13.2]
    clear q_13 S_13 z_13
    refine aw_ifeq (tgt := 28) (n := 19) C dX7_seats_16 rfl rfl (by omega) (fun h_16 => ?_) (fun h_16 => ?_)
    · refine aw_bipush (n := 30) C dX7_seats_28 rfl rfl ?_
      refine hret 30 _ _ _ dX7_seats_30 (Or.inl rfl) ?_
      first | (exfalso; omega; done) | exact ⟨by omega, by first | rw [if_pos (by omega)] | rw [if_neg (by omega)]⟩
    · refine aw_ildn (n := 20) C dX7_seats_19 rfl rfl ?_
      refine aw_iconst (n := 21) C dX7_seats_20 rfl ?_
      refine aw_iconst (n := 22) C dX7_seats_21 rfl ?_
      refine aw_cSi (n := 25) (vs := [_, _, _]) C dX7_seats_22 rfl rfl rfl mm_X7_within wM_X7_77 (Nat.le_of_ble_eq_true rfl) (d_within hv (by decide) (by decide)) (by decide) (fun z_22 S_22 q_22 => ?_)
      rw [q_22.1, q_22.2]
      clear q_22 S_22 z_22
      refine aw_ifne (tgt := 31) (n := 28) C dX7_seats_25 rfl rfl (by omega) (fun h_25 => ?_) (fun h_25 => ?_)
      · refine aw_aldn (n := 32) C dX7_seats_31 rfl rfl ?_
        refine aw_getR (n := 35) C dX7_seats_32 rfl fl_X7_19 rfl rfl ?_
        refine aw_ildn (n := 36) C dX7_seats_35 rfl rfl ?_
        refine aw_iald (n := 37) C dX7_seats_36 rfl rfl (by omega) (by omega) ?_
        refine aw_istn (n := 38) (L' := [_, _, _, _]) C dX7_seats_37 rfl (by decide) rfl rfl ?_
        refine aw_aldn (n := 39) C dX7_seats_38 rfl rfl ?_
        refine aw_getR (n := 42) C dX7_seats_39 rfl fl_X7_19 rfl rfl ?_
        refine aw_ildn (n := 43) C dX7_seats_42 rfl rfl ?_
        refine aw_ildn (n := 44) C dX7_seats_43 rfl rfl ?_
        refine aw_iast (n := 45) C dX7_seats_44 rfl rfl (by omega) (by omega) ?_
        refine aw_ildn (n := 46) C dX7_seats_45 rfl rfl ?_
        refine hret 46 _ _ _ dX7_seats_46 (Or.inl rfl) ?_
        first | (exfalso; omega; done) | exact ⟨by omega, by first | rw [if_pos (by omega)] | rw [if_neg (by omega)]⟩
      · refine aw_bipush (n := 30) C dX7_seats_28 rfl rfl ?_
        refine hret 30 _ _ _ dX7_seats_30 (Or.inl rfl) ?_
        first | (exfalso; omega; done) | exact ⟨by omega, by first | rw [if_pos (by omega)] | rw [if_neg (by omega)]⟩
  · refine aw_bipush (n := 9) C dX7_seats_7 rfl rfl ?_
    refine hret 9 _ _ _ dX7_seats_9 (Or.inl rfl) ?_
    first | (exfalso; omega; done) | exact ⟨by omega, by first | rw [if_pos (by omega)] | rw [if_neg (by omega)]⟩
theorem m_limits {S : Mem} {a b : Int} (ha : rng a) (hb : rng b) (h8 : 0 ≤ S 66 5 ∧ S 66 5 ≤ 8) : AMi 1 yX7_limits cX7_limits 4 (some .int) [.inr (.inr 66), .inl a, .inl b] S (fun z S' => z = (if S 66 5 = 0 then -3 else if a < 0 ∨ b < a ∨ 99 < b then -2 else 100 * S 66 7 + S 66 8) ∧ S' = (if S 66 5 = 0 ∨ a < 0 ∨ b < a ∨ 99 < b then S else st2 (st2 S 66 7 a) 66 8 b)) := by
  refine ami_intro (L := [_, _, _, none]) (by decide) (Or.inl rfl) rfl (Nat.le_of_ble_eq_true rfl) (fun X C hret => ?_)
  refine aw_aldn (n := 1) C dX7_limits_0 rfl rfl ?_
  refine aw_getI (z := 5) (n := 4) C dX7_limits_1 rfl fl_X7_84 rfl rfl rfl ?_
  refine aw_ifne (tgt := 10) (n := 7) C dX7_limits_4 rfl rfl (by omega) (fun h_4 => ?_) (fun h_4 => ?_)
  · refine aw_ildn (n := 11) C dX7_limits_10 rfl rfl ?_
    refine aw_iconst (n := 12) C dX7_limits_11 rfl ?_
    refine aw_bipush (n := 14) C dX7_limits_12 rfl rfl ?_
    refine aw_cSi (n := 17) (vs := [_, _, _]) C dX7_limits_14 rfl rfl rfl mm_X7_within wM_X7_77 (Nat.le_of_ble_eq_true rfl) (d_within ha (by decide) (by decide)) (by decide) (fun z_14 S_14 q_14 => ?_)
    rw [q_14.1, q_14.2]
    clear q_14 S_14 z_14
    refine aw_ifeq (tgt := 30) (n := 20) C dX7_limits_17 rfl rfl (by omega) (fun h_17 => ?_) (fun h_17 => ?_)
    · refine aw_bipush (n := 32) C dX7_limits_30 rfl rfl ?_
      refine hret 32 _ _ _ dX7_limits_32 (Or.inl rfl) ?_
      first | (exfalso; omega; done) | exact ⟨by omega, by first | rw [if_pos (by omega)] | rw [if_neg (by omega)]⟩
    · refine aw_ildn (n := 21) C dX7_limits_20 rfl rfl ?_
      refine aw_ildn (n := 22) C dX7_limits_21 rfl rfl ?_
      refine aw_bipush (n := 24) C dX7_limits_22 rfl rfl ?_
      refine aw_cSi (n := 27) (vs := [_, _, _]) C dX7_limits_24 rfl rfl rfl mm_X7_within wM_X7_77 (Nat.le_of_ble_eq_true rfl) (d_within hb ha (by decide)) (by decide) (fun z_24 S_24 q_24 => ?_)
      rw [q_24.1, q_24.2]
      clear q_24 S_24 z_24
      refine aw_ifne (tgt := 33) (n := 30) C dX7_limits_27 rfl rfl (by omega) (fun h_27 => ?_) (fun h_27 => ?_)
      · refine aw_bipush (n := 35) C dX7_limits_33 rfl rfl ?_
        refine aw_aldn (n := 36) C dX7_limits_35 rfl rfl ?_
        refine aw_getI (z := 7) (n := 39) C dX7_limits_36 rfl fl_X7_117 rfl rfl rfl ?_
        refine aw_imul (n := 40) C dX7_limits_39 rfl ?_
        refine aw_aldn (n := 41) C dX7_limits_40 rfl rfl ?_
        refine aw_getI (z := 8) (n := 44) C dX7_limits_41 rfl fl_X7_120 rfl rfl rfl ?_
        refine aw_iadd (n := 45) C dX7_limits_44 rfl ?_
        refine aw_istn (n := 46) (L' := [_, _, _, _]) C dX7_limits_45 rfl (by decide) rfl rfl ?_
        refine aw_aldn (n := 47) C dX7_limits_46 rfl rfl ?_
        refine aw_ildn (n := 48) C dX7_limits_47 rfl rfl ?_
        refine aw_put (z := 7) (n := 51) C dX7_limits_48 rfl fp_X7_117 rfl rfl rfl (Or.inl rfl) ?_
        refine aw_aldn (n := 52) C dX7_limits_51 rfl rfl ?_
        refine aw_ildn (n := 53) C dX7_limits_52 rfl rfl ?_
        refine aw_put (z := 8) (n := 56) C dX7_limits_53 rfl fp_X7_120 rfl rfl rfl (Or.inl rfl) ?_
        refine aw_ildn (n := 57) C dX7_limits_56 rfl rfl ?_
        refine hret 57 _ _ _ dX7_limits_57 (Or.inl rfl) ?_
        first | (exfalso; omega; done) | exact ⟨by omega, by first | rw [if_pos (by omega)] | rw [if_neg (by omega)]⟩
      · refine aw_bipush (n := 32) C dX7_limits_30 rfl rfl ?_
        refine hret 32 _ _ _ dX7_limits_32 (Or.inl rfl) ?_
        first | (exfalso; omega; done) | exact ⟨by omega, by first | rw [if_pos (by omega)] | rw [if_neg (by omega)]⟩
  · refine aw_bipush (n := 9) C dX7_limits_7 rfl rfl ?_
    refine hret 9 _ _ _ dX7_limits_9 (Or.inl rfl) ?_
    first | (exfalso; omega; done) | exact ⟨by omega, by first | rw [if_pos (by omega)] | rw [if_neg (by omega)]⟩
theorem m_dig {S : Mem} {m b : Int} (hm : rng m) (hb : b = 0 ∨ b = 1) (W : MW S) : AMi 1 yX7_dig cX7_dig 4 (some .int) [.inr (.inr 66), .inl m, .inl b] S (fun z S' => z = (if S 66 5 = 0 then -3 else if m < 0 ∨ S 66 5 ≤ m then -2 else if S 71 m = b then 0 else 1) ∧ S' = (if S 66 5 = 0 ∨ m < 0 ∨ S 66 5 ≤ m then S else st2 S 71 m b)) := by
  obtain ⟨t1, t2, t3, t4, t5, t6⟩ := id W
  refine ami_intro (L := [_, _, _, none]) (by decide) (Or.inl rfl) rfl (Nat.le_of_ble_eq_true rfl) (fun X C hret => ?_)
  refine aw_aldn (n := 1) C dX7_dig_0 rfl rfl ?_
  refine aw_getI (z := 5) (n := 4) C dX7_dig_1 rfl fl_X7_84 rfl rfl rfl ?_
  refine aw_ifne (tgt := 10) (n := 7) C dX7_dig_4 rfl rfl (by omega) (fun h_4 => ?_) (fun h_4 => ?_)
  · refine aw_aldn (n := 11) C dX7_dig_10 rfl rfl ?_
    refine aw_ildn (n := 12) C dX7_dig_11 rfl rfl ?_
    refine aw_cVi (n := 15) (vs := [_]) C dX7_dig_12 rfl rfl rfl mm_X7_isMile wM_X7_140 rfl rfl (Nat.le_of_ble_eq_true rfl) (d_isMile hm (by omega)) (by decide) (fun z_12 S_12 q_12 => ?_)
    rw [q_12.1, q_12.2]
    clear q_12 S_12 z_12
    refine aw_ifne (tgt := 21) (n := 18) C dX7_dig_15 rfl rfl (by omega) (fun h_15 => ?_) (fun h_15 => ?_)
    · refine aw_aldn (n := 22) C dX7_dig_21 rfl rfl ?_
      refine aw_getR (n := 25) C dX7_dig_22 rfl fl_X7_22 rfl rfl ?_
      refine aw_ildn (n := 26) C dX7_dig_25 rfl rfl ?_
      refine aw_zald (n := 27) C dX7_dig_26 rfl rfl (by omega) (by omega) ?_
      have htm := (t5 m (by omega) (by omega)).1
      refine aw_istn (n := 28) (L' := [_, _, _, _]) C dX7_dig_27 rfl (by decide) rfl rfl ?_
      refine aw_aldn (n := 29) C dX7_dig_28 rfl rfl ?_
      refine aw_getR (n := 32) C dX7_dig_29 rfl fl_X7_22 rfl rfl ?_
      refine aw_ildn (n := 33) C dX7_dig_32 rfl rfl ?_
      refine aw_ildn (n := 34) C dX7_dig_33 rfl rfl ?_
      refine aw_zast (n := 35) C dX7_dig_34 rfl rfl (by omega) (by omega) (by omega) ?_
      refine aw_ildn (n := 36) C dX7_dig_35 rfl rfl ?_
      refine aw_ildn (n := 37) C dX7_dig_36 rfl rfl ?_
      refine aw_icne (tgt := 44) (n := 40) C dX7_dig_37 rfl rfl (by omega) (by omega) (fun h_37 => ?_) (fun h_37 => ?_)
      · refine aw_iconst (n := 45) C dX7_dig_44 rfl ?_
        refine hret 45 _ _ _ dX7_dig_45 (Or.inl rfl) ?_
        first | (exfalso; omega; done) | exact ⟨by omega, by first | rw [if_pos (by omega)] | rw [if_neg (by omega)]⟩
      · refine aw_iconst (n := 41) C dX7_dig_40 rfl ?_
        refine aw_goto (tgt := 45) C dX7_dig_41 rfl ?_
        refine hret 45 _ _ _ dX7_dig_45 (Or.inl rfl) ?_
        first | (exfalso; omega; done) | exact ⟨by omega, by first | rw [if_pos (by omega)] | rw [if_neg (by omega)]⟩
    · refine aw_bipush (n := 20) C dX7_dig_18 rfl rfl ?_
      refine hret 20 _ _ _ dX7_dig_20 (Or.inl rfl) ?_
      first | (exfalso; omega; done) | exact ⟨by omega, by first | rw [if_pos (by omega)] | rw [if_neg (by omega)]⟩
  · refine aw_bipush (n := 9) C dX7_dig_7 rfl rfl ?_
    refine hret 9 _ _ _ dX7_dig_9 (Or.inl rfl) ?_
    first | (exfalso; omega; done) | exact ⟨by omega, by first | rw [if_pos (by omega)] | rw [if_neg (by omega)]⟩
theorem m_talk {S : Mem} {m a b : Int} (hm : rng m) (ha : rng a) (hb : rng b) (W : MW S) : AMi 1 yX7_talk cX7_talk 6 (some .int) [.inr (.inr 66), .inl m, .inl a, .inl b] S (fun z S' => z = (if S 66 5 = 0 then -3 else if m < 0 ∨ S 66 5 ≤ m then -2 else if ¬ (a = -9 ∧ b = -9) ∧ (a < 0 ∨ S 66 6 ≤ a ∨ b < 0 ∨ S 66 6 ≤ b ∨ a = b) then -1 else if S 72 m = -9 then -9 else 10 * S 72 m + S 73 m) ∧ S' = (if S 66 5 = 0 ∨ m < 0 ∨ S 66 5 ≤ m ∨ (¬ (a = -9 ∧ b = -9) ∧ (a < 0 ∨ S 66 6 ≤ a ∨ b < 0 ∨ S 66 6 ≤ b ∨ a = b)) then S else st2 (st2 S 72 m a) 73 m b)) := by
  obtain ⟨t1, t2, t3, t4, t5, t6⟩ := id W
  refine ami_intro (L := [_, _, _, _, none, none]) (by decide) (Or.inl rfl) rfl (Nat.le_of_ble_eq_true rfl) (fun X C hret => ?_)
  refine aw_aldn (n := 1) C dX7_talk_0 rfl rfl ?_
  refine aw_getI (z := 5) (n := 4) C dX7_talk_1 rfl fl_X7_84 rfl rfl rfl ?_
  refine aw_ifne (tgt := 10) (n := 7) C dX7_talk_4 rfl rfl (by omega) (fun h_4 => ?_) (fun h_4 => ?_)
  · refine aw_aldn (n := 11) C dX7_talk_10 rfl rfl ?_
    refine aw_ildn (n := 12) C dX7_talk_11 rfl rfl ?_
    refine aw_cVi (n := 15) (vs := [_]) C dX7_talk_12 rfl rfl rfl mm_X7_isMile wM_X7_140 rfl rfl (Nat.le_of_ble_eq_true rfl) (d_isMile hm (by omega)) (by decide) (fun z_12 S_12 q_12 => ?_)
    rw [q_12.1, q_12.2]
    clear q_12 S_12 z_12
    refine aw_ifne (tgt := 21) (n := 18) C dX7_talk_15 rfl rfl (by omega) (fun h_15 => ?_) (fun h_15 => ?_)
    · refine aw_ildn (n := 22) C dX7_talk_21 rfl rfl ?_
      refine aw_bipush (n := 24) C dX7_talk_22 rfl rfl ?_
      refine aw_icne (tgt := 37) (n := 27) C dX7_talk_24 rfl rfl (by omega) (by omega) (fun h_24 => ?_) (fun h_24 => ?_)
      · refine aw_iconst (n := 38) C dX7_talk_37 rfl ?_
        refine aw_istw (n := 40) (L' := [_, _, _, _, _, _]) C dX7_talk_38 rfl (by decide) rfl rfl ?_
        refine aw_ildw (n := 42) C dX7_talk_40 rfl rfl ?_
        refine aw_ifne (tgt := 68) (n := 45) C dX7_talk_42 rfl rfl (by omega) (fun h_42 => ?_) (fun h_42 => ?_)
        · refine aw_aldn (n := 69) C dX7_talk_68 rfl rfl ?_
          refine aw_getR (n := 72) C dX7_talk_69 rfl fl_X7_26 rfl rfl ?_
          refine aw_ildn (n := 73) C dX7_talk_72 rfl rfl ?_
          refine aw_iald (n := 74) C dX7_talk_73 rfl rfl (by omega) (by omega) ?_
          refine aw_bipush (n := 76) C dX7_talk_74 rfl rfl ?_
          have htm := (t5 m (by omega) (by omega)).2
          unfold tok at htm
          refine aw_icne (tgt := 84) (n := 79) C dX7_talk_76 rfl rfl (by omega) (by omega) (fun h_76 => ?_) (fun h_76 => ?_)
          · refine aw_bipush (n := 86) C dX7_talk_84 rfl rfl ?_
            refine aw_aldn (n := 87) C dX7_talk_86 rfl rfl ?_
            refine aw_getR (n := 90) C dX7_talk_87 rfl fl_X7_26 rfl rfl ?_
            refine aw_ildn (n := 91) C dX7_talk_90 rfl rfl ?_
            refine aw_iald (n := 92) C dX7_talk_91 rfl rfl (by omega) (by omega) ?_
            refine aw_imul (n := 93) C dX7_talk_92 rfl ?_
            refine aw_aldn (n := 94) C dX7_talk_93 rfl rfl ?_
            refine aw_getR (n := 97) C dX7_talk_94 rfl fl_X7_29 rfl rfl ?_
            refine aw_ildn (n := 98) C dX7_talk_97 rfl rfl ?_
            refine aw_iald (n := 99) C dX7_talk_98 rfl rfl (by omega) (by omega) ?_
            refine aw_iadd (n := 100) C dX7_talk_99 rfl ?_
            refine aw_istw (n := 102) (L' := [_, _, _, _, _, _]) C dX7_talk_100 rfl (by decide) rfl rfl ?_
            refine aw_aldn (n := 103) C dX7_talk_102 rfl rfl ?_
            refine aw_getR (n := 106) C dX7_talk_103 rfl fl_X7_26 rfl rfl ?_
            refine aw_ildn (n := 107) C dX7_talk_106 rfl rfl ?_
            refine aw_ildn (n := 108) C dX7_talk_107 rfl rfl ?_
            refine aw_iast (n := 109) C dX7_talk_108 rfl rfl (by omega) (by omega) ?_
            refine aw_aldn (n := 110) C dX7_talk_109 rfl rfl ?_
            refine aw_getR (n := 113) C dX7_talk_110 rfl fl_X7_29 rfl rfl ?_
            refine aw_ildn (n := 114) C dX7_talk_113 rfl rfl ?_
            refine aw_ildn (n := 115) C dX7_talk_114 rfl rfl ?_
            refine aw_iast (n := 116) C dX7_talk_115 rfl rfl (by omega) (by omega) ?_
            refine aw_ildw (n := 118) C dX7_talk_116 rfl rfl ?_
            refine hret 118 _ _ _ dX7_talk_118 (Or.inl rfl) ?_
            first | (exfalso; omega; done) | exact ⟨by omega, by first | rw [if_pos (by omega)] | rw [if_neg (by omega)]⟩
          · refine aw_bipush (n := 81) C dX7_talk_79 rfl rfl ?_
            refine aw_goto (tgt := 100) C dX7_talk_81 rfl ?_
            refine aw_istw (n := 102) (L' := [_, _, _, _, _, _]) C dX7_talk_100 rfl (by decide) rfl rfl ?_
            refine aw_aldn (n := 103) C dX7_talk_102 rfl rfl ?_
            refine aw_getR (n := 106) C dX7_talk_103 rfl fl_X7_26 rfl rfl ?_
            refine aw_ildn (n := 107) C dX7_talk_106 rfl rfl ?_
            refine aw_ildn (n := 108) C dX7_talk_107 rfl rfl ?_
            refine aw_iast (n := 109) C dX7_talk_108 rfl rfl (by omega) (by omega) ?_
            refine aw_aldn (n := 110) C dX7_talk_109 rfl rfl ?_
            refine aw_getR (n := 113) C dX7_talk_110 rfl fl_X7_29 rfl rfl ?_
            refine aw_ildn (n := 114) C dX7_talk_113 rfl rfl ?_
            refine aw_ildn (n := 115) C dX7_talk_114 rfl rfl ?_
            refine aw_iast (n := 116) C dX7_talk_115 rfl rfl (by omega) (by omega) ?_
            refine aw_ildw (n := 118) C dX7_talk_116 rfl rfl ?_
            refine hret 118 _ _ _ dX7_talk_118 (Or.inl rfl) ?_
            first | (exfalso; omega; done) | exact ⟨by omega, by first | rw [if_pos (by omega)] | rw [if_neg (by omega)]⟩
        · refine aw_aldn (n := 46) C dX7_talk_45 rfl rfl ?_
          refine aw_ildn (n := 47) C dX7_talk_46 rfl rfl ?_
          refine aw_cVi (n := 50) (vs := [_]) C dX7_talk_47 rfl rfl rfl mm_X7_isPassenger wM_X7_137 rfl rfl (Nat.le_of_ble_eq_true rfl) (d_isPassenger ha (by omega)) (by decide) (fun z_47 S_47 q_47 => ?_)
          rw [q_47.1, q_47.2]
          clear q_47 S_47 z_47
          refine aw_ifeq (tgt := 66) (n := 53) C dX7_talk_50 rfl rfl (by omega) (fun h_50 => ?_) (fun h_50 => ?_)
          · refine aw_iconst (n := 67) C dX7_talk_66 rfl ?_
            refine hret 67 _ _ _ dX7_talk_67 (Or.inl rfl) ?_
            first | (exfalso; omega; done) | exact ⟨by omega, by first | rw [if_pos (by omega)] | rw [if_neg (by omega)]⟩
          · refine aw_aldn (n := 54) C dX7_talk_53 rfl rfl ?_
            refine aw_ildn (n := 55) C dX7_talk_54 rfl rfl ?_
            refine aw_cVi (n := 58) (vs := [_]) C dX7_talk_55 rfl rfl rfl mm_X7_isPassenger wM_X7_137 rfl rfl (Nat.le_of_ble_eq_true rfl) (d_isPassenger hb (by omega)) (by decide) (fun z_55 S_55 q_55 => ?_)
            rw [q_55.1, q_55.2]
            clear q_55 S_55 z_55
            refine aw_ifeq (tgt := 66) (n := 61) C dX7_talk_58 rfl rfl (by omega) (fun h_58 => ?_) (fun h_58 => ?_)
            · refine aw_iconst (n := 67) C dX7_talk_66 rfl ?_
              refine hret 67 _ _ _ dX7_talk_67 (Or.inl rfl) ?_
              first | (exfalso; omega; done) | exact ⟨by omega, by first | rw [if_pos (by omega)] | rw [if_neg (by omega)]⟩
            · refine aw_ildn (n := 62) C dX7_talk_61 rfl rfl ?_
              refine aw_ildn (n := 63) C dX7_talk_62 rfl rfl ?_
              refine aw_icne (tgt := 68) (n := 66) C dX7_talk_63 rfl rfl (by omega) (by omega) (fun h_63 => ?_) (fun h_63 => ?_)
              · refine aw_aldn (n := 69) C dX7_talk_68 rfl rfl ?_
                refine aw_getR (n := 72) C dX7_talk_69 rfl fl_X7_26 rfl rfl ?_
                refine aw_ildn (n := 73) C dX7_talk_72 rfl rfl ?_
                refine aw_iald (n := 74) C dX7_talk_73 rfl rfl (by omega) (by omega) ?_
                refine aw_bipush (n := 76) C dX7_talk_74 rfl rfl ?_
                have htm := (t5 m (by omega) (by omega)).2
                unfold tok at htm
                refine aw_icne (tgt := 84) (n := 79) C dX7_talk_76 rfl rfl (by omega) (by omega) (fun h_76 => ?_) (fun h_76 => ?_)
                · refine aw_bipush (n := 86) C dX7_talk_84 rfl rfl ?_
                  refine aw_aldn (n := 87) C dX7_talk_86 rfl rfl ?_
                  refine aw_getR (n := 90) C dX7_talk_87 rfl fl_X7_26 rfl rfl ?_
                  refine aw_ildn (n := 91) C dX7_talk_90 rfl rfl ?_
                  refine aw_iald (n := 92) C dX7_talk_91 rfl rfl (by omega) (by omega) ?_
                  refine aw_imul (n := 93) C dX7_talk_92 rfl ?_
                  refine aw_aldn (n := 94) C dX7_talk_93 rfl rfl ?_
                  refine aw_getR (n := 97) C dX7_talk_94 rfl fl_X7_29 rfl rfl ?_
                  refine aw_ildn (n := 98) C dX7_talk_97 rfl rfl ?_
                  refine aw_iald (n := 99) C dX7_talk_98 rfl rfl (by omega) (by omega) ?_
                  refine aw_iadd (n := 100) C dX7_talk_99 rfl ?_
                  refine aw_istw (n := 102) (L' := [_, _, _, _, _, _]) C dX7_talk_100 rfl (by decide) rfl rfl ?_
                  refine aw_aldn (n := 103) C dX7_talk_102 rfl rfl ?_
                  refine aw_getR (n := 106) C dX7_talk_103 rfl fl_X7_26 rfl rfl ?_
                  refine aw_ildn (n := 107) C dX7_talk_106 rfl rfl ?_
                  refine aw_ildn (n := 108) C dX7_talk_107 rfl rfl ?_
                  refine aw_iast (n := 109) C dX7_talk_108 rfl rfl (by omega) (by omega) ?_
                  refine aw_aldn (n := 110) C dX7_talk_109 rfl rfl ?_
                  refine aw_getR (n := 113) C dX7_talk_110 rfl fl_X7_29 rfl rfl ?_
                  refine aw_ildn (n := 114) C dX7_talk_113 rfl rfl ?_
                  refine aw_ildn (n := 115) C dX7_talk_114 rfl rfl ?_
                  refine aw_iast (n := 116) C dX7_talk_115 rfl rfl (by omega) (by omega) ?_
                  refine aw_ildw (n := 118) C dX7_talk_116 rfl rfl ?_
                  refine hret 118 _ _ _ dX7_talk_118 (Or.inl rfl) ?_
                  first | (exfalso; omega; done) | exact ⟨by omega, by first | rw [if_pos (by omega)] | rw [if_neg (by omega)]⟩
                · refine aw_bipush (n := 81) C dX7_talk_79 rfl rfl ?_
                  refine aw_goto (tgt := 100) C dX7_talk_81 rfl ?_
                  refine aw_istw (n := 102) (L' := [_, _, _, _, _, _]) C dX7_talk_100 rfl (by decide) rfl rfl ?_
                  refine aw_aldn (n := 103) C dX7_talk_102 rfl rfl ?_
                  refine aw_getR (n := 106) C dX7_talk_103 rfl fl_X7_26 rfl rfl ?_
                  refine aw_ildn (n := 107) C dX7_talk_106 rfl rfl ?_
                  refine aw_ildn (n := 108) C dX7_talk_107 rfl rfl ?_
                  refine aw_iast (n := 109) C dX7_talk_108 rfl rfl (by omega) (by omega) ?_
                  refine aw_aldn (n := 110) C dX7_talk_109 rfl rfl ?_
                  refine aw_getR (n := 113) C dX7_talk_110 rfl fl_X7_29 rfl rfl ?_
                  refine aw_ildn (n := 114) C dX7_talk_113 rfl rfl ?_
                  refine aw_ildn (n := 115) C dX7_talk_114 rfl rfl ?_
                  refine aw_iast (n := 116) C dX7_talk_115 rfl rfl (by omega) (by omega) ?_
                  refine aw_ildw (n := 118) C dX7_talk_116 rfl rfl ?_
                  refine hret 118 _ _ _ dX7_talk_118 (Or.inl rfl) ?_
                  first | (exfalso; omega; done) | exact ⟨by omega, by first | rw [if_pos (by omega)] | rw [if_neg (by omega)]⟩
              · refine aw_iconst (n := 67) C dX7_talk_66 rfl ?_
                refine hret 67 _ _ _ dX7_talk_67 (Or.inl rfl) ?_
                first | (exfalso; omega; done) | exact ⟨by omega, by first | rw [if_pos (by omega)] | rw [if_neg (by omega)]⟩
      · refine aw_ildn (n := 28) C dX7_talk_27 rfl rfl ?_
        refine aw_bipush (n := 30) C dX7_talk_28 rfl rfl ?_
        refine aw_icne (tgt := 37) (n := 33) C dX7_talk_30 rfl rfl (by omega) (by omega) (fun h_30 => ?_) (fun h_30 => ?_)
        · refine aw_iconst (n := 38) C dX7_talk_37 rfl ?_
          refine aw_istw (n := 40) (L' := [_, _, _, _, _, _]) C dX7_talk_38 rfl (by decide) rfl rfl ?_
          refine aw_ildw (n := 42) C dX7_talk_40 rfl rfl ?_
          refine aw_ifne (tgt := 68) (n := 45) C dX7_talk_42 rfl rfl (by omega) (fun h_42 => ?_) (fun h_42 => ?_)
          · refine aw_aldn (n := 69) C dX7_talk_68 rfl rfl ?_
            refine aw_getR (n := 72) C dX7_talk_69 rfl fl_X7_26 rfl rfl ?_
            refine aw_ildn (n := 73) C dX7_talk_72 rfl rfl ?_
            refine aw_iald (n := 74) C dX7_talk_73 rfl rfl (by omega) (by omega) ?_
            refine aw_bipush (n := 76) C dX7_talk_74 rfl rfl ?_
            have htm := (t5 m (by omega) (by omega)).2
            unfold tok at htm
            refine aw_icne (tgt := 84) (n := 79) C dX7_talk_76 rfl rfl (by omega) (by omega) (fun h_76 => ?_) (fun h_76 => ?_)
            · refine aw_bipush (n := 86) C dX7_talk_84 rfl rfl ?_
              refine aw_aldn (n := 87) C dX7_talk_86 rfl rfl ?_
              refine aw_getR (n := 90) C dX7_talk_87 rfl fl_X7_26 rfl rfl ?_
              refine aw_ildn (n := 91) C dX7_talk_90 rfl rfl ?_
              refine aw_iald (n := 92) C dX7_talk_91 rfl rfl (by omega) (by omega) ?_
              refine aw_imul (n := 93) C dX7_talk_92 rfl ?_
              refine aw_aldn (n := 94) C dX7_talk_93 rfl rfl ?_
              refine aw_getR (n := 97) C dX7_talk_94 rfl fl_X7_29 rfl rfl ?_
              refine aw_ildn (n := 98) C dX7_talk_97 rfl rfl ?_
              refine aw_iald (n := 99) C dX7_talk_98 rfl rfl (by omega) (by omega) ?_
              refine aw_iadd (n := 100) C dX7_talk_99 rfl ?_
              refine aw_istw (n := 102) (L' := [_, _, _, _, _, _]) C dX7_talk_100 rfl (by decide) rfl rfl ?_
              refine aw_aldn (n := 103) C dX7_talk_102 rfl rfl ?_
              refine aw_getR (n := 106) C dX7_talk_103 rfl fl_X7_26 rfl rfl ?_
              refine aw_ildn (n := 107) C dX7_talk_106 rfl rfl ?_
              refine aw_ildn (n := 108) C dX7_talk_107 rfl rfl ?_
              refine aw_iast (n := 109) C dX7_talk_108 rfl rfl (by omega) (by omega) ?_
              refine aw_aldn (n := 110) C dX7_talk_109 rfl rfl ?_
              refine aw_getR (n := 113) C dX7_talk_110 rfl fl_X7_29 rfl rfl ?_
              refine aw_ildn (n := 114) C dX7_talk_113 rfl rfl ?_
              refine aw_ildn (n := 115) C dX7_talk_114 rfl rfl ?_
              refine aw_iast (n := 116) C dX7_talk_115 rfl rfl (by omega) (by omega) ?_
              refine aw_ildw (n := 118) C dX7_talk_116 rfl rfl ?_
              refine hret 118 _ _ _ dX7_talk_118 (Or.inl rfl) ?_
              first | (exfalso; omega; done) | exact ⟨by omega, by first | rw [if_pos (by omega)] | rw [if_neg (by omega)]⟩
            · refine aw_bipush (n := 81) C dX7_talk_79 rfl rfl ?_
              refine aw_goto (tgt := 100) C dX7_talk_81 rfl ?_
              refine aw_istw (n := 102) (L' := [_, _, _, _, _, _]) C dX7_talk_100 rfl (by decide) rfl rfl ?_
              refine aw_aldn (n := 103) C dX7_talk_102 rfl rfl ?_
              refine aw_getR (n := 106) C dX7_talk_103 rfl fl_X7_26 rfl rfl ?_
              refine aw_ildn (n := 107) C dX7_talk_106 rfl rfl ?_
              refine aw_ildn (n := 108) C dX7_talk_107 rfl rfl ?_
              refine aw_iast (n := 109) C dX7_talk_108 rfl rfl (by omega) (by omega) ?_
              refine aw_aldn (n := 110) C dX7_talk_109 rfl rfl ?_
              refine aw_getR (n := 113) C dX7_talk_110 rfl fl_X7_29 rfl rfl ?_
              refine aw_ildn (n := 114) C dX7_talk_113 rfl rfl ?_
              refine aw_ildn (n := 115) C dX7_talk_114 rfl rfl ?_
              refine aw_iast (n := 116) C dX7_talk_115 rfl rfl (by omega) (by omega) ?_
              refine aw_ildw (n := 118) C dX7_talk_116 rfl rfl ?_
              refine hret 118 _ _ _ dX7_talk_118 (Or.inl rfl) ?_
              first | (exfalso; omega; done) | exact ⟨by omega, by first | rw [if_pos (by omega)] | rw [if_neg (by omega)]⟩
          · refine aw_aldn (n := 46) C dX7_talk_45 rfl rfl ?_
            refine aw_ildn (n := 47) C dX7_talk_46 rfl rfl ?_
            refine aw_cVi (n := 50) (vs := [_]) C dX7_talk_47 rfl rfl rfl mm_X7_isPassenger wM_X7_137 rfl rfl (Nat.le_of_ble_eq_true rfl) (d_isPassenger ha (by omega)) (by decide) (fun z_47 S_47 q_47 => ?_)
            rw [q_47.1, q_47.2]
            clear q_47 S_47 z_47
            refine aw_ifeq (tgt := 66) (n := 53) C dX7_talk_50 rfl rfl (by omega) (fun h_50 => ?_) (fun h_50 => ?_)
            · refine aw_iconst (n := 67) C dX7_talk_66 rfl ?_
              refine hret 67 _ _ _ dX7_talk_67 (Or.inl rfl) ?_
              first | (exfalso; omega; done) | exact ⟨by omega, by first | rw [if_pos (by omega)] | rw [if_neg (by omega)]⟩
            · refine aw_aldn (n := 54) C dX7_talk_53 rfl rfl ?_
              refine aw_ildn (n := 55) C dX7_talk_54 rfl rfl ?_
              refine aw_cVi (n := 58) (vs := [_]) C dX7_talk_55 rfl rfl rfl mm_X7_isPassenger wM_X7_137 rfl rfl (Nat.le_of_ble_eq_true rfl) (d_isPassenger hb (by omega)) (by decide) (fun z_55 S_55 q_55 => ?_)
              rw [q_55.1, q_55.2]
              clear q_55 S_55 z_55
              refine aw_ifeq (tgt := 66) (n := 61) C dX7_talk_58 rfl rfl (by omega) (fun h_58 => ?_) (fun h_58 => ?_)
              · refine aw_iconst (n := 67) C dX7_talk_66 rfl ?_
                refine hret 67 _ _ _ dX7_talk_67 (Or.inl rfl) ?_
                first | (exfalso; omega; done) | exact ⟨by omega, by first | rw [if_pos (by omega)] | rw [if_neg (by omega)]⟩
              · refine aw_ildn (n := 62) C dX7_talk_61 rfl rfl ?_
                refine aw_ildn (n := 63) C dX7_talk_62 rfl rfl ?_
                refine aw_icne (tgt := 68) (n := 66) C dX7_talk_63 rfl rfl (by omega) (by omega) (fun h_63 => ?_) (fun h_63 => ?_)
                · refine aw_aldn (n := 69) C dX7_talk_68 rfl rfl ?_
                  refine aw_getR (n := 72) C dX7_talk_69 rfl fl_X7_26 rfl rfl ?_
                  refine aw_ildn (n := 73) C dX7_talk_72 rfl rfl ?_
                  refine aw_iald (n := 74) C dX7_talk_73 rfl rfl (by omega) (by omega) ?_
                  refine aw_bipush (n := 76) C dX7_talk_74 rfl rfl ?_
                  have htm := (t5 m (by omega) (by omega)).2
                  unfold tok at htm
                  refine aw_icne (tgt := 84) (n := 79) C dX7_talk_76 rfl rfl (by omega) (by omega) (fun h_76 => ?_) (fun h_76 => ?_)
                  · refine aw_bipush (n := 86) C dX7_talk_84 rfl rfl ?_
                    refine aw_aldn (n := 87) C dX7_talk_86 rfl rfl ?_
                    refine aw_getR (n := 90) C dX7_talk_87 rfl fl_X7_26 rfl rfl ?_
                    refine aw_ildn (n := 91) C dX7_talk_90 rfl rfl ?_
                    refine aw_iald (n := 92) C dX7_talk_91 rfl rfl (by omega) (by omega) ?_
                    refine aw_imul (n := 93) C dX7_talk_92 rfl ?_
                    refine aw_aldn (n := 94) C dX7_talk_93 rfl rfl ?_
                    refine aw_getR (n := 97) C dX7_talk_94 rfl fl_X7_29 rfl rfl ?_
                    refine aw_ildn (n := 98) C dX7_talk_97 rfl rfl ?_
                    refine aw_iald (n := 99) C dX7_talk_98 rfl rfl (by omega) (by omega) ?_
                    refine aw_iadd (n := 100) C dX7_talk_99 rfl ?_
                    refine aw_istw (n := 102) (L' := [_, _, _, _, _, _]) C dX7_talk_100 rfl (by decide) rfl rfl ?_
                    refine aw_aldn (n := 103) C dX7_talk_102 rfl rfl ?_
                    refine aw_getR (n := 106) C dX7_talk_103 rfl fl_X7_26 rfl rfl ?_
                    refine aw_ildn (n := 107) C dX7_talk_106 rfl rfl ?_
                    refine aw_ildn (n := 108) C dX7_talk_107 rfl rfl ?_
                    refine aw_iast (n := 109) C dX7_talk_108 rfl rfl (by omega) (by omega) ?_
                    refine aw_aldn (n := 110) C dX7_talk_109 rfl rfl ?_
                    refine aw_getR (n := 113) C dX7_talk_110 rfl fl_X7_29 rfl rfl ?_
                    refine aw_ildn (n := 114) C dX7_talk_113 rfl rfl ?_
                    refine aw_ildn (n := 115) C dX7_talk_114 rfl rfl ?_
                    refine aw_iast (n := 116) C dX7_talk_115 rfl rfl (by omega) (by omega) ?_
                    refine aw_ildw (n := 118) C dX7_talk_116 rfl rfl ?_
                    refine hret 118 _ _ _ dX7_talk_118 (Or.inl rfl) ?_
                    first | (exfalso; omega; done) | exact ⟨by omega, by first | rw [if_pos (by omega)] | rw [if_neg (by omega)]⟩
                  · refine aw_bipush (n := 81) C dX7_talk_79 rfl rfl ?_
                    refine aw_goto (tgt := 100) C dX7_talk_81 rfl ?_
                    refine aw_istw (n := 102) (L' := [_, _, _, _, _, _]) C dX7_talk_100 rfl (by decide) rfl rfl ?_
                    refine aw_aldn (n := 103) C dX7_talk_102 rfl rfl ?_
                    refine aw_getR (n := 106) C dX7_talk_103 rfl fl_X7_26 rfl rfl ?_
                    refine aw_ildn (n := 107) C dX7_talk_106 rfl rfl ?_
                    refine aw_ildn (n := 108) C dX7_talk_107 rfl rfl ?_
                    refine aw_iast (n := 109) C dX7_talk_108 rfl rfl (by omega) (by omega) ?_
                    refine aw_aldn (n := 110) C dX7_talk_109 rfl rfl ?_
                    refine aw_getR (n := 113) C dX7_talk_110 rfl fl_X7_29 rfl rfl ?_
                    refine aw_ildn (n := 114) C dX7_talk_113 rfl rfl ?_
                    refine aw_ildn (n := 115) C dX7_talk_114 rfl rfl ?_
                    refine aw_iast (n := 116) C dX7_talk_115 rfl rfl (by omega) (by omega) ?_
                    refine aw_ildw (n := 118) C dX7_talk_116 rfl rfl ?_
                    refine hret 118 _ _ _ dX7_talk_118 (Or.inl rfl) ?_
                    first | (exfalso; omega; done) | exact ⟨by omega, by first | rw [if_pos (by omega)] | rw [if_neg (by omega)]⟩
                · refine aw_iconst (n := 67) C dX7_talk_66 rfl ?_
                  refine hret 67 _ _ _ dX7_talk_67 (Or.inl rfl) ?_
                  first | (exfalso; omega; done) | exact ⟨by omega, by first | rw [if_pos (by omega)] | rw [if_neg (by omega)]⟩
        · refine aw_iconst (n := 34) C dX7_talk_33 rfl ?_
          refine aw_goto (tgt := 38) C dX7_talk_34 rfl ?_
          refine aw_istw (n := 40) (L' := [_, _, _, _, _, _]) C dX7_talk_38 rfl (by decide) rfl rfl ?_
          refine aw_ildw (n := 42) C dX7_talk_40 rfl rfl ?_
          refine aw_ifne (tgt := 68) (n := 45) C dX7_talk_42 rfl rfl (by omega) (fun h_42 => ?_) (fun h_42 => ?_)
          · refine aw_aldn (n := 69) C dX7_talk_68 rfl rfl ?_
            refine aw_getR (n := 72) C dX7_talk_69 rfl fl_X7_26 rfl rfl ?_
            refine aw_ildn (n := 73) C dX7_talk_72 rfl rfl ?_
            refine aw_iald (n := 74) C dX7_talk_73 rfl rfl (by omega) (by omega) ?_
            refine aw_bipush (n := 76) C dX7_talk_74 rfl rfl ?_
            have htm := (t5 m (by omega) (by omega)).2
            unfold tok at htm
            refine aw_icne (tgt := 84) (n := 79) C dX7_talk_76 rfl rfl (by omega) (by omega) (fun h_76 => ?_) (fun h_76 => ?_)
            · refine aw_bipush (n := 86) C dX7_talk_84 rfl rfl ?_
              refine aw_aldn (n := 87) C dX7_talk_86 rfl rfl ?_
              refine aw_getR (n := 90) C dX7_talk_87 rfl fl_X7_26 rfl rfl ?_
              refine aw_ildn (n := 91) C dX7_talk_90 rfl rfl ?_
              refine aw_iald (n := 92) C dX7_talk_91 rfl rfl (by omega) (by omega) ?_
              refine aw_imul (n := 93) C dX7_talk_92 rfl ?_
              refine aw_aldn (n := 94) C dX7_talk_93 rfl rfl ?_
              refine aw_getR (n := 97) C dX7_talk_94 rfl fl_X7_29 rfl rfl ?_
              refine aw_ildn (n := 98) C dX7_talk_97 rfl rfl ?_
              refine aw_iald (n := 99) C dX7_talk_98 rfl rfl (by omega) (by omega) ?_
              refine aw_iadd (n := 100) C dX7_talk_99 rfl ?_
              refine aw_istw (n := 102) (L' := [_, _, _, _, _, _]) C dX7_talk_100 rfl (by decide) rfl rfl ?_
              refine aw_aldn (n := 103) C dX7_talk_102 rfl rfl ?_
              refine aw_getR (n := 106) C dX7_talk_103 rfl fl_X7_26 rfl rfl ?_
              refine aw_ildn (n := 107) C dX7_talk_106 rfl rfl ?_
              refine aw_ildn (n := 108) C dX7_talk_107 rfl rfl ?_
              refine aw_iast (n := 109) C dX7_talk_108 rfl rfl (by omega) (by omega) ?_
              refine aw_aldn (n := 110) C dX7_talk_109 rfl rfl ?_
              refine aw_getR (n := 113) C dX7_talk_110 rfl fl_X7_29 rfl rfl ?_
              refine aw_ildn (n := 114) C dX7_talk_113 rfl rfl ?_
              refine aw_ildn (n := 115) C dX7_talk_114 rfl rfl ?_
              refine aw_iast (n := 116) C dX7_talk_115 rfl rfl (by omega) (by omega) ?_
              refine aw_ildw (n := 118) C dX7_talk_116 rfl rfl ?_
              refine hret 118 _ _ _ dX7_talk_118 (Or.inl rfl) ?_
              first | (exfalso; omega; done) | exact ⟨by omega, by first | rw [if_pos (by omega)] | rw [if_neg (by omega)]⟩
            · refine aw_bipush (n := 81) C dX7_talk_79 rfl rfl ?_
              refine aw_goto (tgt := 100) C dX7_talk_81 rfl ?_
              refine aw_istw (n := 102) (L' := [_, _, _, _, _, _]) C dX7_talk_100 rfl (by decide) rfl rfl ?_
              refine aw_aldn (n := 103) C dX7_talk_102 rfl rfl ?_
              refine aw_getR (n := 106) C dX7_talk_103 rfl fl_X7_26 rfl rfl ?_
              refine aw_ildn (n := 107) C dX7_talk_106 rfl rfl ?_
              refine aw_ildn (n := 108) C dX7_talk_107 rfl rfl ?_
              refine aw_iast (n := 109) C dX7_talk_108 rfl rfl (by omega) (by omega) ?_
              refine aw_aldn (n := 110) C dX7_talk_109 rfl rfl ?_
              refine aw_getR (n := 113) C dX7_talk_110 rfl fl_X7_29 rfl rfl ?_
              refine aw_ildn (n := 114) C dX7_talk_113 rfl rfl ?_
              refine aw_ildn (n := 115) C dX7_talk_114 rfl rfl ?_
              refine aw_iast (n := 116) C dX7_talk_115 rfl rfl (by omega) (by omega) ?_
              refine aw_ildw (n := 118) C dX7_talk_116 rfl rfl ?_
              refine hret 118 _ _ _ dX7_talk_118 (Or.inl rfl) ?_
              first | (exfalso; omega; done) | exact ⟨by omega, by first | rw [if_pos (by omega)] | rw [if_neg (by omega)]⟩
          · refine aw_aldn (n := 46) C dX7_talk_45 rfl rfl ?_
            refine aw_ildn (n := 47) C dX7_talk_46 rfl rfl ?_
            refine aw_cVi (n := 50) (vs := [_]) C dX7_talk_47 rfl rfl rfl mm_X7_isPassenger wM_X7_137 rfl rfl (Nat.le_of_ble_eq_true rfl) (d_isPassenger ha (by omega)) (by decide) (fun z_47 S_47 q_47 => ?_)
            rw [q_47.1, q_47.2]
            clear q_47 S_47 z_47
            refine aw_ifeq (tgt := 66) (n := 53) C dX7_talk_50 rfl rfl (by omega) (fun h_50 => ?_) (fun h_50 => ?_)
            · refine aw_iconst (n := 67) C dX7_talk_66 rfl ?_
              refine hret 67 _ _ _ dX7_talk_67 (Or.inl rfl) ?_
              first | (exfalso; omega; done) | exact ⟨by omega, by first | rw [if_pos (by omega)] | rw [if_neg (by omega)]⟩
            · refine aw_aldn (n := 54) C dX7_talk_53 rfl rfl ?_
              refine aw_ildn (n := 55) C dX7_talk_54 rfl rfl ?_
              refine aw_cVi (n := 58) (vs := [_]) C dX7_talk_55 rfl rfl rfl mm_X7_isPassenger wM_X7_137 rfl rfl (Nat.le_of_ble_eq_true rfl) (d_isPassenger hb (by omega)) (by decide) (fun z_55 S_55 q_55 => ?_)
              rw [q_55.1, q_55.2]
              clear q_55 S_55 z_55
              refine aw_ifeq (tgt := 66) (n := 61) C dX7_talk_58 rfl rfl (by omega) (fun h_58 => ?_) (fun h_58 => ?_)
              · refine aw_iconst (n := 67) C dX7_talk_66 rfl ?_
                refine hret 67 _ _ _ dX7_talk_67 (Or.inl rfl) ?_
                first | (exfalso; omega; done) | exact ⟨by omega, by first | rw [if_pos (by omega)] | rw [if_neg (by omega)]⟩
              · refine aw_ildn (n := 62) C dX7_talk_61 rfl rfl ?_
                refine aw_ildn (n := 63) C dX7_talk_62 rfl rfl ?_
                refine aw_icne (tgt := 68) (n := 66) C dX7_talk_63 rfl rfl (by omega) (by omega) (fun h_63 => ?_) (fun h_63 => ?_)
                · refine aw_aldn (n := 69) C dX7_talk_68 rfl rfl ?_
                  refine aw_getR (n := 72) C dX7_talk_69 rfl fl_X7_26 rfl rfl ?_
                  refine aw_ildn (n := 73) C dX7_talk_72 rfl rfl ?_
                  refine aw_iald (n := 74) C dX7_talk_73 rfl rfl (by omega) (by omega) ?_
                  refine aw_bipush (n := 76) C dX7_talk_74 rfl rfl ?_
                  have htm := (t5 m (by omega) (by omega)).2
                  unfold tok at htm
                  refine aw_icne (tgt := 84) (n := 79) C dX7_talk_76 rfl rfl (by omega) (by omega) (fun h_76 => ?_) (fun h_76 => ?_)
                  · refine aw_bipush (n := 86) C dX7_talk_84 rfl rfl ?_
                    refine aw_aldn (n := 87) C dX7_talk_86 rfl rfl ?_
                    refine aw_getR (n := 90) C dX7_talk_87 rfl fl_X7_26 rfl rfl ?_
                    refine aw_ildn (n := 91) C dX7_talk_90 rfl rfl ?_
                    refine aw_iald (n := 92) C dX7_talk_91 rfl rfl (by omega) (by omega) ?_
                    refine aw_imul (n := 93) C dX7_talk_92 rfl ?_
                    refine aw_aldn (n := 94) C dX7_talk_93 rfl rfl ?_
                    refine aw_getR (n := 97) C dX7_talk_94 rfl fl_X7_29 rfl rfl ?_
                    refine aw_ildn (n := 98) C dX7_talk_97 rfl rfl ?_
                    refine aw_iald (n := 99) C dX7_talk_98 rfl rfl (by omega) (by omega) ?_
                    refine aw_iadd (n := 100) C dX7_talk_99 rfl ?_
                    refine aw_istw (n := 102) (L' := [_, _, _, _, _, _]) C dX7_talk_100 rfl (by decide) rfl rfl ?_
                    refine aw_aldn (n := 103) C dX7_talk_102 rfl rfl ?_
                    refine aw_getR (n := 106) C dX7_talk_103 rfl fl_X7_26 rfl rfl ?_
                    refine aw_ildn (n := 107) C dX7_talk_106 rfl rfl ?_
                    refine aw_ildn (n := 108) C dX7_talk_107 rfl rfl ?_
                    refine aw_iast (n := 109) C dX7_talk_108 rfl rfl (by omega) (by omega) ?_
                    refine aw_aldn (n := 110) C dX7_talk_109 rfl rfl ?_
                    refine aw_getR (n := 113) C dX7_talk_110 rfl fl_X7_29 rfl rfl ?_
                    refine aw_ildn (n := 114) C dX7_talk_113 rfl rfl ?_
                    refine aw_ildn (n := 115) C dX7_talk_114 rfl rfl ?_
                    refine aw_iast (n := 116) C dX7_talk_115 rfl rfl (by omega) (by omega) ?_
                    refine aw_ildw (n := 118) C dX7_talk_116 rfl rfl ?_
                    refine hret 118 _ _ _ dX7_talk_118 (Or.inl rfl) ?_
                    first | (exfalso; omega; done) | exact ⟨by omega, by first | rw [if_pos (by omega)] | rw [if_neg (by omega)]⟩
                  · refine aw_bipush (n := 81) C dX7_talk_79 rfl rfl ?_
                    refine aw_goto (tgt := 100) C dX7_talk_81 rfl ?_
                    refine aw_istw (n := 102) (L' := [_, _, _, _, _, _]) C dX7_talk_100 rfl (by decide) rfl rfl ?_
                    refine aw_aldn (n := 103) C dX7_talk_102 rfl rfl ?_
                    refine aw_getR (n := 106) C dX7_talk_103 rfl fl_X7_26 rfl rfl ?_
                    refine aw_ildn (n := 107) C dX7_talk_106 rfl rfl ?_
                    refine aw_ildn (n := 108) C dX7_talk_107 rfl rfl ?_
                    refine aw_iast (n := 109) C dX7_talk_108 rfl rfl (by omega) (by omega) ?_
                    refine aw_aldn (n := 110) C dX7_talk_109 rfl rfl ?_
                    refine aw_getR (n := 113) C dX7_talk_110 rfl fl_X7_29 rfl rfl ?_
                    refine aw_ildn (n := 114) C dX7_talk_113 rfl rfl ?_
                    refine aw_ildn (n := 115) C dX7_talk_114 rfl rfl ?_
                    refine aw_iast (n := 116) C dX7_talk_115 rfl rfl (by omega) (by omega) ?_
                    refine aw_ildw (n := 118) C dX7_talk_116 rfl rfl ?_
                    refine hret 118 _ _ _ dX7_talk_118 (Or.inl rfl) ?_
                    first | (exfalso; omega; done) | exact ⟨by omega, by first | rw [if_pos (by omega)] | rw [if_neg (by omega)]⟩
                · refine aw_iconst (n := 67) C dX7_talk_66 rfl ?_
                  refine hret 67 _ _ _ dX7_talk_67 (Or.inl rfl) ?_
                  first | (exfalso; omega; done) | exact ⟨by omega, by first | rw [if_pos (by omega)] | rw [if_neg (by omega)]⟩
    · refine aw_bipush (n := 20) C dX7_talk_18 rfl rfl ?_
      refine hret 20 _ _ _ dX7_talk_20 (Or.inl rfl) ?_
      first | (exfalso; omega; done) | exact ⟨by omega, by first | rw [if_pos (by omega)] | rw [if_neg (by omega)]⟩
  · refine aw_bipush (n := 9) C dX7_talk_7 rfl rfl ?_
    refine hret 9 _ _ _ dX7_talk_9 (Or.inl rfl) ?_
    first | (exfalso; omega; done) | exact ⟨by omega, by first | rw [if_pos (by omega)] | rw [if_neg (by omega)]⟩
theorem d_bounded {S : Mem} {v : Int} (hv : rng v) : AMi 0 yX7_bounded cX7_bounded 1 (some .int) [.inl v] S (fun z S' => z = bnd v ∧ S' = S) := by
  refine ami_intro (L := [_]) (by decide) (Or.inl rfl) rfl (Nat.le_of_ble_eq_true rfl) (fun X C hret => ?_)
  refine aw_ildn (n := 1) C dX7_bounded_0 rfl rfl ?_
  refine aw_ifge (tgt := 8) (n := 4) C dX7_bounded_1 rfl rfl (by omega) (fun h_1 => ?_) (fun h_1 => ?_)
  · refine aw_ildn (n := 9) C dX7_bounded_8 rfl rfl ?_
    refine aw_bipush (n := 11) C dX7_bounded_9 rfl rfl ?_
    refine aw_icle (tgt := 19) (n := 14) C dX7_bounded_11 rfl rfl (by omega) (by omega) (fun h_11 => ?_) (fun h_11 => ?_)
    · refine aw_ildn (n := 20) C dX7_bounded_19 rfl rfl ?_
      refine hret 20 _ _ _ dX7_bounded_20 (Or.inl rfl) ?_
      exact ⟨by unfold bnd; omega, rfl⟩
    · refine aw_bipush (n := 16) C dX7_bounded_14 rfl rfl ?_
      refine aw_goto (tgt := 20) C dX7_bounded_16 rfl ?_
      refine hret 20 _ _ _ dX7_bounded_20 (Or.inl rfl) ?_
      exact ⟨by unfold bnd; omega, rfl⟩
  · refine aw_iconst (n := 5) C dX7_bounded_4 rfl ?_
    refine aw_goto (tgt := 20) C dX7_bounded_5 rfl ?_
    refine hret 20 _ _ _ dX7_bounded_20 (Or.inl rfl) ?_
    exact ⟨by unfold bnd; omega, rfl⟩
theorem d_changes {S : Mem} {p t : Int} (p0 : 0 ≤ p) (p1 : p < 4) (ht : t = 0 ∨ t = 1) (hk : 0 ≤ S 74 p ∧ S 74 p ≤ 2) (hf : 0 ≤ S 76 p ∧ S 76 p ≤ 9) : AMi 0 yX7_changes cX7_changes 3 (some .int) [.inr (.inr 66), .inl p, .inl t] S (fun z S' => z = chg (S 74 p) (S 76 p) t ∧ S' = S) := by
  refine ami_intro (L := [_, _, _]) (by decide) (Or.inl rfl) rfl (Nat.le_of_ble_eq_true rfl) (fun X C hret => ?_)
  refine aw_ildn (n := 1) C dX7_changes_0 rfl rfl ?_
  refine aw_ifeq (tgt := 21) (n := 4) C dX7_changes_1 rfl rfl (by omega) (fun h_1 => ?_) (fun h_1 => ?_)
  · refine aw_aldn (n := 22) C dX7_changes_21 rfl rfl ?_
    refine aw_getR (n := 25) C dX7_changes_22 rfl fl_X7_32 rfl rfl ?_
    refine aw_ildn (n := 26) C dX7_changes_25 rfl rfl ?_
    refine aw_iald (n := 27) C dX7_changes_26 rfl rfl (by omega) (by omega) ?_
    refine aw_iconst (n := 28) C dX7_changes_27 rfl ?_
    refine aw_icne (tgt := 51) (n := 31) C dX7_changes_28 rfl rfl (by omega) (by omega) (fun h_28 => ?_) (fun h_28 => ?_)
    · refine aw_aldn (n := 52) C dX7_changes_51 rfl rfl ?_
      refine aw_getR (n := 55) C dX7_changes_52 rfl fl_X7_38 rfl rfl ?_
      refine aw_ildn (n := 56) C dX7_changes_55 rfl rfl ?_
      refine aw_iald (n := 57) C dX7_changes_56 rfl rfl (by omega) (by omega) ?_
      refine aw_ineg (n := 58) C dX7_changes_57 rfl ?_
      refine hret 58 _ _ _ dX7_changes_58 (Or.inl rfl) ?_
      exact ⟨by unfold chg; omega, rfl⟩
    · refine aw_aldn (n := 32) C dX7_changes_31 rfl rfl ?_
      refine aw_getR (n := 35) C dX7_changes_32 rfl fl_X7_38 rfl rfl ?_
      refine aw_ildn (n := 36) C dX7_changes_35 rfl rfl ?_
      refine aw_iald (n := 37) C dX7_changes_36 rfl rfl (by omega) (by omega) ?_
      refine aw_ifle (tgt := 51) (n := 40) C dX7_changes_37 rfl rfl (by omega) (fun h_37 => ?_) (fun h_37 => ?_)
      · refine aw_aldn (n := 52) C dX7_changes_51 rfl rfl ?_
        refine aw_getR (n := 55) C dX7_changes_52 rfl fl_X7_38 rfl rfl ?_
        refine aw_ildn (n := 56) C dX7_changes_55 rfl rfl ?_
        refine aw_iald (n := 57) C dX7_changes_56 rfl rfl (by omega) (by omega) ?_
        refine aw_ineg (n := 58) C dX7_changes_57 rfl ?_
        refine hret 58 _ _ _ dX7_changes_58 (Or.inl rfl) ?_
        exact ⟨by unfold chg; omega, rfl⟩
      · refine aw_iconst (n := 41) C dX7_changes_40 rfl ?_
        refine aw_aldn (n := 42) C dX7_changes_41 rfl rfl ?_
        refine aw_getR (n := 45) C dX7_changes_42 rfl fl_X7_38 rfl rfl ?_
        refine aw_ildn (n := 46) C dX7_changes_45 rfl rfl ?_
        refine aw_iald (n := 47) C dX7_changes_46 rfl rfl (by omega) (by omega) ?_
        refine aw_isub (n := 48) C dX7_changes_47 rfl ?_
        refine aw_goto (tgt := 58) C dX7_changes_48 rfl ?_
        refine hret 58 _ _ _ dX7_changes_58 (Or.inl rfl) ?_
        exact ⟨by unfold chg; omega, rfl⟩
  · refine aw_aldn (n := 5) C dX7_changes_4 rfl rfl ?_
    refine aw_getR (n := 8) C dX7_changes_5 rfl fl_X7_32 rfl rfl ?_
    refine aw_ildn (n := 9) C dX7_changes_8 rfl rfl ?_
    refine aw_iald (n := 10) C dX7_changes_9 rfl rfl (by omega) (by omega) ?_
    refine aw_iconst (n := 11) C dX7_changes_10 rfl ?_
    refine aw_icne (tgt := 19) (n := 14) C dX7_changes_11 rfl rfl (by omega) (by omega) (fun h_11 => ?_) (fun h_11 => ?_)
    · refine aw_iconst (n := 20) C dX7_changes_19 rfl ?_
      refine hret 20 _ _ _ dX7_changes_20 (Or.inl rfl) ?_
      exact ⟨by unfold chg; omega, rfl⟩
    · refine aw_bipush (n := 16) C dX7_changes_14 rfl rfl ?_
      refine aw_goto (tgt := 20) C dX7_changes_16 rfl ?_
      refine hret 20 _ _ _ dX7_changes_20 (Or.inl rfl) ?_
      exact ⟨by unfold chg; omega, rfl⟩
section GO
variable {X : AMX} {S : Mem} {m : Nat} {t : Int}
theorem d_goMile_loop {post : Mem → Prop} (W : MW S) (hm : (m : Int) < S 66 5) (ht : t = 0 ∨ t = 1) (hr : ∀ p, 0 ≤ p → p < S 66 6 → 0 ≤ S 80 p ∧ S 80 p ≤ 99) (C : CX X 1 RX7 cX7_goMile 4) (hret : ∀ (pc : Nat) (L : List (Option AV)) (S' : Mem), decode cX7_goMile pc = .ok (.return_, 1) → post S' → AW X cX7_goMile 4 pc L [] S') (hp : ∀ S', fr 80 81 S S' → (∀ p, 0 ≤ p → p < S 66 6 → S' 80 p = stp (S 74) (S 76) t (S 72 m) (S 73 m) (S 80) p) → post S') : ∀ (j i : Nat) (S1 : Mem), (i : Int) + j = S 66 6 → fr 80 81 S S1 → (∀ p : Int, 0 ≤ p → p < i → S1 80 p = beh (S 74) (S 76) t (S 80) p) → (∀ p : Int, i ≤ p → S1 80 p = S 80 p) → AW X cX7_goMile 4 2 [some (.inr (.inr 66)), some (.inl m), some (.inl t), some (.inl i)] [] S1 := by
  obtain ⟨t1, t2, t3, t4, t5, t6⟩ := id W
  have a2 := (t5 m (by omega) hm).2
  unfold tok at a2
  intro j
  induction j with
  | zero =>
    intro i S1 hi hf hv ho
    have e6 : S1 66 6 = S 66 6 := congrFun (hf 66 (by omega)) 6
    have ea : S1 72 m = S 72 m := congrFun (hf 72 (by omega)) m
    have eb : S1 73 m = S 73 m := congrFun (hf 73 (by omega)) m
    refine aw_ildn (n := 3) C dX7_goMile_2 rfl rfl ?_
    refine aw_aldn (n := 4) C dX7_goMile_3 rfl rfl ?_
    refine aw_getI (z := 6) (n := 7) C dX7_goMile_4 rfl fl_X7_81 rfl rfl rfl ?_
    refine aw_icge (tgt := 38) (n := 10) C dX7_goMile_7 rfl rfl (by omega) (by omega) (fun h_7 => ?_) (fun h_7 => ?_)
    · refine aw_aldn (n := 39) C dX7_goMile_38 rfl rfl ?_
      refine aw_getR (n := 42) C dX7_goMile_39 rfl fl_X7_26 rfl rfl ?_
      refine aw_ildn (n := 43) C dX7_goMile_42 rfl rfl ?_
      refine aw_iald (n := 44) C dX7_goMile_43 rfl rfl (by omega) (by omega) ?_
      rw [ea]
      refine aw_bipush (n := 46) C dX7_goMile_44 rfl rfl ?_
      refine aw_iceq (tgt := 99) (n := 49) C dX7_goMile_46 rfl rfl (by omega) (by omega) (fun h_46 => ?_) (fun h_46 => ?_)
      · refine hret 99 _ _ dX7_goMile_99 (hp S1 hf (fun p p0 p1 => ?_))
        unfold stp
        rw [if_neg (by omega)]
        exact hv p p0 (by omega)
      · refine aw_aldn (n := 50) C dX7_goMile_49 rfl rfl ?_
        refine aw_getR (n := 53) C dX7_goMile_50 rfl fl_X7_50 rfl rfl ?_
        refine aw_aldn (n := 54) C dX7_goMile_53 rfl rfl ?_
        refine aw_getR (n := 57) C dX7_goMile_54 rfl fl_X7_26 rfl rfl ?_
        refine aw_ildn (n := 58) C dX7_goMile_57 rfl rfl ?_
        refine aw_iald (n := 59) C dX7_goMile_58 rfl rfl (by omega) (by omega) ?_
        rw [ea]
        refine aw_iald (n := 60) C dX7_goMile_59 rfl rfl (by omega) (by omega) ?_
        refine aw_aldn (n := 61) C dX7_goMile_60 rfl rfl ?_
        refine aw_getR (n := 64) C dX7_goMile_61 rfl fl_X7_50 rfl rfl ?_
        refine aw_aldn (n := 65) C dX7_goMile_64 rfl rfl ?_
        refine aw_getR (n := 68) C dX7_goMile_65 rfl fl_X7_29 rfl rfl ?_
        refine aw_ildn (n := 69) C dX7_goMile_68 rfl rfl ?_
        refine aw_iald (n := 70) C dX7_goMile_69 rfl rfl (by omega) (by omega) ?_
        rw [eb]
        refine aw_iald (n := 71) C dX7_goMile_70 rfl rfl (by omega) (by omega) ?_
        refine aw_iadd (n := 72) C dX7_goMile_71 rfl ?_
        refine aw_iconst (n := 73) C dX7_goMile_72 rfl ?_
        refine aw_idiv (n := 74) C dX7_goMile_73 rfl (by have := hv (S 72 m) (by omega) (by omega); have := hv (S 73 m) (by omega) (by omega); have := bnd_r (S 80 (S 72 m) + chg (S 74 (S 72 m)) (S 76 (S 72 m)) t); have := bnd_r (S 80 (S 73 m) + chg (S 74 (S 73 m)) (S 76 (S 73 m)) t); unfold beh at *; omega) (by omega) ?_
        refine aw_istn (n := 75) (L' := [_, _, _, _]) C dX7_goMile_74 rfl (by decide) rfl rfl ?_
        refine aw_aldn (n := 76) C dX7_goMile_75 rfl rfl ?_
        refine aw_getR (n := 79) C dX7_goMile_76 rfl fl_X7_50 rfl rfl ?_
        refine aw_aldn (n := 80) C dX7_goMile_79 rfl rfl ?_
        refine aw_getR (n := 83) C dX7_goMile_80 rfl fl_X7_26 rfl rfl ?_
        refine aw_ildn (n := 84) C dX7_goMile_83 rfl rfl ?_
        refine aw_iald (n := 85) C dX7_goMile_84 rfl rfl (by omega) (by omega) ?_
        rw [ea]
        refine aw_ildn (n := 86) C dX7_goMile_85 rfl rfl ?_
        refine aw_iast (n := 87) C dX7_goMile_86 rfl rfl (by omega) (by omega) ?_
        refine aw_aldn (n := 88) C dX7_goMile_87 rfl rfl ?_
        refine aw_getR (n := 91) C dX7_goMile_88 rfl fl_X7_50 rfl rfl ?_
        refine aw_aldn (n := 92) C dX7_goMile_91 rfl rfl ?_
        refine aw_getR (n := 95) C dX7_goMile_92 rfl fl_X7_29 rfl rfl ?_
        refine aw_ildn (n := 96) C dX7_goMile_95 rfl rfl ?_
        refine aw_iald (n := 97) C dX7_goMile_96 rfl rfl (by omega) (by omega) ?_
        rw [show ∀ v, st2 S1 80 (S 72 m) v 73 m = S1 73 m from fun v => rfl, eb]
        refine aw_ildn (n := 98) C dX7_goMile_97 rfl rfl ?_
        refine aw_iast (n := 99) C dX7_goMile_98 rfl rfl (by omega) (by omega) ?_
        refine hret 99 _ _ dX7_goMile_99 ?_
        refine hp _ (fr_tr (fr_tr hf (fr_w (fr_st _ _ _ _) (by omega) (by omega))) (fr_w (fr_st _ _ _ _) (by omega) (by omega))) (fun p p0 p1 => ?_)
        rw [hv (S 72 m) (by omega) (by omega), hv (S 73 m) (by omega) (by omega)]
        unfold stp
        by_cases h1 : p = S 73 m
        · rw [h1, st2_s, if_pos ⟨by omega, Or.inr rfl⟩]
        · rw [st2_n h1]
          by_cases h2 : p = S 72 m
          · rw [h2, st2_s, if_pos ⟨by omega, Or.inl rfl⟩]
          · rw [st2_n h2, if_neg (by omega)]
            exact hv p p0 (by omega)
    · omega
  | succ j ih =>
    intro i S1 hi hf hv ho
    have e6 : S1 66 6 = S 66 6 := congrFun (hf 66 (by omega)) 6
    have e74 : S1 74 = S 74 := hf 74 (by omega)
    have e76 : S1 76 = S 76 := hf 76 (by omega)
    have e80 : S1 80 i = S 80 i := ho i (by omega)
    have b6 := t6 i (by omega) (by omega)
    have hri := hr i (by omega) (by omega)
    have hcr : -10 ≤ chg (S 74 i) (S 76 i) t ∧ chg (S 74 i) (S 76 i) t ≤ 10 := by unfold chg; omega
    refine aw_ildn (n := 3) C dX7_goMile_2 rfl rfl ?_
    refine aw_aldn (n := 4) C dX7_goMile_3 rfl rfl ?_
    refine aw_getI (z := 6) (n := 7) C dX7_goMile_4 rfl fl_X7_81 rfl rfl rfl ?_
    refine aw_icge (tgt := 38) (n := 10) C dX7_goMile_7 rfl rfl (by omega) (by omega) (fun h_7 => ?_) (fun h_7 => ?_)
    · omega
    · refine aw_aldn (n := 11) C dX7_goMile_10 rfl rfl ?_
      refine aw_getR (n := 14) C dX7_goMile_11 rfl fl_X7_50 rfl rfl ?_
      refine aw_ildn (n := 15) C dX7_goMile_14 rfl rfl ?_
      refine aw_aldn (n := 16) C dX7_goMile_15 rfl rfl ?_
      refine aw_getR (n := 19) C dX7_goMile_16 rfl fl_X7_50 rfl rfl ?_
      refine aw_ildn (n := 20) C dX7_goMile_19 rfl rfl ?_
      refine aw_iald (n := 21) C dX7_goMile_20 rfl rfl (by omega) (by omega) ?_
      refine aw_aldn (n := 22) C dX7_goMile_21 rfl rfl ?_
      refine aw_ildn (n := 23) C dX7_goMile_22 rfl rfl ?_
      refine aw_ildn (n := 24) C dX7_goMile_23 rfl rfl ?_
      refine aw_cVi (n := 27) (vs := [_, _]) C dX7_goMile_24 rfl rfl rfl mm_X7_changes wM_X7_143 rfl rfl (Nat.le_of_ble_eq_true rfl) (d_changes (by omega) (by omega) ht (by rw [e74]; exact b6.1) (by rw [e76]; exact b6.2.2)) (by decide) (fun z_24 S_24 q_24 => ?_)
      rw [q_24.1, q_24.2]
      clear q_24 S_24 z_24
      rw [e74, e76, e80]
      refine aw_iadd (n := 28) C dX7_goMile_27 rfl ?_
      refine aw_cSi (n := 31) (vs := [_]) C dX7_goMile_28 rfl rfl rfl mm_X7_bounded wM_X7_147 (Nat.le_of_ble_eq_true rfl) (d_bounded (by omega)) (by decide) (fun z_28 S_28 q_28 => ?_)
      rw [q_28.1, q_28.2]
      clear q_28 S_28 z_28
      refine aw_iast (n := 32) C dX7_goMile_31 rfl rfl (by omega) (by omega) ?_
      refine aw_iinc (n := 35) (L' := [_, _, _, _]) C dX7_goMile_32 rfl rfl (by decide) rfl rfl ?_
      refine aw_goto (tgt := 2) C dX7_goMile_35 rfl ?_
      refine ih (i + 1) _ (by omega) (fr_tr hf (fr_w (fr_st _ _ _ _) (by omega) (by omega))) (fun p p0 p1 => ?_) (fun p p1 => ?_)
      · by_cases h : p = i
        · rw [h, st2_s]; rfl
        · rw [st2_n h]; exact hv p p0 (by omega)
      · rw [st2_n (by omega)]; exact ho p (by omega)
theorem d_goMile (W : MW S) (hm : (m : Int) < S 66 5) (ht : t = 0 ∨ t = 1) (hr : ∀ p, 0 ≤ p → p < S 66 6 → 0 ≤ S 80 p ∧ S 80 p ≤ 99) : AMv 1 yX7_goMile cX7_goMile 4 [.inr (.inr 66), .inl (m : Int), .inl t] S (fun S' => fr 80 81 S S' ∧ ∀ p, 0 ≤ p → p < S 66 6 → S' 80 p = stp (S 74) (S 76) t (S 72 m) (S 73 m) (S 80) p) := by
  obtain ⟨t1, t2, t3, t4, t5, t6⟩ := id W
  refine amv_intro (L := [_, _, _, none]) (by decide) rfl (Nat.le_of_ble_eq_true rfl) (fun X C hret => ?_)
  refine aw_iconst (n := 1) C dX7_goMile_0 rfl ?_
  refine aw_istn (n := 2) (L' := [_, _, _, _]) C dX7_goMile_1 rfl (by decide) rfl rfl ?_
  exact d_goMile_loop W hm ht hr C hret (fun S' a b => ⟨a, b⟩) (S 66 6).toNat 0 S (by omega) (fr_rf _ _ _) (fun p p0 p1 => by omega) (fun _ _ => rfl)
theorem d_begin_loop {post : Mem → Prop} (h6 : 0 ≤ S 66 6 ∧ S 66 6 ≤ 4) (C : CX X 0 RX7 cX7_begin 2) (hret : ∀ (pc : Nat) (L : List (Option AV)) (S' : Mem), decode cX7_begin pc = .ok (.return_, 1) → post S' → AW X cX7_begin 2 pc L [] S') (hp : ∀ S', fr 80 81 S S' → (∀ p, 0 ≤ p → p < S 66 6 → S' 80 p = S 75 p) → post S') : ∀ (j i : Nat) (S1 : Mem), (i : Int) + j = S 66 6 → fr 80 81 S S1 → (∀ p : Int, 0 ≤ p → p < i → S1 80 p = S 75 p) → AW X cX7_begin 2 2 [some (.inr (.inr 66)), some (.inl i)] [] S1 := by
  intro j
  induction j with
  | zero =>
    intro i S1 hi hf hv
    have e6 : S1 66 6 = S 66 6 := congrFun (hf 66 (by omega)) 6
    refine aw_ildn (n := 3) C dX7_begin_2 rfl rfl ?_
    refine aw_aldn (n := 4) C dX7_begin_3 rfl rfl ?_
    refine aw_getI (z := 6) (n := 7) C dX7_begin_4 rfl fl_X7_81 rfl rfl rfl ?_
    refine aw_icge (tgt := 28) (n := 10) C dX7_begin_7 rfl rfl (by omega) (by omega) (fun h_7 => ?_) (fun h_7 => ?_)
    · refine hret 28 _ _ dX7_begin_28 ?_
      exact hp S1 hf (fun p p0 p1 => hv p p0 (by omega))
    · omega
  | succ j ih =>
    intro i S1 hi hf hv
    have e6 : S1 66 6 = S 66 6 := congrFun (hf 66 (by omega)) 6
    refine aw_ildn (n := 3) C dX7_begin_2 rfl rfl ?_
    refine aw_aldn (n := 4) C dX7_begin_3 rfl rfl ?_
    refine aw_getI (z := 6) (n := 7) C dX7_begin_4 rfl fl_X7_81 rfl rfl rfl ?_
    refine aw_icge (tgt := 28) (n := 10) C dX7_begin_7 rfl rfl (by omega) (by omega) (fun h_7 => ?_) (fun h_7 => ?_)
    · omega
    · refine aw_aldn (n := 11) C dX7_begin_10 rfl rfl ?_
      refine aw_getR (n := 14) C dX7_begin_11 rfl fl_X7_50 rfl rfl ?_
      refine aw_ildn (n := 15) C dX7_begin_14 rfl rfl ?_
      refine aw_aldn (n := 16) C dX7_begin_15 rfl rfl ?_
      refine aw_getR (n := 19) C dX7_begin_16 rfl fl_X7_35 rfl rfl ?_
      refine aw_ildn (n := 20) C dX7_begin_19 rfl rfl ?_
      refine aw_iald (n := 21) C dX7_begin_20 rfl rfl (by omega) (by omega) ?_
      refine aw_iast (n := 22) C dX7_begin_21 rfl rfl (by omega) (by omega) ?_
      refine aw_iinc (n := 25) (L' := [_, _]) C dX7_begin_22 rfl rfl (by decide) rfl rfl ?_
      refine aw_goto (tgt := 2) C dX7_begin_25 rfl ?_
      refine ih (i + 1) _ (by omega) (fr_tr hf (fr_w (fr_st _ _ _ _) (by omega) (by omega))) (fun p p0 p1 => ?_)
      by_cases h : p = i
      · rw [h, st2_s, hf 75 (by omega)]
      · rw [st2_n h]; exact hv p p0 (by omega)
theorem d_begin (h6 : 0 ≤ S 66 6 ∧ S 66 6 ≤ 4) : AMv 0 yX7_begin cX7_begin 2 [.inr (.inr 66)] S (fun S' => fr 80 81 S S' ∧ ∀ p, 0 ≤ p → p < S 66 6 → S' 80 p = S 75 p) := by
  refine amv_intro (L := [_, none]) (by decide) rfl (Nat.le_of_ble_eq_true rfl) (fun X C hret => ?_)
  refine aw_iconst (n := 1) C dX7_begin_0 rfl ?_
  refine aw_istn (n := 2) (L' := [_, _]) C dX7_begin_1 rfl (by decide) rfl rfl ?_
  exact d_begin_loop h6 C hret (fun S' a b => ⟨a, b⟩) (S 66 6).toNat 0 S (by omega) (fr_rf _ _ _) (fun p p0 p1 => by omega)
/-- the model's regrets -/
def RM (S : Mem) : Nat → Fn := rg (S 74) (S 76) (S 75) (S 71) (S 72) (S 73)
theorem RM_s (S : Mem) (m : Nat) (p : Int) : RM S (m + 1) p = stp (S 74) (S 76) (S 71 m) (S 72 m) (S 73 m) (RM S m) p := rfl
theorem RM_r {S : Mem} (W : MW S) (m : Nat) (p : Int) (p0 : 0 ≤ p) (p1 : p < S 66 6) : 0 ≤ RM S m p ∧ RM S m p ≤ 99 := rg_r (fun x x0 x1 => (W.2.2.2.2.2 x x0 x1).2.1) m p p0 p1
/-- one more mile -/
theorem RM_next {S S1 : Mem} (W : MW S) (hm : (m : Int) < S 66 5) (h : ∀ p, 0 ≤ p → p < S 66 6 → S1 80 p = RM S m p) (p : Int) (p0 : 0 ≤ p) (p1 : p < S 66 6) : stp (S 74) (S 76) (S 71 m) (S 72 m) (S 73 m) (S1 80) p = RM S (m + 1) p := stp_congr (W.2.2.2.2.1 m (by omega) hm).2 p0 p1 (fun _ _ _ => rfl) (fun _ _ _ => rfl) h
theorem d_goTo_loop {n : Nat} {post : Mem → Prop} (W : MW S) (hn : (n : Int) ≤ S 66 5) (C : CX X 2 RX7 cX7_goTo 3) (hret : ∀ (pc : Nat) (L : List (Option AV)) (S' : Mem), decode cX7_goTo pc = .ok (.return_, 1) → post S' → AW X cX7_goTo 3 pc L [] S') (hp : ∀ S', fr 80 81 S S' → (∀ p, 0 ≤ p → p < S 66 6 → S' 80 p = RM S n p) → post S') : ∀ (j i : Nat) (S1 : Mem), i + j = n → fr 80 81 S S1 → (∀ p, 0 ≤ p → p < S 66 6 → S1 80 p = RM S i p) → AW X cX7_goTo 3 6 [some (.inr (.inr 66)), some (.inl n), some (.inl i)] [] S1 := by
  obtain ⟨t1, t2, t3, t4, t5, t6⟩ := id W
  intro j
  induction j with
  | zero =>
    intro i S1 hi hf hv
    obtain rfl : i = n := by omega
    refine aw_ildn (n := 7) C dX7_goTo_6 rfl rfl ?_
    refine aw_ildn (n := 8) C dX7_goTo_7 rfl rfl ?_
    refine aw_icge (tgt := 28) (n := 11) C dX7_goTo_8 rfl rfl (by omega) (by omega) (fun h_8 => ?_) (fun h_8 => ?_)
    · refine hret 28 _ _ dX7_goTo_28 ?_
      exact hp S1 hf hv
    · omega
  | succ j ih =>
    intro i S1 hi hf hv
    have W1 := MW_fr W hf (by omega)
    have e66 := hf 66 (by omega)
    have ht := (t5 i (by omega) (by omega)).1
    refine aw_ildn (n := 7) C dX7_goTo_6 rfl rfl ?_
    refine aw_ildn (n := 8) C dX7_goTo_7 rfl rfl ?_
    refine aw_icge (tgt := 28) (n := 11) C dX7_goTo_8 rfl rfl (by omega) (by omega) (fun h_8 => ?_) (fun h_8 => ?_)
    · omega
    · refine aw_aldn (n := 12) C dX7_goTo_11 rfl rfl ?_
      refine aw_ildn (n := 13) C dX7_goTo_12 rfl rfl ?_
      refine aw_aldn (n := 14) C dX7_goTo_13 rfl rfl ?_
      refine aw_getR (n := 17) C dX7_goTo_14 rfl fl_X7_22 rfl rfl ?_
      refine aw_ildn (n := 18) C dX7_goTo_17 rfl rfl ?_
      refine aw_zald (n := 19) C dX7_goTo_18 rfl rfl (by omega) (by omega) ?_
      rw [hf 71 (by omega)]
      refine aw_cVv (n := 22) (vs := [_, _]) C dX7_goTo_19 rfl rfl rfl mm_X7_goMile wM_X7_153 rfl rfl (Nat.le_of_ble_eq_true rfl) (d_goMile (m := i) W1 (by rw [e66]; omega) ht (fun p p0 p1 => by rw [e66] at p1; rw [hv p p0 p1]; exact RM_r W i p p0 p1)) (by decide) (fun S_19 q_19 => ?_)
      obtain ⟨g1, g2⟩ := q_19
      rw [e66, hf 74 (by omega), hf 76 (by omega), hf 72 (by omega), hf 73 (by omega)] at g2
      refine aw_iinc (n := 25) (L' := [_, _, _]) C dX7_goTo_22 rfl rfl (by decide) rfl rfl ?_
      refine aw_goto (tgt := 6) C dX7_goTo_25 rfl ?_
      exact ih (i + 1) _ (by omega) (fr_tr hf g1) (fun p p0 p1 => by rw [g2 p p0 p1]; exact RM_next W (by omega) hv p p0 p1)
theorem d_goTo {n : Nat} (W : MW S) (hn : (n : Int) ≤ S 66 5) : AMv 2 yX7_goTo cX7_goTo 3 [.inr (.inr 66), .inl (n : Int)] S (fun S' => fr 80 81 S S' ∧ ∀ p, 0 ≤ p → p < S 66 6 → S' 80 p = RM S n p) := by
  obtain ⟨t1, t2, t3, t4, t5, t6⟩ := id W
  refine amv_intro (L := [_, _, none]) (by decide) rfl (Nat.le_of_ble_eq_true rfl) (fun X C hret => ?_)
  refine aw_aldn (n := 1) C dX7_goTo_0 rfl rfl ?_
  refine aw_cVv (n := 4) (vs := []) C dX7_goTo_1 rfl rfl rfl mm_X7_begin wM_X7_150 rfl rfl (Nat.le_of_ble_eq_true rfl) (d_begin t2) (by decide) (fun S_1 q_1 => ?_)
  obtain ⟨g1, g2⟩ := q_1
  refine aw_iconst (n := 5) C dX7_goTo_4 rfl ?_
  refine aw_istn (n := 6) (L' := [_, _, _]) C dX7_goTo_5 rfl (by decide) rfl rfl ?_
  exact d_goTo_loop W hn C hret (fun S' a b => ⟨a, b⟩) n 0 _ (by omega) g1 g2
theorem d_dueBy {r : Int} (hr : rng r) (h7 : rng (S 66 7)) (h8 : rng (S 66 8)) : AMi 0 yX7_dueBy cX7_dueBy 2 (some .int) [.inr (.inr 66), .inl r] S (fun z S' => z = due (S 66 7) (S 66 8) r ∧ S' = S) := by
  refine ami_intro (L := [_, _]) (by decide) (Or.inl rfl) rfl (Nat.le_of_ble_eq_true rfl) (fun X C hret => ?_)
  refine aw_ildn (n := 1) C dX7_dueBy_0 rfl rfl ?_
  refine aw_aldn (n := 2) C dX7_dueBy_1 rfl rfl ?_
  refine aw_getI (z := 7) (n := 5) C dX7_dueBy_2 rfl fl_X7_117 rfl rfl rfl ?_
  refine aw_icge (tgt := 12) (n := 8) C dX7_dueBy_5 rfl rfl (by omega) (by omega) (fun h_5 => ?_) (fun h_5 => ?_)
  · refine aw_ildn (n := 13) C dX7_dueBy_12 rfl rfl ?_
    refine aw_aldn (n := 14) C dX7_dueBy_13 rfl rfl ?_
    refine aw_getI (z := 8) (n := 17) C dX7_dueBy_14 rfl fl_X7_120 rfl rfl rfl ?_
    refine aw_icge (tgt := 24) (n := 20) C dX7_dueBy_17 rfl rfl (by omega) (by omega) (fun h_17 => ?_) (fun h_17 => ?_)
    · refine aw_iconst (n := 25) C dX7_dueBy_24 rfl ?_
      refine hret 25 _ _ _ dX7_dueBy_25 (Or.inl rfl) ?_
      exact ⟨by unfold due; omega, rfl⟩
    · refine aw_iconst (n := 21) C dX7_dueBy_20 rfl ?_
      refine aw_goto (tgt := 25) C dX7_dueBy_21 rfl ?_
      refine hret 25 _ _ _ dX7_dueBy_25 (Or.inl rfl) ?_
      exact ⟨by unfold due; omega, rfl⟩
  · refine aw_iconst (n := 9) C dX7_dueBy_8 rfl ?_
    refine aw_goto (tgt := 25) C dX7_dueBy_9 rfl ?_
    refine hret 25 _ _ _ dX7_dueBy_25 (Or.inl rfl) ?_
    exact ⟨by unfold due; omega, rfl⟩
theorem m_regret {p k : Int} (hp : rng p) (hk : rng k) (W : MW S) : AMi 3 yX7_regret cX7_regret 3 (some .int) [.inr (.inr 66), .inl p, .inl k] S (fun z S' => fr 80 81 S S' ∧ z = (if p < 0 ∨ S 66 6 ≤ p then -1 else if k < 0 ∨ S 66 5 < k then -2 else RM S k.toNat p)) := by
  obtain ⟨t1, t2, t3, t4, t5, t6⟩ := id W
  refine ami_intro (L := [_, _, _]) (by decide) (Or.inl rfl) rfl (Nat.le_of_ble_eq_true rfl) (fun X C hret => ?_)
  refine aw_aldn (n := 1) C dX7_regret_0 rfl rfl ?_
  refine aw_ildn (n := 2) C dX7_regret_1 rfl rfl ?_
  refine aw_cVi (n := 5) (vs := [_]) C dX7_regret_2 rfl rfl rfl mm_X7_isPassenger wM_X7_137 rfl rfl (Nat.le_of_ble_eq_true rfl) (d_isPassenger hp (by omega)) (by decide) (fun z_2 S_2 q_2 => ?_)
  rw [q_2.1, q_2.2]
  clear q_2 S_2 z_2
  refine aw_ifne (tgt := 10) (n := 8) C dX7_regret_5 rfl rfl (by omega) (fun h_5 => ?_) (fun h_5 => ?_)
  · refine aw_ildn (n := 11) C dX7_regret_10 rfl rfl ?_
    refine aw_iconst (n := 12) C dX7_regret_11 rfl ?_
    refine aw_aldn (n := 13) C dX7_regret_12 rfl rfl ?_
    refine aw_getI (z := 5) (n := 16) C dX7_regret_13 rfl fl_X7_84 rfl rfl rfl ?_
    refine aw_cSi (n := 19) (vs := [_, _, _]) C dX7_regret_16 rfl rfl rfl mm_X7_within wM_X7_77 (Nat.le_of_ble_eq_true rfl) (d_within hk (by decide) (by omega)) (by decide) (fun z_16 S_16 q_16 => ?_)
    rw [q_16.1, q_16.2]
    clear q_16 S_16 z_16
    refine aw_ifne (tgt := 25) (n := 22) C dX7_regret_19 rfl rfl (by omega) (fun h_19 => ?_) (fun h_19 => ?_)
    · refine aw_aldn (n := 26) C dX7_regret_25 rfl rfl ?_
      refine aw_ildn (n := 27) C dX7_regret_26 rfl rfl ?_
      obtain ⟨w, rfl⟩ : ∃ w : Nat, k = w := ⟨k.toNat, by omega⟩
      refine aw_cVv (n := 30) (vs := [_]) C dX7_regret_27 rfl rfl rfl mm_X7_goTo wM_X7_157 rfl rfl (Nat.le_of_ble_eq_true rfl) (d_goTo (n := w) W (by omega)) (by decide) (fun S_27 q_27 => ?_)
      obtain ⟨g1, g2⟩ := q_27
      refine aw_aldn (n := 31) C dX7_regret_30 rfl rfl ?_
      refine aw_getR (n := 34) C dX7_regret_31 rfl fl_X7_50 rfl rfl ?_
      refine aw_ildn (n := 35) C dX7_regret_34 rfl rfl ?_
      refine aw_iald (n := 36) C dX7_regret_35 rfl rfl (by omega) (by omega) ?_
      refine hret 36 _ _ _ dX7_regret_36 (Or.inl rfl) ?_
      exact ⟨g1, by rw [if_neg (by omega), if_neg (by omega), Int.toNat_natCast]; exact g2 p (by omega) (by omega)⟩
    · refine aw_bipush (n := 24) C dX7_regret_22 rfl rfl ?_
      refine hret 24 _ _ _ dX7_regret_24 (Or.inl rfl) ?_
      exact ⟨fr_rf _ _ _, by rw [if_neg (by omega), if_pos (by omega)]⟩
  · refine aw_iconst (n := 9) C dX7_regret_8 rfl ?_
    refine hret 9 _ _ _ dX7_regret_9 (Or.inl rfl) ?_
    exact ⟨fr_rf _ _ _, by rw [if_pos (by omega)]⟩
theorem m_due {p k : Int} (hp : rng p) (hk : rng k) (W : MW S) : AMi 4 yX7_due cX7_due 4 (some .int) [.inr (.inr 66), .inl p, .inl k] S (fun z S' => fr 80 81 S S' ∧ z = (if p < 0 ∨ S 66 6 ≤ p then -1 else if k < 0 ∨ S 66 5 < k then -2 else due (S 66 7) (S 66 8) (RM S k.toNat p))) := by
  obtain ⟨t1, t2, t3, t4, t5, t6⟩ := id W
  refine ami_intro (L := [_, _, _, none]) (by decide) (Or.inl rfl) rfl (Nat.le_of_ble_eq_true rfl) (fun X C hret => ?_)
  refine aw_aldn (n := 1) C dX7_due_0 rfl rfl ?_
  refine aw_ildn (n := 2) C dX7_due_1 rfl rfl ?_
  refine aw_ildn (n := 3) C dX7_due_2 rfl rfl ?_
  refine aw_cVi (n := 6) (vs := [_, _]) C dX7_due_3 rfl rfl rfl mm_X7_regret wM_X7_161 rfl rfl (Nat.le_of_ble_eq_true rfl) (m_regret hp hk W) (by decide) (fun z_3 S_3 q_3 => ?_)
  obtain ⟨g1, g2⟩ := q_3
  have e7 : S_3 66 = S 66 := g1 66 (by omega)
  have hz : (p < 0 ∨ S 66 6 ≤ p → z_3 = -1) ∧ (¬ (p < 0 ∨ S 66 6 ≤ p) → (k < 0 ∨ S 66 5 < k) → z_3 = -2) ∧ (¬ (p < 0 ∨ S 66 6 ≤ p) → ¬ (k < 0 ∨ S 66 5 < k) → z_3 = RM S k.toNat p ∧ 0 ≤ z_3 ∧ z_3 ≤ 99) := ⟨fun h => by rw [g2, if_pos h], fun h h2 => by rw [g2, if_neg h, if_pos h2], fun h h2 => by rw [g2, if_neg h, if_neg h2]; exact ⟨rfl, RM_r W _ p (by omega) (by omega)⟩⟩
  have hzr : rng z_3 := by
    by_cases c1 : p < 0 ∨ S 66 6 ≤ p
    · have := hz.1 c1; omega
    · by_cases c2 : k < 0 ∨ S 66 5 < k
      · have := hz.2.1 c1 c2; omega
      · have := hz.2.2 c1 c2; omega
  clear g2
  refine aw_istn (n := 7) (L' := [_, _, _, _]) C dX7_due_6 rfl (by decide) rfl rfl ?_
  refine aw_ildn (n := 8) C dX7_due_7 rfl rfl ?_
  refine aw_ifge (tgt := 15) (n := 11) C dX7_due_8 rfl rfl (by omega) (fun h_8 => ?_) (fun h_8 => ?_)
  · refine aw_aldn (n := 16) C dX7_due_15 rfl rfl ?_
    refine aw_ildn (n := 17) C dX7_due_16 rfl rfl ?_
    refine aw_cVi (n := 20) (vs := [_]) C dX7_due_17 rfl rfl rfl mm_X7_dueBy wM_X7_165 rfl rfl (Nat.le_of_ble_eq_true rfl) (d_dueBy (by omega) (by rw [e7]; omega) (by rw [e7]; omega)) (by decide) (fun z_17 S_17 q_17 => ?_)
    rw [q_17.1, q_17.2]
    clear q_17 S_17 z_17
    refine hret 20 _ _ _ dX7_due_20 (Or.inl rfl) ?_
    refine ⟨g1, ?_⟩
    by_cases c1 : p < 0 ∨ S 66 6 ≤ p
    · rw [if_pos c1]
      have := hz.1 c1
      first | exact this | omega
    · rw [if_neg c1]
      by_cases c2 : k < 0 ∨ S 66 5 < k
      · rw [if_pos c2]
        have := hz.2.1 c1 c2
        first | exact this | omega
      · rw [if_neg c2]
        have := hz.2.2 c1 c2
        first | (rw [e7, this.1]) | omega
  · refine aw_ildn (n := 12) C dX7_due_11 rfl rfl ?_
    refine aw_goto (tgt := 20) C dX7_due_12 rfl ?_
    refine hret 20 _ _ _ dX7_due_20 (Or.inl rfl) ?_
    refine ⟨g1, ?_⟩
    by_cases c1 : p < 0 ∨ S 66 6 ≤ p
    · rw [if_pos c1]
      have := hz.1 c1
      first | exact this | omega
    · rw [if_neg c1]
      by_cases c2 : k < 0 ∨ S 66 5 < k
      · rw [if_pos c2]
        have := hz.2.1 c1 c2
        first | exact this | omega
      · rw [if_neg c2]
        have := hz.2.2 c1 c2
        first | (rw [e7, this.1]) | omega
end GO
