/-! RegretLine: what its calls share -/
theorem c_noSheet {S : Mem} {k : Int} (h : rng k) : AMi 0 yX6_noSheet cX6_noSheet 1 (some .boolean) [.inl k] S (fun z S' => z = (if k < 0 ∨ 4 ≤ k then 1 else 0) ∧ S' = S) := by
  refine ami_intro (L := [_]) (by decide) (Or.inr rfl) rfl (Nat.le_of_ble_eq_true rfl) (fun X C hret => ?_)
  refine aw_ildn (n := 1) C dX6_noSheet_0 rfl rfl ?_
  refine aw_iflt (tgt := 9) (n := 4) C dX6_noSheet_1 rfl rfl (by omega) (fun h_1 => ?_) (fun h_1 => ?_)
  · refine aw_iconst (n := 10) C dX6_noSheet_9 rfl ?_
    refine aw_goto (tgt := 14) C dX6_noSheet_10 rfl ?_
    refine hret 14 _ _ _ dX6_noSheet_14 (Or.inr ⟨rfl, by omega⟩) ?_
    exact ⟨by omega, rfl⟩
  · refine aw_ildn (n := 5) C dX6_noSheet_4 rfl rfl ?_
    refine aw_iconst (n := 6) C dX6_noSheet_5 rfl ?_
    refine aw_iclt (tgt := 13) (n := 9) C dX6_noSheet_6 rfl rfl (by omega) (by omega) (fun h_6 => ?_) (fun h_6 => ?_)
    · refine aw_iconst (n := 14) C dX6_noSheet_13 rfl ?_
      refine hret 14 _ _ _ dX6_noSheet_14 (Or.inr ⟨rfl, by omega⟩) ?_
      exact ⟨by omega, rfl⟩
    · refine aw_iconst (n := 10) C dX6_noSheet_9 rfl ?_
      refine aw_goto (tgt := 14) C dX6_noSheet_10 rfl ?_
      refine hret 14 _ _ _ dX6_noSheet_14 (Or.inr ⟨rfl, by omega⟩) ?_
      exact ⟨by omega, rfl⟩
theorem c_noLane {S : Mem} {k : Int} (h : rng k) : AMi 0 yX6_noLane cX6_noLane 1 (some .boolean) [.inl k] S (fun z S' => z = (if k < 0 ∨ 3 ≤ k then 1 else 0) ∧ S' = S) := by
  refine ami_intro (L := [_]) (by decide) (Or.inr rfl) rfl (Nat.le_of_ble_eq_true rfl) (fun X C hret => ?_)
  refine aw_ildn (n := 1) C dX6_noLane_0 rfl rfl ?_
  refine aw_iflt (tgt := 9) (n := 4) C dX6_noLane_1 rfl rfl (by omega) (fun h_1 => ?_) (fun h_1 => ?_)
  · refine aw_iconst (n := 10) C dX6_noLane_9 rfl ?_
    refine aw_goto (tgt := 14) C dX6_noLane_10 rfl ?_
    refine hret 14 _ _ _ dX6_noLane_14 (Or.inr ⟨rfl, by omega⟩) ?_
    exact ⟨by omega, rfl⟩
  · refine aw_ildn (n := 5) C dX6_noLane_4 rfl rfl ?_
    refine aw_iconst (n := 6) C dX6_noLane_5 rfl ?_
    refine aw_iclt (tgt := 13) (n := 9) C dX6_noLane_6 rfl rfl (by omega) (by omega) (fun h_6 => ?_) (fun h_6 => ?_)
    · refine aw_iconst (n := 14) C dX6_noLane_13 rfl ?_
      refine hret 14 _ _ _ dX6_noLane_14 (Or.inr ⟨rfl, by omega⟩) ?_
      exact ⟨by omega, rfl⟩
    · refine aw_iconst (n := 10) C dX6_noLane_9 rfl ?_
      refine aw_goto (tgt := 14) C dX6_noLane_10 rfl ?_
      refine hret 14 _ _ _ dX6_noLane_14 (Or.inr ⟨rfl, by omega⟩) ?_
      exact ⟨by omega, rfl⟩
theorem c_noLine {S : Mem} (h : rng (S 10 8)) : AMi 0 yX6_noLine cX6_noLine 1 (some .boolean) [.inr (.inr 0)] S (fun z S' => z = (if S 10 8 = 0 then 1 else 0) ∧ S' = S) := by
  refine ami_intro (L := [_]) (by decide) (Or.inr rfl) rfl (Nat.le_of_ble_eq_true rfl) (fun X C hret => ?_)
  refine aw_aldn (n := 1) C dX6_noLine_0 rfl rfl ?_
  refine aw_getR (n := 4) C dX6_noLine_1 rfl fl_X6_21 rfl rfl ?_
  refine aw_getI (z := 8) (n := 7) C dX6_noLine_4 rfl fl_X6_154 rfl rfl rfl ?_
  refine aw_ifne (tgt := 14) (n := 10) C dX6_noLine_7 rfl rfl (by omega) (fun h_7 => ?_) (fun h_7 => ?_)
  · refine aw_iconst (n := 15) C dX6_noLine_14 rfl ?_
    refine hret 15 _ _ _ dX6_noLine_15 (Or.inr ⟨rfl, by omega⟩) ?_
    exact ⟨by omega, rfl⟩
  · refine aw_iconst (n := 11) C dX6_noLine_10 rfl ?_
    refine aw_goto (tgt := 15) C dX6_noLine_11 rfl ?_
    refine hret 15 _ _ _ dX6_noLine_15 (Or.inr ⟨rfl, by omega⟩) ?_
    exact ⟨by omega, rfl⟩
theorem c_noPassenger {S : Mem} {p : Int} (hp : rng p) (h : rng (S 10 9)) : AMi 0 yX6_noPassenger cX6_noPassenger 2 (some .boolean) [.inr (.inr 0), .inl p] S (fun z S' => z = (if p < 0 ∨ S 10 9 ≤ p then 1 else 0) ∧ S' = S) := by
  refine ami_intro (L := [_, _]) (by decide) (Or.inr rfl) rfl (Nat.le_of_ble_eq_true rfl) (fun X C hret => ?_)
  refine aw_ildn (n := 1) C dX6_noPassenger_0 rfl rfl ?_
  refine aw_iflt (tgt := 15) (n := 4) C dX6_noPassenger_1 rfl rfl (by omega) (fun h_1 => ?_) (fun h_1 => ?_)
  · refine aw_iconst (n := 16) C dX6_noPassenger_15 rfl ?_
    refine aw_goto (tgt := 20) C dX6_noPassenger_16 rfl ?_
    refine hret 20 _ _ _ dX6_noPassenger_20 (Or.inr ⟨rfl, by omega⟩) ?_
    exact ⟨by omega, rfl⟩
  · refine aw_ildn (n := 5) C dX6_noPassenger_4 rfl rfl ?_
    refine aw_aldn (n := 6) C dX6_noPassenger_5 rfl rfl ?_
    refine aw_getR (n := 9) C dX6_noPassenger_6 rfl fl_X6_21 rfl rfl ?_
    refine aw_getI (z := 9) (n := 12) C dX6_noPassenger_9 rfl fl_X6_93 rfl rfl rfl ?_
    refine aw_iclt (tgt := 19) (n := 15) C dX6_noPassenger_12 rfl rfl (by omega) (by omega) (fun h_12 => ?_) (fun h_12 => ?_)
    · refine aw_iconst (n := 20) C dX6_noPassenger_19 rfl ?_
      refine hret 20 _ _ _ dX6_noPassenger_20 (Or.inr ⟨rfl, by omega⟩) ?_
      exact ⟨by omega, rfl⟩
    · refine aw_iconst (n := 16) C dX6_noPassenger_15 rfl ?_
      refine aw_goto (tgt := 20) C dX6_noPassenger_16 rfl ?_
      refine hret 20 _ _ _ dX6_noPassenger_20 (Or.inr ⟨rfl, by omega⟩) ?_
      exact ⟨by omega, rfl⟩
theorem c_noMile {S : Mem} {p : Int} (hp : rng p) (h : rng (S 10 8)) : AMi 0 yX6_noMile cX6_noMile 2 (some .boolean) [.inr (.inr 0), .inl p] S (fun z S' => z = (if p < 0 ∨ S 10 8 ≤ p then 1 else 0) ∧ S' = S) := by
  refine ami_intro (L := [_, _]) (by decide) (Or.inr rfl) rfl (Nat.le_of_ble_eq_true rfl) (fun X C hret => ?_)
  refine aw_ildn (n := 1) C dX6_noMile_0 rfl rfl ?_
  refine aw_iflt (tgt := 15) (n := 4) C dX6_noMile_1 rfl rfl (by omega) (fun h_1 => ?_) (fun h_1 => ?_)
  · refine aw_iconst (n := 16) C dX6_noMile_15 rfl ?_
    refine aw_goto (tgt := 20) C dX6_noMile_16 rfl ?_
    refine hret 20 _ _ _ dX6_noMile_20 (Or.inr ⟨rfl, by omega⟩) ?_
    exact ⟨by omega, rfl⟩
  · refine aw_ildn (n := 5) C dX6_noMile_4 rfl rfl ?_
    refine aw_aldn (n := 6) C dX6_noMile_5 rfl rfl ?_
    refine aw_getR (n := 9) C dX6_noMile_6 rfl fl_X6_21 rfl rfl ?_
    refine aw_getI (z := 8) (n := 12) C dX6_noMile_9 rfl fl_X6_154 rfl rfl rfl ?_
    refine aw_iclt (tgt := 19) (n := 15) C dX6_noMile_12 rfl rfl (by omega) (by omega) (fun h_12 => ?_) (fun h_12 => ?_)
    · refine aw_iconst (n := 20) C dX6_noMile_19 rfl ?_
      refine hret 20 _ _ _ dX6_noMile_20 (Or.inr ⟨rfl, by omega⟩) ?_
      exact ⟨by omega, rfl⟩
    · refine aw_iconst (n := 16) C dX6_noMile_15 rfl ?_
      refine aw_goto (tgt := 20) C dX6_noMile_16 rfl ?_
      refine hret 20 _ _ _ dX6_noMile_20 (Or.inr ⟨rfl, by omega⟩) ?_
      exact ⟨by omega, rfl⟩
theorem c_noMileNorEnd {S : Mem} {p : Int} (hp : rng p) (h : rng (S 10 8)) : AMi 0 yX6_noMileNorEnd cX6_noMileNorEnd 2 (some .boolean) [.inr (.inr 0), .inl p] S (fun z S' => z = (if p < 0 ∨ S 10 8 < p then 1 else 0) ∧ S' = S) := by
  refine ami_intro (L := [_, _]) (by decide) (Or.inr rfl) rfl (Nat.le_of_ble_eq_true rfl) (fun X C hret => ?_)
  refine aw_ildn (n := 1) C dX6_noMileNorEnd_0 rfl rfl ?_
  refine aw_iflt (tgt := 15) (n := 4) C dX6_noMileNorEnd_1 rfl rfl (by omega) (fun h_1 => ?_) (fun h_1 => ?_)
  · refine aw_iconst (n := 16) C dX6_noMileNorEnd_15 rfl ?_
    refine aw_goto (tgt := 20) C dX6_noMileNorEnd_16 rfl ?_
    refine hret 20 _ _ _ dX6_noMileNorEnd_20 (Or.inr ⟨rfl, by omega⟩) ?_
    exact ⟨by omega, rfl⟩
  · refine aw_ildn (n := 5) C dX6_noMileNorEnd_4 rfl rfl ?_
    refine aw_aldn (n := 6) C dX6_noMileNorEnd_5 rfl rfl ?_
    refine aw_getR (n := 9) C dX6_noMileNorEnd_6 rfl fl_X6_21 rfl rfl ?_
    refine aw_getI (z := 8) (n := 12) C dX6_noMileNorEnd_9 rfl fl_X6_154 rfl rfl rfl ?_
    refine aw_icle (tgt := 19) (n := 15) C dX6_noMileNorEnd_12 rfl rfl (by omega) (by omega) (fun h_12 => ?_) (fun h_12 => ?_)
    · refine aw_iconst (n := 20) C dX6_noMileNorEnd_19 rfl ?_
      refine hret 20 _ _ _ dX6_noMileNorEnd_20 (Or.inr ⟨rfl, by omega⟩) ?_
      exact ⟨by omega, rfl⟩
    · refine aw_iconst (n := 16) C dX6_noMileNorEnd_15 rfl ?_
      refine aw_goto (tgt := 20) C dX6_noMileNorEnd_16 rfl ?_
      refine hret 20 _ _ _ dX6_noMileNorEnd_20 (Or.inr ⟨rfl, by omega⟩) ?_
      exact ⟨by omega, rfl⟩
theorem c_noPair {S : Mem} {a b : Int} (ha : rng a) (hb : rng b) (h : rng (S 10 9)) : AMi 1 yX6_noPair cX6_noPair 3 (some .boolean) [.inr (.inr 0), .inl a, .inl b] S (fun z S' => z = (if a < 0 ∨ S 10 9 ≤ a ∨ b < 0 ∨ S 10 9 ≤ b ∨ a = b then 1 else 0) ∧ S' = S) := by
  refine ami_intro (L := [_, _, _]) (by decide) (Or.inr rfl) rfl (Nat.le_of_ble_eq_true rfl) (fun X C hret => ?_)
  refine aw_aldn (n := 1) C dX6_noPair_0 rfl rfl ?_
  refine aw_ildn (n := 2) C dX6_noPair_1 rfl rfl ?_
  refine aw_cVi (n := 5) (vs := [_]) C dX6_noPair_2 rfl rfl rfl mm_X6_noPassenger wM_X6_96 rfl rfl (Nat.le_of_ble_eq_true rfl) (c_noPassenger ha h) (by decide) (fun z_2 S_2 q_2 => ?_)
  rw [q_2.1, q_2.2]
  clear q_2 S_2 z_2
  refine aw_ifne (tgt := 21) (n := 8) C dX6_noPair_5 rfl rfl (by omega) (fun h_5 => ?_) (fun h_5 => ?_)
  · refine aw_iconst (n := 22) C dX6_noPair_21 rfl ?_
    refine aw_goto (tgt := 26) C dX6_noPair_22 rfl ?_
    refine hret 26 _ _ _ dX6_noPair_26 (Or.inr ⟨rfl, by omega⟩) ?_
    exact ⟨by omega, rfl⟩
  · refine aw_aldn (n := 9) C dX6_noPair_8 rfl rfl ?_
    refine aw_ildn (n := 10) C dX6_noPair_9 rfl rfl ?_
    refine aw_cVi (n := 13) (vs := [_]) C dX6_noPair_10 rfl rfl rfl mm_X6_noPassenger wM_X6_96 rfl rfl (Nat.le_of_ble_eq_true rfl) (c_noPassenger hb h) (by decide) (fun z_10 S_10 q_10 => ?_)
    rw [q_10.1, q_10.2]
    clear q_10 S_10 z_10
    refine aw_ifne (tgt := 21) (n := 16) C dX6_noPair_13 rfl rfl (by omega) (fun h_13 => ?_) (fun h_13 => ?_)
    · refine aw_iconst (n := 22) C dX6_noPair_21 rfl ?_
      refine aw_goto (tgt := 26) C dX6_noPair_22 rfl ?_
      refine hret 26 _ _ _ dX6_noPair_26 (Or.inr ⟨rfl, by omega⟩) ?_
      exact ⟨by omega, rfl⟩
    · refine aw_ildn (n := 17) C dX6_noPair_16 rfl rfl ?_
      refine aw_ildn (n := 18) C dX6_noPair_17 rfl rfl ?_
      refine aw_icne (tgt := 25) (n := 21) C dX6_noPair_18 rfl rfl (by omega) (by omega) (fun h_18 => ?_) (fun h_18 => ?_)
      · refine aw_iconst (n := 26) C dX6_noPair_25 rfl ?_
        refine hret 26 _ _ _ dX6_noPair_26 (Or.inr ⟨rfl, by omega⟩) ?_
        exact ⟨by omega, rfl⟩
      · refine aw_iconst (n := 22) C dX6_noPair_21 rfl ?_
        refine aw_goto (tgt := 26) C dX6_noPair_22 rfl ?_
        refine hret 26 _ _ _ dX6_noPair_26 (Or.inr ⟨rfl, by omega⟩) ?_
        exact ⟨by omega, rfl⟩
theorem c_comeTo {S : Mem} {f : Int} : AMi 0 yX6_comeTo cX6_comeTo 2 (some .int) [.inr (.inr 0), .inl f] S (fun z S' => z = -10 - f ∧ S' = st2 S 0 8 f) := by
  refine ami_intro (L := [_, _]) (by decide) (Or.inl rfl) rfl (Nat.le_of_ble_eq_true rfl) (fun X C hret => ?_)
  refine aw_aldn (n := 1) C dX6_comeTo_0 rfl rfl ?_
  refine aw_ildn (n := 2) C dX6_comeTo_1 rfl rfl ?_
  refine aw_put (z := 8) (n := 5) C dX6_comeTo_2 rfl fp_X6_59 rfl rfl rfl (Or.inl rfl) ?_
  refine aw_bipush (n := 7) C dX6_comeTo_5 rfl rfl ?_
  refine aw_ildn (n := 8) C dX6_comeTo_7 rfl rfl ?_
  refine aw_isub (n := 9) C dX6_comeTo_8 rfl ?_
  refine hret 9 _ _ _ dX6_comeTo_9 (Or.inl rfl) ?_
  exact ⟨rfl, rfl⟩
theorem c_leaveTrace {S : Mem} {f : Int} : AMv 0 yX6_leaveTrace cX6_leaveTrace 2 [.inr (.inr 0), .inl f] S (fun S' => S' = st2 S 0 7 (31 * S 0 7 + f)) := by
  refine amv_intro (L := [_, _]) (by decide) rfl (Nat.le_of_ble_eq_true rfl) (fun X C hret => ?_)
  refine aw_aldn (n := 1) C dX6_leaveTrace_0 rfl rfl ?_
  refine aw_bipush (n := 3) C dX6_leaveTrace_1 rfl rfl ?_
  refine aw_aldn (n := 4) C dX6_leaveTrace_3 rfl rfl ?_
  refine aw_getI (z := 7) (n := 7) C dX6_leaveTrace_4 rfl fl_X6_55 rfl rfl rfl ?_
  refine aw_imul (n := 8) C dX6_leaveTrace_7 rfl ?_
  refine aw_ildn (n := 9) C dX6_leaveTrace_8 rfl rfl ?_
  refine aw_iadd (n := 10) C dX6_leaveTrace_9 rfl ?_
  refine aw_put (z := 7) (n := 13) C dX6_leaveTrace_10 rfl fp_X6_55 rfl rfl rfl (Or.inl rfl) ?_
  refine hret 13 _ _ dX6_leaveTrace_13 ?_
  rfl
theorem st2_st2 (S : Mem) (c : Nat) (i v w : Int) : st2 (st2 S c i v) c i w = st2 S c i w := by
  funext c' i'
  unfold st2
  by_cases h : c' = c ∧ i' = i
  · rw [if_pos h, if_pos h]
  · rw [if_neg h, if_neg h]; exact (if_neg h).symm
theorem c_tellPassenger {S : Mem} {p : Int} (h0 : 0 ≤ p) (h1 : p < 4) : AMi 1 yX6_tellPassenger cX6_tellPassenger 2 (some .int) [.inr (.inr 0), .inl p] S (fun z S' => z = S 17 p ∧ S' = st2 S 0 7 (31 * S 0 7 + 1)) := by
  refine ami_intro (L := [_, _]) (by decide) (Or.inl rfl) rfl (Nat.le_of_ble_eq_true rfl) (fun X C hret => ?_)
  refine aw_aldn (n := 1) C dX6_tellPassenger_0 rfl rfl ?_
  refine aw_iconst (n := 2) C dX6_tellPassenger_1 rfl ?_
  refine aw_cVv (n := 5) (vs := [_]) C dX6_tellPassenger_2 rfl rfl rfl mm_X6_leaveTrace wM_X6_266 rfl rfl (Nat.le_of_ble_eq_true rfl) (c_leaveTrace) (by decide) (fun S_2 q_2 => ?_)
  rw [q_2]
  clear q_2 S_2
  refine aw_aldn (n := 6) C dX6_tellPassenger_5 rfl rfl ?_
  refine aw_getR (n := 9) C dX6_tellPassenger_6 rfl fl_X6_21 rfl rfl ?_
  refine aw_getR (n := 12) C dX6_tellPassenger_9 rfl fl_X6_105 rfl rfl ?_
  refine aw_ildn (n := 13) C dX6_tellPassenger_12 rfl rfl ?_
  refine aw_iald (n := 14) C dX6_tellPassenger_13 rfl rfl (by omega) (by omega) ?_
  refine hret 14 _ _ _ dX6_tellPassenger_14 (Or.inl rfl) ?_
  exact ⟨rfl, rfl⟩
theorem c_tellWidow {S : Mem} {p : Int} (h0 : 0 ≤ p) (h1 : p < 4) : AMi 2 yX6_tellWidow cX6_tellWidow 2 (some .int) [.inr (.inr 0), .inl p] S (fun z S' => z = S 17 p + 100 ∧ S' = st2 S 0 7 (31 * (31 * S 0 7 + 2) + 1)) := by
  refine ami_intro (L := [_, _]) (by decide) (Or.inl rfl) rfl (Nat.le_of_ble_eq_true rfl) (fun X C hret => ?_)
  refine aw_aldn (n := 1) C dX6_tellWidow_0 rfl rfl ?_
  refine aw_iconst (n := 2) C dX6_tellWidow_1 rfl ?_
  refine aw_cVv (n := 5) (vs := [_]) C dX6_tellWidow_2 rfl rfl rfl mm_X6_leaveTrace wM_X6_266 rfl rfl (Nat.le_of_ble_eq_true rfl) (c_leaveTrace) (by decide) (fun S_2 q_2 => ?_)
  rw [q_2]
  clear q_2 S_2
  refine aw_aldn (n := 6) C dX6_tellWidow_5 rfl rfl ?_
  refine aw_ildn (n := 7) C dX6_tellWidow_6 rfl rfl ?_
  refine aw_cVi (n := 10) (vs := [_]) C dX6_tellWidow_7 rfl rfl rfl mm_X6_tellPassenger wM_X6_263 rfl rfl (Nat.le_of_ble_eq_true rfl) (c_tellPassenger h0 h1) (by decide) (fun z_7 S_7 q_7 => ?_)
  rw [q_7.1, q_7.2]
  clear q_7 S_7 z_7
  refine aw_bipush (n := 12) C dX6_tellWidow_10 rfl rfl ?_
  refine aw_iadd (n := 13) C dX6_tellWidow_12 rfl ?_
  refine hret 13 _ _ _ dX6_tellWidow_13 (Or.inl rfl) ?_
  exact ⟨rfl, by rw [st2_st2, st2_s]⟩
theorem c_tellHoneymooner {S : Mem} {p : Int} (h0 : 0 ≤ p) (h1 : p < 4) : AMi 3 yX6_tellHoneymooner cX6_tellHoneymooner 3 (some .int) [.inr (.inr 0), .inl p] S (fun z S' => z = S 17 p + 100 + S 17 p ∧ S' = st2 S 0 7 (31 * (31 * (31 * (31 * S 0 7 + 3) + 2) + 1) + 1)) := by
  refine ami_intro (L := [_, _, none]) (by decide) (Or.inl rfl) rfl (Nat.le_of_ble_eq_true rfl) (fun X C hret => ?_)
  refine aw_aldn (n := 1) C dX6_tellHoneymooner_0 rfl rfl ?_
  refine aw_iconst (n := 2) C dX6_tellHoneymooner_1 rfl ?_
  refine aw_cVv (n := 5) (vs := [_]) C dX6_tellHoneymooner_2 rfl rfl rfl mm_X6_leaveTrace wM_X6_266 rfl rfl (Nat.le_of_ble_eq_true rfl) (c_leaveTrace) (by decide) (fun S_2 q_2 => ?_)
  rw [q_2]
  clear q_2 S_2
  refine aw_aldn (n := 6) C dX6_tellHoneymooner_5 rfl rfl ?_
  refine aw_ildn (n := 7) C dX6_tellHoneymooner_6 rfl rfl ?_
  refine aw_cVi (n := 10) (vs := [_]) C dX6_tellHoneymooner_7 rfl rfl rfl mm_X6_tellWidow wM_X6_260 rfl rfl (Nat.le_of_ble_eq_true rfl) (c_tellWidow h0 h1) (by decide) (fun z_7 S_7 q_7 => ?_)
  rw [q_7.1, q_7.2]
  clear q_7 S_7 z_7
  refine aw_istn (n := 11) (L' := [_, _, _]) C dX6_tellHoneymooner_10 rfl (by decide) rfl rfl ?_
  refine aw_ildn (n := 12) C dX6_tellHoneymooner_11 rfl rfl ?_
  refine aw_aldn (n := 13) C dX6_tellHoneymooner_12 rfl rfl ?_
  refine aw_ildn (n := 14) C dX6_tellHoneymooner_13 rfl rfl ?_
  refine aw_cVi (n := 17) (vs := [_]) C dX6_tellHoneymooner_14 rfl rfl rfl mm_X6_tellPassenger wM_X6_263 rfl rfl (Nat.le_of_ble_eq_true rfl) (c_tellPassenger h0 h1) (by decide) (fun z_14 S_14 q_14 => ?_)
  rw [q_14.1, q_14.2]
  clear q_14 S_14 z_14
  refine aw_iadd (n := 18) C dX6_tellHoneymooner_17 rfl ?_
  refine hret 18 _ _ _ dX6_tellHoneymooner_18 (Or.inl rfl) ?_
  exact ⟨rfl, by rw [st2_st2, st2_st2, st2_s, st2_s]⟩
theorem c_noQuestion {S : Mem} {w : Int} (h : rng w) : AMi 0 yX6_noQuestionOfSeating cX6_noQuestionOfSeating 3 (some .boolean) [.inl w] S (fun z S' => z = (if (0 ≤ w ∧ w ≤ 3) ∨ (10 ≤ w ∧ w ≤ 13) then 0 else 1) ∧ S' = S) := by
  refine ami_intro (L := [_, none, none]) (by decide) (Or.inr rfl) rfl (Nat.le_of_ble_eq_true rfl) (fun X C hret => ?_)
  refine aw_ildn (n := 1) C dX6_noQuestionOfSeating_0 rfl rfl ?_
  refine aw_iflt (tgt := 13) (n := 4) C dX6_noQuestionOfSeating_1 rfl rfl (by omega) (fun h_1 => ?_) (fun h_1 => ?_)
  · refine aw_iconst (n := 14) C dX6_noQuestionOfSeating_13 rfl ?_
    refine aw_istn (n := 15) (L' := [_, _, _]) C dX6_noQuestionOfSeating_14 rfl (by decide) rfl rfl ?_
    refine aw_ildn (n := 16) C dX6_noQuestionOfSeating_15 rfl rfl ?_
    refine aw_bipush (n := 18) C dX6_noQuestionOfSeating_16 rfl rfl ?_
    refine aw_iclt (tgt := 31) (n := 21) C dX6_noQuestionOfSeating_18 rfl rfl (by omega) (by omega) (fun h_18 => ?_) (fun h_18 => ?_)
    · refine aw_iconst (n := 32) C dX6_noQuestionOfSeating_31 rfl ?_
      refine aw_istn (n := 33) (L' := [_, _, _]) C dX6_noQuestionOfSeating_32 rfl (by decide) rfl rfl ?_
      refine aw_ildn (n := 34) C dX6_noQuestionOfSeating_33 rfl rfl ?_
      refine aw_ifne (tgt := 45) (n := 37) C dX6_noQuestionOfSeating_34 rfl rfl (by omega) (fun h_34 => ?_) (fun h_34 => ?_)
      · refine aw_iconst (n := 46) C dX6_noQuestionOfSeating_45 rfl ?_
        refine hret 46 _ _ _ dX6_noQuestionOfSeating_46 (Or.inr ⟨rfl, by omega⟩) ?_
        exact ⟨by omega, rfl⟩
      · refine aw_ildn (n := 38) C dX6_noQuestionOfSeating_37 rfl rfl ?_
        refine aw_ifne (tgt := 45) (n := 41) C dX6_noQuestionOfSeating_38 rfl rfl (by omega) (fun h_38 => ?_) (fun h_38 => ?_)
        · refine aw_iconst (n := 46) C dX6_noQuestionOfSeating_45 rfl ?_
          refine hret 46 _ _ _ dX6_noQuestionOfSeating_46 (Or.inr ⟨rfl, by omega⟩) ?_
          exact ⟨by omega, rfl⟩
        · refine aw_iconst (n := 42) C dX6_noQuestionOfSeating_41 rfl ?_
          refine aw_goto (tgt := 46) C dX6_noQuestionOfSeating_42 rfl ?_
          refine hret 46 _ _ _ dX6_noQuestionOfSeating_46 (Or.inr ⟨rfl, by omega⟩) ?_
          exact ⟨by omega, rfl⟩
    · refine aw_ildn (n := 22) C dX6_noQuestionOfSeating_21 rfl rfl ?_
      refine aw_bipush (n := 24) C dX6_noQuestionOfSeating_22 rfl rfl ?_
      refine aw_icge (tgt := 31) (n := 27) C dX6_noQuestionOfSeating_24 rfl rfl (by omega) (by omega) (fun h_24 => ?_) (fun h_24 => ?_)
      · refine aw_iconst (n := 32) C dX6_noQuestionOfSeating_31 rfl ?_
        refine aw_istn (n := 33) (L' := [_, _, _]) C dX6_noQuestionOfSeating_32 rfl (by decide) rfl rfl ?_
        refine aw_ildn (n := 34) C dX6_noQuestionOfSeating_33 rfl rfl ?_
        refine aw_ifne (tgt := 45) (n := 37) C dX6_noQuestionOfSeating_34 rfl rfl (by omega) (fun h_34 => ?_) (fun h_34 => ?_)
        · refine aw_iconst (n := 46) C dX6_noQuestionOfSeating_45 rfl ?_
          refine hret 46 _ _ _ dX6_noQuestionOfSeating_46 (Or.inr ⟨rfl, by omega⟩) ?_
          exact ⟨by omega, rfl⟩
        · refine aw_ildn (n := 38) C dX6_noQuestionOfSeating_37 rfl rfl ?_
          refine aw_ifne (tgt := 45) (n := 41) C dX6_noQuestionOfSeating_38 rfl rfl (by omega) (fun h_38 => ?_) (fun h_38 => ?_)
          · refine aw_iconst (n := 46) C dX6_noQuestionOfSeating_45 rfl ?_
            refine hret 46 _ _ _ dX6_noQuestionOfSeating_46 (Or.inr ⟨rfl, by omega⟩) ?_
            exact ⟨by omega, rfl⟩
          · refine aw_iconst (n := 42) C dX6_noQuestionOfSeating_41 rfl ?_
            refine aw_goto (tgt := 46) C dX6_noQuestionOfSeating_42 rfl ?_
            refine hret 46 _ _ _ dX6_noQuestionOfSeating_46 (Or.inr ⟨rfl, by omega⟩) ?_
            exact ⟨by omega, rfl⟩
      · refine aw_iconst (n := 28) C dX6_noQuestionOfSeating_27 rfl ?_
        refine aw_goto (tgt := 32) C dX6_noQuestionOfSeating_28 rfl ?_
        refine aw_istn (n := 33) (L' := [_, _, _]) C dX6_noQuestionOfSeating_32 rfl (by decide) rfl rfl ?_
        refine aw_ildn (n := 34) C dX6_noQuestionOfSeating_33 rfl rfl ?_
        refine aw_ifne (tgt := 45) (n := 37) C dX6_noQuestionOfSeating_34 rfl rfl (by omega) (fun h_34 => ?_) (fun h_34 => ?_)
        · refine aw_iconst (n := 46) C dX6_noQuestionOfSeating_45 rfl ?_
          refine hret 46 _ _ _ dX6_noQuestionOfSeating_46 (Or.inr ⟨rfl, by omega⟩) ?_
          exact ⟨by omega, rfl⟩
        · refine aw_ildn (n := 38) C dX6_noQuestionOfSeating_37 rfl rfl ?_
          refine aw_ifne (tgt := 45) (n := 41) C dX6_noQuestionOfSeating_38 rfl rfl (by omega) (fun h_38 => ?_) (fun h_38 => ?_)
          · refine aw_iconst (n := 46) C dX6_noQuestionOfSeating_45 rfl ?_
            refine hret 46 _ _ _ dX6_noQuestionOfSeating_46 (Or.inr ⟨rfl, by omega⟩) ?_
            exact ⟨by omega, rfl⟩
          · refine aw_iconst (n := 42) C dX6_noQuestionOfSeating_41 rfl ?_
            refine aw_goto (tgt := 46) C dX6_noQuestionOfSeating_42 rfl ?_
            refine hret 46 _ _ _ dX6_noQuestionOfSeating_46 (Or.inr ⟨rfl, by omega⟩) ?_
            exact ⟨by omega, rfl⟩
  · refine aw_ildn (n := 5) C dX6_noQuestionOfSeating_4 rfl rfl ?_
    refine aw_iconst (n := 6) C dX6_noQuestionOfSeating_5 rfl ?_
    refine aw_icgt (tgt := 13) (n := 9) C dX6_noQuestionOfSeating_6 rfl rfl (by omega) (by omega) (fun h_6 => ?_) (fun h_6 => ?_)
    · refine aw_iconst (n := 14) C dX6_noQuestionOfSeating_13 rfl ?_
      refine aw_istn (n := 15) (L' := [_, _, _]) C dX6_noQuestionOfSeating_14 rfl (by decide) rfl rfl ?_
      refine aw_ildn (n := 16) C dX6_noQuestionOfSeating_15 rfl rfl ?_
      refine aw_bipush (n := 18) C dX6_noQuestionOfSeating_16 rfl rfl ?_
      refine aw_iclt (tgt := 31) (n := 21) C dX6_noQuestionOfSeating_18 rfl rfl (by omega) (by omega) (fun h_18 => ?_) (fun h_18 => ?_)
      · refine aw_iconst (n := 32) C dX6_noQuestionOfSeating_31 rfl ?_
        refine aw_istn (n := 33) (L' := [_, _, _]) C dX6_noQuestionOfSeating_32 rfl (by decide) rfl rfl ?_
        refine aw_ildn (n := 34) C dX6_noQuestionOfSeating_33 rfl rfl ?_
        refine aw_ifne (tgt := 45) (n := 37) C dX6_noQuestionOfSeating_34 rfl rfl (by omega) (fun h_34 => ?_) (fun h_34 => ?_)
        · refine aw_iconst (n := 46) C dX6_noQuestionOfSeating_45 rfl ?_
          refine hret 46 _ _ _ dX6_noQuestionOfSeating_46 (Or.inr ⟨rfl, by omega⟩) ?_
          exact ⟨by omega, rfl⟩
        · refine aw_ildn (n := 38) C dX6_noQuestionOfSeating_37 rfl rfl ?_
          refine aw_ifne (tgt := 45) (n := 41) C dX6_noQuestionOfSeating_38 rfl rfl (by omega) (fun h_38 => ?_) (fun h_38 => ?_)
          · refine aw_iconst (n := 46) C dX6_noQuestionOfSeating_45 rfl ?_
            refine hret 46 _ _ _ dX6_noQuestionOfSeating_46 (Or.inr ⟨rfl, by omega⟩) ?_
            exact ⟨by omega, rfl⟩
          · refine aw_iconst (n := 42) C dX6_noQuestionOfSeating_41 rfl ?_
            refine aw_goto (tgt := 46) C dX6_noQuestionOfSeating_42 rfl ?_
            refine hret 46 _ _ _ dX6_noQuestionOfSeating_46 (Or.inr ⟨rfl, by omega⟩) ?_
            exact ⟨by omega, rfl⟩
      · refine aw_ildn (n := 22) C dX6_noQuestionOfSeating_21 rfl rfl ?_
        refine aw_bipush (n := 24) C dX6_noQuestionOfSeating_22 rfl rfl ?_
        refine aw_icge (tgt := 31) (n := 27) C dX6_noQuestionOfSeating_24 rfl rfl (by omega) (by omega) (fun h_24 => ?_) (fun h_24 => ?_)
        · refine aw_iconst (n := 32) C dX6_noQuestionOfSeating_31 rfl ?_
          refine aw_istn (n := 33) (L' := [_, _, _]) C dX6_noQuestionOfSeating_32 rfl (by decide) rfl rfl ?_
          refine aw_ildn (n := 34) C dX6_noQuestionOfSeating_33 rfl rfl ?_
          refine aw_ifne (tgt := 45) (n := 37) C dX6_noQuestionOfSeating_34 rfl rfl (by omega) (fun h_34 => ?_) (fun h_34 => ?_)
          · refine aw_iconst (n := 46) C dX6_noQuestionOfSeating_45 rfl ?_
            refine hret 46 _ _ _ dX6_noQuestionOfSeating_46 (Or.inr ⟨rfl, by omega⟩) ?_
            exact ⟨by omega, rfl⟩
          · refine aw_ildn (n := 38) C dX6_noQuestionOfSeating_37 rfl rfl ?_
            refine aw_ifne (tgt := 45) (n := 41) C dX6_noQuestionOfSeating_38 rfl rfl (by omega) (fun h_38 => ?_) (fun h_38 => ?_)
            · refine aw_iconst (n := 46) C dX6_noQuestionOfSeating_45 rfl ?_
              refine hret 46 _ _ _ dX6_noQuestionOfSeating_46 (Or.inr ⟨rfl, by omega⟩) ?_
              exact ⟨by omega, rfl⟩
            · refine aw_iconst (n := 42) C dX6_noQuestionOfSeating_41 rfl ?_
              refine aw_goto (tgt := 46) C dX6_noQuestionOfSeating_42 rfl ?_
              refine hret 46 _ _ _ dX6_noQuestionOfSeating_46 (Or.inr ⟨rfl, by omega⟩) ?_
              exact ⟨by omega, rfl⟩
        · refine aw_iconst (n := 28) C dX6_noQuestionOfSeating_27 rfl ?_
          refine aw_goto (tgt := 32) C dX6_noQuestionOfSeating_28 rfl ?_
          refine aw_istn (n := 33) (L' := [_, _, _]) C dX6_noQuestionOfSeating_32 rfl (by decide) rfl rfl ?_
          refine aw_ildn (n := 34) C dX6_noQuestionOfSeating_33 rfl rfl ?_
          refine aw_ifne (tgt := 45) (n := 37) C dX6_noQuestionOfSeating_34 rfl rfl (by omega) (fun h_34 => ?_) (fun h_34 => ?_)
          · refine aw_iconst (n := 46) C dX6_noQuestionOfSeating_45 rfl ?_
            refine hret 46 _ _ _ dX6_noQuestionOfSeating_46 (Or.inr ⟨rfl, by omega⟩) ?_
            exact ⟨by omega, rfl⟩
          · refine aw_ildn (n := 38) C dX6_noQuestionOfSeating_37 rfl rfl ?_
            refine aw_ifne (tgt := 45) (n := 41) C dX6_noQuestionOfSeating_38 rfl rfl (by omega) (fun h_38 => ?_) (fun h_38 => ?_)
            · refine aw_iconst (n := 46) C dX6_noQuestionOfSeating_45 rfl ?_
              refine hret 46 _ _ _ dX6_noQuestionOfSeating_46 (Or.inr ⟨rfl, by omega⟩) ?_
              exact ⟨by omega, rfl⟩
            · refine aw_iconst (n := 42) C dX6_noQuestionOfSeating_41 rfl ?_
              refine aw_goto (tgt := 46) C dX6_noQuestionOfSeating_42 rfl ?_
              refine hret 46 _ _ _ dX6_noQuestionOfSeating_46 (Or.inr ⟨rfl, by omega⟩) ?_
              exact ⟨by omega, rfl⟩
    · refine aw_iconst (n := 10) C dX6_noQuestionOfSeating_9 rfl ?_
      refine aw_goto (tgt := 14) C dX6_noQuestionOfSeating_10 rfl ?_
      refine aw_istn (n := 15) (L' := [_, _, _]) C dX6_noQuestionOfSeating_14 rfl (by decide) rfl rfl ?_
      refine aw_ildn (n := 16) C dX6_noQuestionOfSeating_15 rfl rfl ?_
      refine aw_bipush (n := 18) C dX6_noQuestionOfSeating_16 rfl rfl ?_
      refine aw_iclt (tgt := 31) (n := 21) C dX6_noQuestionOfSeating_18 rfl rfl (by omega) (by omega) (fun h_18 => ?_) (fun h_18 => ?_)
      · refine aw_iconst (n := 32) C dX6_noQuestionOfSeating_31 rfl ?_
        refine aw_istn (n := 33) (L' := [_, _, _]) C dX6_noQuestionOfSeating_32 rfl (by decide) rfl rfl ?_
        refine aw_ildn (n := 34) C dX6_noQuestionOfSeating_33 rfl rfl ?_
        refine aw_ifne (tgt := 45) (n := 37) C dX6_noQuestionOfSeating_34 rfl rfl (by omega) (fun h_34 => ?_) (fun h_34 => ?_)
        · refine aw_iconst (n := 46) C dX6_noQuestionOfSeating_45 rfl ?_
          refine hret 46 _ _ _ dX6_noQuestionOfSeating_46 (Or.inr ⟨rfl, by omega⟩) ?_
          exact ⟨by omega, rfl⟩
        · refine aw_ildn (n := 38) C dX6_noQuestionOfSeating_37 rfl rfl ?_
          refine aw_ifne (tgt := 45) (n := 41) C dX6_noQuestionOfSeating_38 rfl rfl (by omega) (fun h_38 => ?_) (fun h_38 => ?_)
          · refine aw_iconst (n := 46) C dX6_noQuestionOfSeating_45 rfl ?_
            refine hret 46 _ _ _ dX6_noQuestionOfSeating_46 (Or.inr ⟨rfl, by omega⟩) ?_
            exact ⟨by omega, rfl⟩
          · refine aw_iconst (n := 42) C dX6_noQuestionOfSeating_41 rfl ?_
            refine aw_goto (tgt := 46) C dX6_noQuestionOfSeating_42 rfl ?_
            refine hret 46 _ _ _ dX6_noQuestionOfSeating_46 (Or.inr ⟨rfl, by omega⟩) ?_
            exact ⟨by omega, rfl⟩
      · refine aw_ildn (n := 22) C dX6_noQuestionOfSeating_21 rfl rfl ?_
        refine aw_bipush (n := 24) C dX6_noQuestionOfSeating_22 rfl rfl ?_
        refine aw_icge (tgt := 31) (n := 27) C dX6_noQuestionOfSeating_24 rfl rfl (by omega) (by omega) (fun h_24 => ?_) (fun h_24 => ?_)
        · refine aw_iconst (n := 32) C dX6_noQuestionOfSeating_31 rfl ?_
          refine aw_istn (n := 33) (L' := [_, _, _]) C dX6_noQuestionOfSeating_32 rfl (by decide) rfl rfl ?_
          refine aw_ildn (n := 34) C dX6_noQuestionOfSeating_33 rfl rfl ?_
          refine aw_ifne (tgt := 45) (n := 37) C dX6_noQuestionOfSeating_34 rfl rfl (by omega) (fun h_34 => ?_) (fun h_34 => ?_)
          · refine aw_iconst (n := 46) C dX6_noQuestionOfSeating_45 rfl ?_
            refine hret 46 _ _ _ dX6_noQuestionOfSeating_46 (Or.inr ⟨rfl, by omega⟩) ?_
            exact ⟨by omega, rfl⟩
          · refine aw_ildn (n := 38) C dX6_noQuestionOfSeating_37 rfl rfl ?_
            refine aw_ifne (tgt := 45) (n := 41) C dX6_noQuestionOfSeating_38 rfl rfl (by omega) (fun h_38 => ?_) (fun h_38 => ?_)
            · refine aw_iconst (n := 46) C dX6_noQuestionOfSeating_45 rfl ?_
              refine hret 46 _ _ _ dX6_noQuestionOfSeating_46 (Or.inr ⟨rfl, by omega⟩) ?_
              exact ⟨by omega, rfl⟩
            · refine aw_iconst (n := 42) C dX6_noQuestionOfSeating_41 rfl ?_
              refine aw_goto (tgt := 46) C dX6_noQuestionOfSeating_42 rfl ?_
              refine hret 46 _ _ _ dX6_noQuestionOfSeating_46 (Or.inr ⟨rfl, by omega⟩) ?_
              exact ⟨by omega, rfl⟩
        · refine aw_iconst (n := 28) C dX6_noQuestionOfSeating_27 rfl ?_
          refine aw_goto (tgt := 32) C dX6_noQuestionOfSeating_28 rfl ?_
          refine aw_istn (n := 33) (L' := [_, _, _]) C dX6_noQuestionOfSeating_32 rfl (by decide) rfl rfl ?_
          refine aw_ildn (n := 34) C dX6_noQuestionOfSeating_33 rfl rfl ?_
          refine aw_ifne (tgt := 45) (n := 37) C dX6_noQuestionOfSeating_34 rfl rfl (by omega) (fun h_34 => ?_) (fun h_34 => ?_)
          · refine aw_iconst (n := 46) C dX6_noQuestionOfSeating_45 rfl ?_
            refine hret 46 _ _ _ dX6_noQuestionOfSeating_46 (Or.inr ⟨rfl, by omega⟩) ?_
            exact ⟨by omega, rfl⟩
          · refine aw_ildn (n := 38) C dX6_noQuestionOfSeating_37 rfl rfl ?_
            refine aw_ifne (tgt := 45) (n := 41) C dX6_noQuestionOfSeating_38 rfl rfl (by omega) (fun h_38 => ?_) (fun h_38 => ?_)
            · refine aw_iconst (n := 46) C dX6_noQuestionOfSeating_45 rfl ?_
              refine hret 46 _ _ _ dX6_noQuestionOfSeating_46 (Or.inr ⟨rfl, by omega⟩) ?_
              exact ⟨by omega, rfl⟩
            · refine aw_iconst (n := 42) C dX6_noQuestionOfSeating_41 rfl ?_
              refine aw_goto (tgt := 46) C dX6_noQuestionOfSeating_42 rfl ?_
              refine hret 46 _ _ _ dX6_noQuestionOfSeating_46 (Or.inr ⟨rfl, by omega⟩) ?_
              exact ⟨by omega, rfl⟩
/-- the line has been ridden anew, and what is least must be sought anew -/
def RA (S S' : Mem) : Prop := (∀ c, c ≠ 0 → c < 19 ∨ 28 ≤ c → S' c = S c) ∧ (S' 0 = st2 S 0 6 0 0) ∧ ∀ m : Nat, (m : Int) ≤ S 10 8 → ∀ p, 0 ≤ p → p < S 10 9 → S' (19 + m) p = rg (S 15) (S 17) (S 16) (S 12) (S 13) (S 14) m p
theorem c_rideAnew {S : Mem} (T : TW 10 S) : AMv 5 yX6_rideAnew cX6_rideAnew 1 [.inr (.inr 0)] S (RA S) := by
  refine amv_intro (L := [_]) (by decide) rfl (Nat.le_of_ble_eq_true rfl) (fun X C hret => ?_)
  refine aw_aldn (n := 1) C dX6_rideAnew_0 rfl rfl ?_
  refine aw_getR (n := 4) C dX6_rideAnew_1 rfl fl_X6_21 rfl rfl ?_
  refine aw_cVv (n := 7) (vs := []) C dX6_rideAnew_4 rfl rfl rfl mm_X5_rideAll wM_X6_211 rfl rfl (Nat.le_of_ble_eq_true rfl) (c_rideAll10 T) (by decide) (fun S_4 q_4 => ?_)
  obtain ⟨g1, g2⟩ := q_4
  refine aw_aldn (n := 8) C dX6_rideAnew_7 rfl rfl ?_
  refine aw_iconst (n := 9) C dX6_rideAnew_8 rfl ?_
  refine aw_put (z := 6) (n := 12) C dX6_rideAnew_9 rfl fp_X6_51 rfl rfl rfl (Or.inr ⟨rfl, by omega⟩) ?_
  refine hret 12 _ _ dX6_rideAnew_12 ?_
  refine ⟨fun c c0 c1 => ?_, ?_, fun m hm p p0 p1 => ?_⟩
  · rw [st2_o c c0, g1 c c1]
  · funext x
    unfold st2
    rw [g1 0 (by omega)]
  · rw [st2_c (by omega)]
    exact g2 m hm p p0 p1
