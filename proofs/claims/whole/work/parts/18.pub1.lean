/-! RegretLine: plain calls -/
theorem x_ofPassenger {S : Mem} {p w : Int} (hp : rng p) (hw : rng w) (h9 : 0 ≤ S 10 9 ∧ S 10 9 ≤ 4) : AMi 1 yX6_ofPassenger cX6_ofPassenger 3 (some .int) [.inr (.inr 0), .inl p, .inl w] S (fun z S' => z = (if p < 0 ∨ S 10 9 ≤ p then -1 else if w = 0 then S 15 p else if w = 1 then S 16 p else if w = 2 then S 17 p else -2) ∧ S' = S) := by
  refine ami_intro (L := [_, _, _]) (by decide) (Or.inl rfl) rfl (Nat.le_of_ble_eq_true rfl) (fun X C hret => ?_)
  refine aw_aldn (n := 1) C dX6_ofPassenger_0 rfl rfl ?_
  refine aw_ildn (n := 2) C dX6_ofPassenger_1 rfl rfl ?_
  refine aw_cVi (n := 5) (vs := [_]) C dX6_ofPassenger_2 rfl rfl rfl mm_X6_noPassenger wM_X6_96 rfl rfl (Nat.le_of_ble_eq_true rfl) (c_noPassenger hp (by omega)) (by decide) (fun z_2 S_2 q_2 => ?_)
  rw [q_2.1, q_2.2]
  clear q_2 S_2 z_2
  refine aw_ifeq (tgt := 10) (n := 8) C dX6_ofPassenger_5 rfl rfl (by omega) (fun h_5 => ?_) (fun h_5 => ?_)
  · refine aw_ildn (n := 11) C dX6_ofPassenger_10 rfl rfl ?_
    by_cases e1 : w = 0
    · refine aw_tableIn (tgt := 36) (off := 25) C dX6_ofPassenger_11 hw (by omega) (by omega) (by rw [e1]; rfl) rfl ?_
      refine aw_aldn (n := 37) C dX6_ofPassenger_36 rfl rfl ?_
      refine aw_getR (n := 40) C dX6_ofPassenger_37 rfl fl_X6_21 rfl rfl ?_
      refine aw_getR (n := 43) C dX6_ofPassenger_40 rfl fl_X6_99 rfl rfl ?_
      refine aw_ildn (n := 44) C dX6_ofPassenger_43 rfl rfl ?_
      refine aw_iald (n := 45) C dX6_ofPassenger_44 rfl rfl (by omega) (by omega) ?_
      refine hret 45 _ _ _ dX6_ofPassenger_45 (Or.inl rfl) ?_
      exact ⟨by omega, rfl⟩
    by_cases e2 : w = 1
    · refine aw_tableIn (tgt := 46) (off := 35) C dX6_ofPassenger_11 hw (by omega) (by omega) (by rw [e2]; rfl) rfl ?_
      refine aw_aldn (n := 47) C dX6_ofPassenger_46 rfl rfl ?_
      refine aw_getR (n := 50) C dX6_ofPassenger_47 rfl fl_X6_21 rfl rfl ?_
      refine aw_getR (n := 53) C dX6_ofPassenger_50 rfl fl_X6_102 rfl rfl ?_
      refine aw_ildn (n := 54) C dX6_ofPassenger_53 rfl rfl ?_
      refine aw_iald (n := 55) C dX6_ofPassenger_54 rfl rfl (by omega) (by omega) ?_
      refine hret 55 _ _ _ dX6_ofPassenger_55 (Or.inl rfl) ?_
      exact ⟨by omega, rfl⟩
    by_cases e3 : w = 2
    · refine aw_tableIn (tgt := 56) (off := 45) C dX6_ofPassenger_11 hw (by omega) (by omega) (by rw [e3]; rfl) rfl ?_
      refine aw_aldn (n := 57) C dX6_ofPassenger_56 rfl rfl ?_
      refine aw_getR (n := 60) C dX6_ofPassenger_57 rfl fl_X6_21 rfl rfl ?_
      refine aw_getR (n := 63) C dX6_ofPassenger_60 rfl fl_X6_105 rfl rfl ?_
      refine aw_ildn (n := 64) C dX6_ofPassenger_63 rfl rfl ?_
      refine aw_iald (n := 65) C dX6_ofPassenger_64 rfl rfl (by omega) (by omega) ?_
      refine hret 65 _ _ _ dX6_ofPassenger_65 (Or.inl rfl) ?_
      exact ⟨by omega, rfl⟩
    refine aw_tableOut (tgt := 66) C dX6_ofPassenger_11 hw (by omega) rfl ?_
    refine aw_bipush (n := 68) C dX6_ofPassenger_66 rfl rfl ?_
    refine hret 68 _ _ _ dX6_ofPassenger_68 (Or.inl rfl) ?_
    exact ⟨by omega, rfl⟩
  · refine aw_iconst (n := 9) C dX6_ofPassenger_8 rfl ?_
    refine hret 9 _ _ _ dX6_ofPassenger_9 (Or.inl rfl) ?_
    exact ⟨by omega, rfl⟩
theorem x_seats {S : Mem} {c v : Int} (hc : rng c) (hv : rng v) (h8 : 0 ≤ S 10 8 ∧ S 10 8 ≤ 8) : AMi 1 yX6_seats cX6_seats 4 (some .int) [.inr (.inr 0), .inl c, .inl v] S (fun z S' => z = (if S 10 8 = 0 then -3 else if c < 0 ∨ 3 ≤ c ∨ v < 0 ∨ 4 < v then -2 else S 11 c) ∧ S' = (if S 10 8 = 0 ∨ c < 0 ∨ 3 ≤ c ∨ v < 0 ∨ 4 < v then S else st2 (st2 S 11 c v) 0 6 0)) := by
  refine ami_intro (L := [_, _, _, none]) (by decide) (Or.inl rfl) rfl (Nat.le_of_ble_eq_true rfl) (fun X C hret => ?_)
  refine aw_aldn (n := 1) C dX6_seats_0 rfl rfl ?_
  refine aw_cVi (n := 4) (vs := []) C dX6_seats_1 rfl rfl rfl mm_X6_noLine wM_X6_108 rfl rfl (Nat.le_of_ble_eq_true rfl) (c_noLine (by omega)) (by decide) (fun z_1 S_1 q_1 => ?_)
  rw [q_1.1, q_1.2]
  clear q_1 S_1 z_1
  refine aw_ifeq (tgt := 10) (n := 7) C dX6_seats_4 rfl rfl (by omega) (fun h_4 => ?_) (fun h_4 => ?_)
  · refine aw_ildn (n := 11) C dX6_seats_10 rfl rfl ?_
    refine aw_cSi (n := 14) (vs := [_]) C dX6_seats_11 rfl rfl rfl mm_X6_noClass wM_X6_112 (Nat.le_of_ble_eq_true rfl) (c_noClass hc) (by decide) (fun z_11 S_11 q_11 => ?_)
    rw [q_11.1, q_11.2]
    clear q_11 S_11 z_11
    refine aw_ifne (tgt := 26) (n := 17) C dX6_seats_14 rfl rfl (by omega) (fun h_14 => ?_) (fun h_14 => ?_)
    · refine aw_bipush (n := 28) C dX6_seats_26 rfl rfl ?_
      refine hret 28 _ _ _ dX6_seats_28 (Or.inl rfl) ?_
      exact ⟨by omega, by first | rw [if_pos (by omega)] | rw [if_neg (by omega)]⟩
    · refine aw_ildn (n := 18) C dX6_seats_17 rfl rfl ?_
      refine aw_iflt (tgt := 26) (n := 21) C dX6_seats_18 rfl rfl (by omega) (fun h_18 => ?_) (fun h_18 => ?_)
      · refine aw_bipush (n := 28) C dX6_seats_26 rfl rfl ?_
        refine hret 28 _ _ _ dX6_seats_28 (Or.inl rfl) ?_
        exact ⟨by omega, by first | rw [if_pos (by omega)] | rw [if_neg (by omega)]⟩
      · refine aw_ildn (n := 22) C dX6_seats_21 rfl rfl ?_
        refine aw_iconst (n := 23) C dX6_seats_22 rfl ?_
        refine aw_icle (tgt := 29) (n := 26) C dX6_seats_23 rfl rfl (by omega) (by omega) (fun h_23 => ?_) (fun h_23 => ?_)
        · refine aw_aldn (n := 30) C dX6_seats_29 rfl rfl ?_
          refine aw_getR (n := 33) C dX6_seats_30 rfl fl_X6_21 rfl rfl ?_
          refine aw_getR (n := 36) C dX6_seats_33 rfl fl_X6_115 rfl rfl ?_
          refine aw_ildn (n := 37) C dX6_seats_36 rfl rfl ?_
          refine aw_iald (n := 38) C dX6_seats_37 rfl rfl (by omega) (by omega) ?_
          refine aw_istn (n := 39) (L' := [_, _, _, _]) C dX6_seats_38 rfl (by decide) rfl rfl ?_
          refine aw_aldn (n := 40) C dX6_seats_39 rfl rfl ?_
          refine aw_getR (n := 43) C dX6_seats_40 rfl fl_X6_21 rfl rfl ?_
          refine aw_getR (n := 46) C dX6_seats_43 rfl fl_X6_115 rfl rfl ?_
          refine aw_ildn (n := 47) C dX6_seats_46 rfl rfl ?_
          refine aw_ildn (n := 48) C dX6_seats_47 rfl rfl ?_
          refine aw_iast (n := 49) C dX6_seats_48 rfl rfl (by omega) (by omega) ?_
          refine aw_aldn (n := 50) C dX6_seats_49 rfl rfl ?_
          refine aw_iconst (n := 51) C dX6_seats_50 rfl ?_
          refine aw_put (z := 6) (n := 54) C dX6_seats_51 rfl fp_X6_51 rfl rfl rfl (Or.inr ⟨rfl, by omega⟩) ?_
          refine aw_ildn (n := 55) C dX6_seats_54 rfl rfl ?_
          refine hret 55 _ _ _ dX6_seats_55 (Or.inl rfl) ?_
          exact ⟨by omega, by first | rw [if_pos (by omega)] | rw [if_neg (by omega)]⟩
        · refine aw_bipush (n := 28) C dX6_seats_26 rfl rfl ?_
          refine hret 28 _ _ _ dX6_seats_28 (Or.inl rfl) ?_
          exact ⟨by omega, by first | rw [if_pos (by omega)] | rw [if_neg (by omega)]⟩
  · refine aw_bipush (n := 9) C dX6_seats_7 rfl rfl ?_
    refine hret 9 _ _ _ dX6_seats_9 (Or.inl rfl) ?_
    exact ⟨by omega, by first | rw [if_pos (by omega)] | rw [if_neg (by omega)]⟩
theorem x_limits {S : Mem} {a b : Int} (ha : rng a) (hb : rng b) (h8 : 0 ≤ S 10 8 ∧ S 10 8 ≤ 8) : AMi 1 yX6_limits cX6_limits 4 (some .int) [.inr (.inr 0), .inl a, .inl b] S (fun z S' => z = (if S 10 8 = 0 then -3 else if a < 0 ∨ b < a ∨ 99 < b then -2 else 100 * S 10 10 + S 10 11) ∧ S' = (if S 10 8 = 0 ∨ a < 0 ∨ b < a ∨ 99 < b then S else st2 (st2 (st2 S 10 10 a) 10 11 b) 0 6 0)) := by
  refine ami_intro (L := [_, _, _, none]) (by decide) (Or.inl rfl) rfl (Nat.le_of_ble_eq_true rfl) (fun X C hret => ?_)
  refine aw_aldn (n := 1) C dX6_limits_0 rfl rfl ?_
  refine aw_cVi (n := 4) (vs := []) C dX6_limits_1 rfl rfl rfl mm_X6_noLine wM_X6_108 rfl rfl (Nat.le_of_ble_eq_true rfl) (c_noLine (by omega)) (by decide) (fun z_1 S_1 q_1 => ?_)
  rw [q_1.1, q_1.2]
  clear q_1 S_1 z_1
  refine aw_ifeq (tgt := 10) (n := 7) C dX6_limits_4 rfl rfl (by omega) (fun h_4 => ?_) (fun h_4 => ?_)
  · refine aw_ildn (n := 11) C dX6_limits_10 rfl rfl ?_
    refine aw_iflt (tgt := 25) (n := 14) C dX6_limits_11 rfl rfl (by omega) (fun h_11 => ?_) (fun h_11 => ?_)
    · refine aw_bipush (n := 27) C dX6_limits_25 rfl rfl ?_
      refine hret 27 _ _ _ dX6_limits_27 (Or.inl rfl) ?_
      exact ⟨by omega, by first | rw [if_pos (by omega)] | rw [if_neg (by omega)]⟩
    · refine aw_ildn (n := 15) C dX6_limits_14 rfl rfl ?_
      refine aw_ildn (n := 16) C dX6_limits_15 rfl rfl ?_
      refine aw_icgt (tgt := 25) (n := 19) C dX6_limits_16 rfl rfl (by omega) (by omega) (fun h_16 => ?_) (fun h_16 => ?_)
      · refine aw_bipush (n := 27) C dX6_limits_25 rfl rfl ?_
        refine hret 27 _ _ _ dX6_limits_27 (Or.inl rfl) ?_
        exact ⟨by omega, by first | rw [if_pos (by omega)] | rw [if_neg (by omega)]⟩
      · refine aw_ildn (n := 20) C dX6_limits_19 rfl rfl ?_
        refine aw_bipush (n := 22) C dX6_limits_20 rfl rfl ?_
        refine aw_icle (tgt := 28) (n := 25) C dX6_limits_22 rfl rfl (by omega) (by omega) (fun h_22 => ?_) (fun h_22 => ?_)
        · refine aw_bipush (n := 30) C dX6_limits_28 rfl rfl ?_
          refine aw_aldn (n := 31) C dX6_limits_30 rfl rfl ?_
          refine aw_getR (n := 34) C dX6_limits_31 rfl fl_X6_21 rfl rfl ?_
          refine aw_getI (z := 10) (n := 37) C dX6_limits_34 rfl fl_X6_118 rfl rfl rfl ?_
          refine aw_imul (n := 38) C dX6_limits_37 rfl ?_
          refine aw_aldn (n := 39) C dX6_limits_38 rfl rfl ?_
          refine aw_getR (n := 42) C dX6_limits_39 rfl fl_X6_21 rfl rfl ?_
          refine aw_getI (z := 11) (n := 45) C dX6_limits_42 rfl fl_X6_121 rfl rfl rfl ?_
          refine aw_iadd (n := 46) C dX6_limits_45 rfl ?_
          refine aw_istn (n := 47) (L' := [_, _, _, _]) C dX6_limits_46 rfl (by decide) rfl rfl ?_
          refine aw_aldn (n := 48) C dX6_limits_47 rfl rfl ?_
          refine aw_getR (n := 51) C dX6_limits_48 rfl fl_X6_21 rfl rfl ?_
          refine aw_ildn (n := 52) C dX6_limits_51 rfl rfl ?_
          refine aw_put (z := 10) (n := 55) C dX6_limits_52 rfl fp_X6_118 rfl rfl rfl (Or.inl rfl) ?_
          refine aw_aldn (n := 56) C dX6_limits_55 rfl rfl ?_
          refine aw_getR (n := 59) C dX6_limits_56 rfl fl_X6_21 rfl rfl ?_
          refine aw_ildn (n := 60) C dX6_limits_59 rfl rfl ?_
          refine aw_put (z := 11) (n := 63) C dX6_limits_60 rfl fp_X6_121 rfl rfl rfl (Or.inl rfl) ?_
          refine aw_aldn (n := 64) C dX6_limits_63 rfl rfl ?_
          refine aw_iconst (n := 65) C dX6_limits_64 rfl ?_
          refine aw_put (z := 6) (n := 68) C dX6_limits_65 rfl fp_X6_51 rfl rfl rfl (Or.inr ⟨rfl, by omega⟩) ?_
          refine aw_ildn (n := 69) C dX6_limits_68 rfl rfl ?_
          refine hret 69 _ _ _ dX6_limits_69 (Or.inl rfl) ?_
          exact ⟨by omega, by first | rw [if_pos (by omega)] | rw [if_neg (by omega)]⟩
        · refine aw_bipush (n := 27) C dX6_limits_25 rfl rfl ?_
          refine hret 27 _ _ _ dX6_limits_27 (Or.inl rfl) ?_
          exact ⟨by omega, by first | rw [if_pos (by omega)] | rw [if_neg (by omega)]⟩
  · refine aw_bipush (n := 9) C dX6_limits_7 rfl rfl ?_
    refine hret 9 _ _ _ dX6_limits_9 (Or.inl rfl) ?_
    exact ⟨by omega, by first | rw [if_pos (by omega)] | rw [if_neg (by omega)]⟩
theorem x_regret {S : Mem} {p m : Int} (hp : rng p) (hm : rng m) (h8 : 0 ≤ S 10 8 ∧ S 10 8 ≤ 8) (h9 : 0 ≤ S 10 9 ∧ S 10 9 ≤ 4) : AMi 1 yX6_regret cX6_regret 3 (some .int) [.inr (.inr 0), .inl p, .inl m] S (fun z S' => z = (if p < 0 ∨ S 10 9 ≤ p then -1 else if m < 0 ∨ S 10 8 < m then -2 else S (19 + m.toNat) p) ∧ S' = S) := by
  refine ami_intro (L := [_, _, _]) (by decide) (Or.inl rfl) rfl (Nat.le_of_ble_eq_true rfl) (fun X C hret => ?_)
  refine aw_aldn (n := 1) C dX6_regret_0 rfl rfl ?_
  refine aw_ildn (n := 2) C dX6_regret_1 rfl rfl ?_
  refine aw_cVi (n := 5) (vs := [_]) C dX6_regret_2 rfl rfl rfl mm_X6_noPassenger wM_X6_96 rfl rfl (Nat.le_of_ble_eq_true rfl) (c_noPassenger hp (by omega)) (by decide) (fun z_2 S_2 q_2 => ?_)
  rw [q_2.1, q_2.2]
  clear q_2 S_2 z_2
  refine aw_ifeq (tgt := 10) (n := 8) C dX6_regret_5 rfl rfl (by omega) (fun h_5 => ?_) (fun h_5 => ?_)
  · refine aw_aldn (n := 11) C dX6_regret_10 rfl rfl ?_
    refine aw_ildn (n := 12) C dX6_regret_11 rfl rfl ?_
    refine aw_cVi (n := 15) (vs := [_]) C dX6_regret_12 rfl rfl rfl mm_X6_noMileNorEnd wM_X6_141 rfl rfl (Nat.le_of_ble_eq_true rfl) (c_noMileNorEnd hm (by omega)) (by decide) (fun z_12 S_12 q_12 => ?_)
    rw [q_12.1, q_12.2]
    clear q_12 S_12 z_12
    refine aw_ifeq (tgt := 23) (n := 18) C dX6_regret_15 rfl rfl (by omega) (fun h_15 => ?_) (fun h_15 => ?_)
    · refine aw_aldn (n := 24) C dX6_regret_23 rfl rfl ?_
      refine aw_getR (n := 27) C dX6_regret_24 rfl fl_X6_21 rfl rfl ?_
      refine aw_ildn (n := 28) C dX6_regret_27 rfl rfl ?_
      refine aw_ildn (n := 29) C dX6_regret_28 rfl rfl ?_
      obtain ⟨w, rfl⟩ : ∃ w : Nat, m = w := ⟨m.toNat, by omega⟩
      refine aw_cVi (n := 32) (vs := [_, _]) C dX6_regret_29 rfl rfl rfl mm_X5_regretAhead wM_X6_144 rfl rfl (Nat.le_of_ble_eq_true rfl) (c_regretAhead10 (m := w) (by omega) (by omega) (by omega)) (by decide) (fun z_29 S_29 q_29 => ?_)
      rw [q_29.1, q_29.2]
      clear q_29 S_29 z_29
      refine hret 32 _ _ _ dX6_regret_32 (Or.inl rfl) ?_
      first | exact ⟨by rw [if_neg (by omega), if_neg (by omega), Int.toNat_natCast], rfl⟩ | exact ⟨by rw [if_neg (by omega), if_pos (by omega)], rfl⟩
    · refine aw_bipush (n := 20) C dX6_regret_18 rfl rfl ?_
      refine aw_goto (tgt := 32) C dX6_regret_20 rfl ?_
      refine hret 32 _ _ _ dX6_regret_32 (Or.inl rfl) ?_
      first | exact ⟨by rw [if_neg (by omega), if_neg (by omega), Int.toNat_natCast], rfl⟩ | exact ⟨by rw [if_neg (by omega), if_pos (by omega)], rfl⟩
  · refine aw_iconst (n := 9) C dX6_regret_8 rfl ?_
    refine hret 9 _ _ _ dX6_regret_9 (Or.inl rfl) ?_
    exact ⟨by rw [if_pos (by omega)], rfl⟩
theorem x_due {S : Mem} {p m : Int} (hp : rng p) (hm : rng m) (h8 : 0 ≤ S 10 8 ∧ S 10 8 ≤ 8) (h9 : 0 ≤ S 10 9 ∧ S 10 9 ≤ 4) (hl1 : rng (S 10 10)) (hl2 : rng (S 10 11)) (hr : ∀ m : Nat, (m : Int) ≤ S 10 8 → ∀ p, 0 ≤ p → p < S 10 9 → rng (S (19 + m) p)) : AMi 1 yX6_due cX6_due 3 (some .int) [.inr (.inr 0), .inl p, .inl m] S (fun z S' => z = (if p < 0 ∨ S 10 9 ≤ p then -1 else if m < 0 ∨ S 10 8 < m then -2 else due (S 10 10) (S 10 11) (S (19 + m.toNat) p)) ∧ S' = S) := by
  refine ami_intro (L := [_, _, _]) (by decide) (Or.inl rfl) rfl (Nat.le_of_ble_eq_true rfl) (fun X C hret => ?_)
  refine aw_aldn (n := 1) C dX6_due_0 rfl rfl ?_
  refine aw_ildn (n := 2) C dX6_due_1 rfl rfl ?_
  refine aw_cVi (n := 5) (vs := [_]) C dX6_due_2 rfl rfl rfl mm_X6_noPassenger wM_X6_96 rfl rfl (Nat.le_of_ble_eq_true rfl) (c_noPassenger hp (by omega)) (by decide) (fun z_2 S_2 q_2 => ?_)
  rw [q_2.1, q_2.2]
  clear q_2 S_2 z_2
  refine aw_ifeq (tgt := 10) (n := 8) C dX6_due_5 rfl rfl (by omega) (fun h_5 => ?_) (fun h_5 => ?_)
  · refine aw_aldn (n := 11) C dX6_due_10 rfl rfl ?_
    refine aw_ildn (n := 12) C dX6_due_11 rfl rfl ?_
    refine aw_cVi (n := 15) (vs := [_]) C dX6_due_12 rfl rfl rfl mm_X6_noMileNorEnd wM_X6_141 rfl rfl (Nat.le_of_ble_eq_true rfl) (c_noMileNorEnd hm (by omega)) (by decide) (fun z_12 S_12 q_12 => ?_)
    rw [q_12.1, q_12.2]
    clear q_12 S_12 z_12
    refine aw_ifeq (tgt := 23) (n := 18) C dX6_due_15 rfl rfl (by omega) (fun h_15 => ?_) (fun h_15 => ?_)
    · refine aw_aldn (n := 24) C dX6_due_23 rfl rfl ?_
      refine aw_getR (n := 27) C dX6_due_24 rfl fl_X6_21 rfl rfl ?_
      refine aw_ildn (n := 28) C dX6_due_27 rfl rfl ?_
      refine aw_ildn (n := 29) C dX6_due_28 rfl rfl ?_
      obtain ⟨w, rfl⟩ : ∃ w : Nat, m = w := ⟨m.toNat, by omega⟩
      refine aw_cVi (n := 32) (vs := [_, _]) C dX6_due_29 rfl rfl rfl mm_X5_classDue wM_X6_148 rfl rfl (Nat.le_of_ble_eq_true rfl) (c_classDue10 (m := w) (by omega) (by omega) (by omega) (hr w (by omega) p (by omega) (by omega)) hl1 hl2) (by decide) (fun z_29 S_29 q_29 => ?_)
      rw [q_29.1, q_29.2]
      clear q_29 S_29 z_29
      refine hret 32 _ _ _ dX6_due_32 (Or.inl rfl) ?_
      first | exact ⟨by rw [if_neg (by omega), if_neg (by omega), Int.toNat_natCast], rfl⟩ | exact ⟨by rw [if_neg (by omega), if_pos (by omega)], rfl⟩
    · refine aw_bipush (n := 20) C dX6_due_18 rfl rfl ?_
      refine aw_goto (tgt := 32) C dX6_due_20 rfl ?_
      refine hret 32 _ _ _ dX6_due_32 (Or.inl rfl) ?_
      first | exact ⟨by rw [if_neg (by omega), if_neg (by omega), Int.toNat_natCast], rfl⟩ | exact ⟨by rw [if_neg (by omega), if_pos (by omega)], rfl⟩
  · refine aw_iconst (n := 9) C dX6_due_8 rfl ?_
    refine hret 9 _ _ _ dX6_due_9 (Or.inl rfl) ?_
    exact ⟨by rw [if_pos (by omega)], rfl⟩
theorem x_reading {S : Mem} {p m c : Int} (hp : rng p) (hm : rng m) (hc : rng c) (h8 : 0 ≤ S 10 8 ∧ S 10 8 ≤ 8) (h9 : 0 ≤ S 10 9 ∧ S 10 9 ≤ 4) (hn : 0 ≤ S 46 3 ∧ S 46 3 ≤ 8) : AMi 1 yX6_reading cX6_reading 4 (some .int) [.inr (.inr 0), .inl p, .inl m, .inl c] S (fun z S' => z = (if p < 0 ∨ S 10 9 ≤ p then -1 else if m < 0 ∨ S 10 8 < m ∨ c < 0 ∨ 3 ≤ c then -2 else if 8 ≤ S 46 3 then -4 else S 46 3) ∧ S' = (if p < 0 ∨ S 10 9 ≤ p ∨ m < 0 ∨ S 10 8 < m ∨ c < 0 ∨ 3 ≤ c ∨ 8 ≤ S 46 3 then S else st2 (st2 (st2 (st2 S 47 (S 46 3) p) 48 (S 46 3) m) 49 (S 46 3) c) 46 3 (S 46 3 + 1))) := by
  refine ami_intro (L := [_, _, _, _]) (by decide) (Or.inl rfl) rfl (Nat.le_of_ble_eq_true rfl) (fun X C hret => ?_)
  refine aw_aldn (n := 1) C dX6_reading_0 rfl rfl ?_
  refine aw_ildn (n := 2) C dX6_reading_1 rfl rfl ?_
  refine aw_cVi (n := 5) (vs := [_]) C dX6_reading_2 rfl rfl rfl mm_X6_noPassenger wM_X6_96 rfl rfl (Nat.le_of_ble_eq_true rfl) (c_noPassenger hp (by omega)) (by decide) (fun z_2 S_2 q_2 => ?_)
  rw [q_2.1, q_2.2]
  clear q_2 S_2 z_2
  refine aw_ifeq (tgt := 10) (n := 8) C dX6_reading_5 rfl rfl (by omega) (fun h_5 => ?_) (fun h_5 => ?_)
  · refine aw_aldn (n := 11) C dX6_reading_10 rfl rfl ?_
    refine aw_ildn (n := 12) C dX6_reading_11 rfl rfl ?_
    refine aw_cVi (n := 15) (vs := [_]) C dX6_reading_12 rfl rfl rfl mm_X6_noMileNorEnd wM_X6_141 rfl rfl (Nat.le_of_ble_eq_true rfl) (c_noMileNorEnd hm (by omega)) (by decide) (fun z_12 S_12 q_12 => ?_)
    rw [q_12.1, q_12.2]
    clear q_12 S_12 z_12
    refine aw_ifne (tgt := 25) (n := 18) C dX6_reading_15 rfl rfl (by omega) (fun h_15 => ?_) (fun h_15 => ?_)
    · refine aw_bipush (n := 27) C dX6_reading_25 rfl rfl ?_
      refine hret 27 _ _ _ dX6_reading_27 (Or.inl rfl) ?_
      exact ⟨by omega, by first | rw [if_pos (by omega)] | rw [if_neg (by omega)]⟩
    · refine aw_ildn (n := 19) C dX6_reading_18 rfl rfl ?_
      refine aw_cSi (n := 22) (vs := [_]) C dX6_reading_19 rfl rfl rfl mm_X6_noClass wM_X6_112 (Nat.le_of_ble_eq_true rfl) (c_noClass hc) (by decide) (fun z_19 S_19 q_19 => ?_)
      rw [q_19.1, q_19.2]
      clear q_19 S_19 z_19
      refine aw_ifeq (tgt := 28) (n := 25) C dX6_reading_22 rfl rfl (by omega) (fun h_22 => ?_) (fun h_22 => ?_)
      · refine aw_aldn (n := 29) C dX6_reading_28 rfl rfl ?_
        refine aw_getR (n := 32) C dX6_reading_29 rfl fl_X6_31 rfl rfl ?_
        refine aw_getI (z := 3) (n := 35) C dX6_reading_32 rfl fl_X6_87 rfl rfl rfl ?_
        refine aw_bipush (n := 37) C dX6_reading_35 rfl rfl ?_
        refine aw_iclt (tgt := 45) (n := 40) C dX6_reading_37 rfl rfl (by omega) (by omega) (fun h_37 => ?_) (fun h_37 => ?_)
        · refine aw_aldn (n := 46) C dX6_reading_45 rfl rfl ?_
          refine aw_getR (n := 49) C dX6_reading_46 rfl fl_X6_31 rfl rfl ?_
          refine aw_ildn (n := 50) C dX6_reading_49 rfl rfl ?_
          refine aw_ildn (n := 51) C dX6_reading_50 rfl rfl ?_
          refine aw_ildn (n := 52) C dX6_reading_51 rfl rfl ?_
          refine aw_cVi (n := 55) (vs := [_, _, _]) C dX6_reading_52 rfl rfl rfl mm_X1_keep wM_X6_205 rfl rfl (Nat.le_of_ble_eq_true rfl) (c_keep (by omega)) (by decide) (fun z_52 S_52 q_52 => ?_)
          rw [q_52.1, q_52.2]
          clear q_52 S_52 z_52
          refine hret 55 _ _ _ dX6_reading_55 (Or.inl rfl) ?_
          exact ⟨by omega, by first | rw [if_pos (by omega)] | rw [if_neg (by omega)]⟩
        · refine aw_bipush (n := 42) C dX6_reading_40 rfl rfl ?_
          refine aw_goto (tgt := 55) C dX6_reading_42 rfl ?_
          refine hret 55 _ _ _ dX6_reading_55 (Or.inl rfl) ?_
          exact ⟨by omega, by first | rw [if_pos (by omega)] | rw [if_neg (by omega)]⟩
      · refine aw_bipush (n := 27) C dX6_reading_25 rfl rfl ?_
        refine hret 27 _ _ _ dX6_reading_27 (Or.inl rfl) ?_
        exact ⟨by omega, by first | rw [if_pos (by omega)] | rw [if_neg (by omega)]⟩
  · refine aw_iconst (n := 9) C dX6_reading_8 rfl ?_
    refine hret 9 _ _ _ dX6_reading_9 (Or.inl rfl) ?_
    exact ⟨by omega, by first | rw [if_pos (by omega)] | rw [if_neg (by omega)]⟩
theorem x_back {S : Mem} {k : Int} (hk : rng k) (hn : 0 ≤ S 46 3 ∧ S 46 3 ≤ 8) : AMi 0 yX6_back cX6_back 2 (some .int) [.inr (.inr 0), .inl k] S (fun z S' => z = (if k < 0 ∨ S 46 3 < k then -2 else S 46 3 - k) ∧ S' = (if k < 0 ∨ S 46 3 < k then S else st2 S 46 3 (S 46 3 - k))) := by
  refine ami_intro (L := [_, _]) (by decide) (Or.inl rfl) rfl (Nat.le_of_ble_eq_true rfl) (fun X C hret => ?_)
  refine aw_ildn (n := 1) C dX6_back_0 rfl rfl ?_
  refine aw_iflt (tgt := 15) (n := 4) C dX6_back_1 rfl rfl (by omega) (fun h_1 => ?_) (fun h_1 => ?_)
  · refine aw_bipush (n := 17) C dX6_back_15 rfl rfl ?_
    refine hret 17 _ _ _ dX6_back_17 (Or.inl rfl) ?_
    exact ⟨by rw [if_pos (by omega)], by rw [if_pos (by omega)]⟩
  · refine aw_ildn (n := 5) C dX6_back_4 rfl rfl ?_
    refine aw_aldn (n := 6) C dX6_back_5 rfl rfl ?_
    refine aw_getR (n := 9) C dX6_back_6 rfl fl_X6_31 rfl rfl ?_
    refine aw_getI (z := 3) (n := 12) C dX6_back_9 rfl fl_X6_87 rfl rfl rfl ?_
    refine aw_icle (tgt := 18) (n := 15) C dX6_back_12 rfl rfl (by omega) (by omega) (fun h_12 => ?_) (fun h_12 => ?_)
    · refine aw_aldn (n := 19) C dX6_back_18 rfl rfl ?_
      refine aw_getR (n := 22) C dX6_back_19 rfl fl_X6_31 rfl rfl ?_
      refine aw_dup (n := 23) C dX6_back_22 rfl rfl ?_
      refine aw_getI (z := 3) (n := 26) C dX6_back_23 rfl fl_X6_87 rfl rfl rfl ?_
      refine aw_ildn (n := 27) C dX6_back_26 rfl rfl ?_
      refine aw_isub (n := 28) C dX6_back_27 rfl ?_
      refine aw_put (z := 3) (n := 31) C dX6_back_28 rfl fp_X6_87 rfl rfl rfl (Or.inl rfl) ?_
      refine aw_aldn (n := 32) C dX6_back_31 rfl rfl ?_
      refine aw_getR (n := 35) C dX6_back_32 rfl fl_X6_31 rfl rfl ?_
      refine aw_getI (z := 3) (n := 38) C dX6_back_35 rfl fl_X6_87 rfl rfl rfl ?_
      refine hret 38 _ _ _ dX6_back_38 (Or.inl rfl) ?_
      exact ⟨by rw [if_neg (by omega), st2_s], by rw [if_neg (by omega)]⟩
    · refine aw_bipush (n := 17) C dX6_back_15 rfl rfl ?_
      refine hret 17 _ _ _ dX6_back_17 (Or.inl rfl) ?_
      exact ⟨by rw [if_pos (by omega)], by rw [if_pos (by omega)]⟩
/-- telling: how the trace goes on, by kind -/
def trT (k t : Int) : Int := if k = 2 then 31 * (31 * (31 * (31 * t + 3) + 2) + 1) + 1 else if k = 1 then 31 * (31 * t + 2) + 1 else 31 * t + 1
def anT (k f : Int) : Int := if k = 2 then f + 100 + f else if k = 1 then f + 100 else f
theorem x_tell {S : Mem} {p : Int} (hp : rng p) (h9 : 0 ≤ S 10 9 ∧ S 10 9 ≤ 4) (hk : ∀ p, 0 ≤ p → p < S 10 9 → 0 ≤ S 15 p ∧ S 15 p ≤ 2) : AMi 4 yX6_tell cX6_tell 2 (some .int) [.inr (.inr 0), .inl p] S (fun z S' => z = (if p < 0 ∨ S 10 9 ≤ p then -1 else anT (S 15 p) (S 17 p)) ∧ S' = (if p < 0 ∨ S 10 9 ≤ p then S else st2 S 0 7 (trT (S 15 p) (S 0 7)))) := by
  refine ami_intro (L := [_, _]) (by decide) (Or.inl rfl) rfl (Nat.le_of_ble_eq_true rfl) (fun X C hret => ?_)
  refine aw_aldn (n := 1) C dX6_tell_0 rfl rfl ?_
  refine aw_ildn (n := 2) C dX6_tell_1 rfl rfl ?_
  refine aw_cVi (n := 5) (vs := [_]) C dX6_tell_2 rfl rfl rfl mm_X6_noPassenger wM_X6_96 rfl rfl (Nat.le_of_ble_eq_true rfl) (c_noPassenger hp (by omega)) (by decide) (fun z_2 S_2 q_2 => ?_)
  rw [q_2.1, q_2.2]
  clear q_2 S_2 z_2
  refine aw_ifeq (tgt := 10) (n := 8) C dX6_tell_5 rfl rfl (by omega) (fun h_5 => ?_) (fun h_5 => ?_)
  · refine aw_aldn (n := 11) C dX6_tell_10 rfl rfl ?_
    refine aw_getR (n := 14) C dX6_tell_11 rfl fl_X6_21 rfl rfl ?_
    refine aw_getR (n := 17) C dX6_tell_14 rfl fl_X6_99 rfl rfl ?_
    refine aw_ildn (n := 18) C dX6_tell_17 rfl rfl ?_
    refine aw_iald (n := 19) C dX6_tell_18 rfl rfl (by omega) (by omega) ?_
    have hkp := hk p (by omega) (by omega)
    by_cases e1 : S 15 p = 2
    · refine aw_lookup (tgt := 44) (off := 25) C dX6_tell_19 (by omega) rfl (by rw [e1]; rfl) rfl ?_
      refine aw_aldn (n := 45) C dX6_tell_44 rfl rfl ?_
      refine aw_ildn (n := 46) C dX6_tell_45 rfl rfl ?_
      refine aw_cVi (n := 49) (vs := [_]) C dX6_tell_46 rfl rfl rfl mm_X6_tellHoneymooner wM_X6_257 rfl rfl (Nat.le_of_ble_eq_true rfl) (c_tellHoneymooner (by omega) (by omega)) (by decide) (fun z_46 S_46 q_46 => ?_)
      rw [q_46.1, q_46.2]
      clear q_46 S_46 z_46
      refine hret 49 _ _ _ dX6_tell_49 (Or.inl rfl) ?_
      exact ⟨by rw [if_neg (by omega)]; unfold anT; rw [if_pos e1], by rw [if_neg (by omega)]; unfold trT; rw [if_pos e1]⟩
    by_cases e2 : S 15 p = 1
    · refine aw_lookup (tgt := 50) (off := 31) C dX6_tell_19 (by omega) rfl (by rw [e2]; rfl) rfl ?_
      refine aw_aldn (n := 51) C dX6_tell_50 rfl rfl ?_
      refine aw_ildn (n := 52) C dX6_tell_51 rfl rfl ?_
      refine aw_cVi (n := 55) (vs := [_]) C dX6_tell_52 rfl rfl rfl mm_X6_tellWidow wM_X6_260 rfl rfl (Nat.le_of_ble_eq_true rfl) (c_tellWidow (by omega) (by omega)) (by decide) (fun z_52 S_52 q_52 => ?_)
      rw [q_52.1, q_52.2]
      clear q_52 S_52 z_52
      refine hret 55 _ _ _ dX6_tell_55 (Or.inl rfl) ?_
      exact ⟨by rw [if_neg (by omega)]; unfold anT; rw [if_neg e1, if_pos e2], by rw [if_neg (by omega)]; unfold trT; rw [if_neg e1, if_pos e2]⟩
    refine aw_lookup (tgt := 56) (off := 37) C dX6_tell_19 (by omega) rfl (by show (if (1 : Int) = S 15 p then (31 : Int) else if (2 : Int) = S 15 p then 25 else 37) = 37; omega) rfl ?_
    refine aw_aldn (n := 57) C dX6_tell_56 rfl rfl ?_
    refine aw_ildn (n := 58) C dX6_tell_57 rfl rfl ?_
    refine aw_cVi (n := 61) (vs := [_]) C dX6_tell_58 rfl rfl rfl mm_X6_tellPassenger wM_X6_263 rfl rfl (Nat.le_of_ble_eq_true rfl) (c_tellPassenger (by omega) (by omega)) (by decide) (fun z_58 S_58 q_58 => ?_)
    rw [q_58.1, q_58.2]
    clear q_58 S_58 z_58
    refine hret 61 _ _ _ dX6_tell_61 (Or.inl rfl) ?_
    exact ⟨by rw [if_neg (by omega)]; unfold anT; rw [if_neg e1, if_neg e2], by rw [if_neg (by omega)]; unfold trT; rw [if_neg e1, if_neg e2]⟩
  · refine aw_iconst (n := 9) C dX6_tell_8 rfl ?_
    refine hret 9 _ _ _ dX6_tell_9 (Or.inl rfl) ?_
    exact ⟨by rw [if_pos (by omega)], by rw [if_pos (by omega)]⟩
theorem x_call {S : Mem} {p : Int} (hp : rng p) (h9 : 0 ≤ S 10 9 ∧ S 10 9 ≤ 4) (hk : ∀ p, 0 ≤ p → p < S 10 9 → 0 ≤ S 15 p ∧ S 15 p ≤ 2) : AMi 1 yX6_call cX6_call 2 (some .int) [.inr (.inr 0), .inl p] S (fun z S' => z = (if p < 0 ∨ S 10 9 ≤ p then -1 else if S 15 p = 2 then 60 else p) ∧ S' = (if p < 0 ∨ S 10 9 ≤ p then S else st2 S 0 7 (31 * S 0 7 + (if S 15 p = 2 then 5 else 4)))) := by
  refine ami_intro (L := [_, _]) (by decide) (Or.inl rfl) rfl (Nat.le_of_ble_eq_true rfl) (fun X C hret => ?_)
  refine aw_aldn (n := 1) C dX6_call_0 rfl rfl ?_
  refine aw_ildn (n := 2) C dX6_call_1 rfl rfl ?_
  refine aw_cVi (n := 5) (vs := [_]) C dX6_call_2 rfl rfl rfl mm_X6_noPassenger wM_X6_96 rfl rfl (Nat.le_of_ble_eq_true rfl) (c_noPassenger hp (by omega)) (by decide) (fun z_2 S_2 q_2 => ?_)
  rw [q_2.1, q_2.2]
  clear q_2 S_2 z_2
  refine aw_ifeq (tgt := 10) (n := 8) C dX6_call_5 rfl rfl (by omega) (fun h_5 => ?_) (fun h_5 => ?_)
  · refine aw_aldn (n := 11) C dX6_call_10 rfl rfl ?_
    refine aw_getR (n := 14) C dX6_call_11 rfl fl_X6_21 rfl rfl ?_
    refine aw_getR (n := 17) C dX6_call_14 rfl fl_X6_99 rfl rfl ?_
    refine aw_ildn (n := 18) C dX6_call_17 rfl rfl ?_
    refine aw_iald (n := 19) C dX6_call_18 rfl rfl (by omega) (by omega) ?_
    have hkp := hk p (by omega) (by omega)
    refine aw_iconst (n := 20) C dX6_call_19 rfl ?_
    refine aw_icne (tgt := 31) (n := 23) C dX6_call_20 rfl rfl (by omega) (by omega) (fun h_20 => ?_) (fun h_20 => ?_)
    · refine aw_aldn (n := 32) C dX6_call_31 rfl rfl ?_
      refine aw_iconst (n := 33) C dX6_call_32 rfl ?_
      refine aw_cVv (n := 36) (vs := [_]) C dX6_call_33 rfl rfl rfl mm_X6_leaveTrace wM_X6_266 rfl rfl (Nat.le_of_ble_eq_true rfl) (c_leaveTrace) (by decide) (fun S_33 q_33 => ?_)
      rw [q_33]
      clear q_33 S_33
      refine aw_ildn (n := 37) C dX6_call_36 rfl rfl ?_
      refine hret 37 _ _ _ dX6_call_37 (Or.inl rfl) ?_
      exact ⟨by rw [if_neg (by omega), if_neg h_20], by rw [if_neg (by omega), if_neg h_20]⟩
    · refine aw_aldn (n := 24) C dX6_call_23 rfl rfl ?_
      refine aw_iconst (n := 25) C dX6_call_24 rfl ?_
      refine aw_cVv (n := 28) (vs := [_]) C dX6_call_25 rfl rfl rfl mm_X6_leaveTrace wM_X6_266 rfl rfl (Nat.le_of_ble_eq_true rfl) (c_leaveTrace) (by decide) (fun S_25 q_25 => ?_)
      rw [q_25]
      clear q_25 S_25
      refine aw_bipush (n := 30) C dX6_call_28 rfl rfl ?_
      refine hret 30 _ _ _ dX6_call_30 (Or.inl rfl) ?_
      exact ⟨by rw [if_neg (by omega), if_pos h_20], by rw [if_neg (by omega), if_pos h_20]⟩
  · refine aw_iconst (n := 9) C dX6_call_8 rfl ?_
    refine hret 9 _ _ _ dX6_call_9 (Or.inl rfl) ?_
    exact ⟨by rw [if_pos (by omega)], by rw [if_pos (by omega)]⟩
theorem x_trace {S : Mem} : AMi 0 yX6_trace cX6_trace 1 (some .int) [.inr (.inr 0)] S (fun z S' => z = S 0 7 ∧ S' = S) := by
  refine ami_intro (L := [_]) (by decide) (Or.inl rfl) rfl (Nat.le_of_ble_eq_true rfl) (fun X C hret => ?_)
  refine aw_aldn (n := 1) C dX6_trace_0 rfl rfl ?_
  refine aw_getI (z := 7) (n := 4) C dX6_trace_1 rfl fl_X6_55 rfl rfl rfl ?_
  refine hret 4 _ _ _ dX6_trace_4 (Or.inl rfl) ?_
  exact ⟨rfl, rfl⟩
theorem x_fault {S : Mem} : AMi 0 yX6_fault cX6_fault 1 (some .int) [.inr (.inr 0)] S (fun z S' => z = S 0 8 ∧ S' = S) := by
  refine ami_intro (L := [_]) (by decide) (Or.inl rfl) rfl (Nat.le_of_ble_eq_true rfl) (fun X C hret => ?_)
  refine aw_aldn (n := 1) C dX6_fault_0 rfl rfl ?_
  refine aw_getI (z := 8) (n := 4) C dX6_fault_1 rfl fl_X6_59 rfl rfl rfl ?_
  refine hret 4 _ _ _ dX6_fault_4 (Or.inl rfl) ?_
  exact ⟨rfl, rfl⟩
theorem x_many {S : Mem} {w : Int} (hw : rng w) : AMi 0 yX6_many cX6_many 2 (some .int) [.inr (.inr 0), .inl w] S (fun z S' => z = (if w = 0 then S 10 9 else if w = 1 then S 10 8 else if w = 2 then S 46 3 else -2) ∧ S' = S) := by
  refine ami_intro (L := [_, _]) (by decide) (Or.inl rfl) rfl (Nat.le_of_ble_eq_true rfl) (fun X C hret => ?_)
  refine aw_ildn (n := 1) C dX6_many_0 rfl rfl ?_
  by_cases e1 : w = 0
  · refine aw_tableIn (tgt := 28) (off := 27) C dX6_many_1 hw (by omega) (by omega) (by rw [e1]; rfl) rfl ?_
    refine aw_aldn (n := 29) C dX6_many_28 rfl rfl ?_
    refine aw_getR (n := 32) C dX6_many_29 rfl fl_X6_21 rfl rfl ?_
    refine aw_getI (z := 9) (n := 35) C dX6_many_32 rfl fl_X6_93 rfl rfl rfl ?_
    refine hret 35 _ _ _ dX6_many_35 (Or.inl rfl) ?_
    exact ⟨by omega, rfl⟩
  by_cases e2 : w = 1
  · refine aw_tableIn (tgt := 36) (off := 35) C dX6_many_1 hw (by omega) (by omega) (by rw [e2]; rfl) rfl ?_
    refine aw_aldn (n := 37) C dX6_many_36 rfl rfl ?_
    refine aw_getR (n := 40) C dX6_many_37 rfl fl_X6_21 rfl rfl ?_
    refine aw_getI (z := 8) (n := 43) C dX6_many_40 rfl fl_X6_154 rfl rfl rfl ?_
    refine hret 43 _ _ _ dX6_many_43 (Or.inl rfl) ?_
    exact ⟨by omega, rfl⟩
  by_cases e3 : w = 2
  · refine aw_tableIn (tgt := 44) (off := 43) C dX6_many_1 hw (by omega) (by omega) (by rw [e3]; rfl) rfl ?_
    refine aw_aldn (n := 45) C dX6_many_44 rfl rfl ?_
    refine aw_getR (n := 48) C dX6_many_45 rfl fl_X6_31 rfl rfl ?_
    refine aw_getI (z := 3) (n := 51) C dX6_many_48 rfl fl_X6_87 rfl rfl rfl ?_
    refine hret 51 _ _ _ dX6_many_51 (Or.inl rfl) ?_
    exact ⟨by omega, rfl⟩
  refine aw_tableOut (tgt := 52) C dX6_many_1 hw (by omega) rfl ?_
  refine aw_bipush (n := 54) C dX6_many_52 rfl rfl ?_
  refine hret 54 _ _ _ dX6_many_54 (Or.inl rfl) ?_
  exact ⟨by omega, rfl⟩
