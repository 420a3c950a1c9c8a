/-! the model: sheets, bodies of tell and call -/
section MSH
variable {X : AMX} {S : Mem} {k i p w : Int}
def flM (S : Mem) (k m : Int) : Mem := fun c x => if c = 69 ∧ 60 * k ≤ x ∧ x < 60 * k + m then 0 else S c x
theorem flM_0 (S : Mem) (k : Int) : flM S k 0 = S := by
  funext c x
  unfold flM
  rw [if_neg (by omega)]
theorem flM_s (S : Mem) (k m : Int) (hm : 0 ≤ m) : st2 (flM S k m) 69 (60 * k + m) 0 = flM S k (m + 1) := by
  funext c x
  unfold flM st2
  by_cases h : c = 69 ∧ x = 60 * k + m
  · rw [if_pos h, if_pos (by omega)]
  · rw [if_neg h]
    show (if _ then _ else _) = (if _ then _ else _)
    by_cases h2 : c = 69 ∧ 60 * k ≤ x ∧ x < 60 * k + m
    · rw [if_pos h2, if_pos (by omega)]
    · rw [if_neg h2, if_neg (by omega)]
theorem d_sheet_loop {post : Int → Mem → Prop} {t n : Int} (k0 : 0 ≤ k) (k1 : k < 4) (C : CX X 2 RX7 cX7_sheet 5) (hret : ∀ (pc : Nat) (L : List (Option AV)) (z : Int) (S' : Mem), decode cX7_sheet pc = .ok (.ireturn, 1) → ((some FieldType.int) = some .int ∨ ((some FieldType.int) = some .boolean ∧ (z = 0 ∨ z = 1))) → post z S' → AW X cX7_sheet 5 pc L [.inl z] S') (hp : post 1 (flM S k 60)) : ∀ (r m : Nat), m + r = 60 → AW X cX7_sheet 5 57 [some (.inr (.inr 66)), some (.inl k), some (.inl t), some (.inl n), some (.inl m)] [] (flM S k m) := by
  intro r
  induction r with
  | zero =>
    intro m hm
    obtain rfl : m = 60 := by omega
    refine aw_ildw (n := 59) C dX7_sheet_57 rfl rfl ?_
    refine aw_bipush (n := 61) C dX7_sheet_59 rfl rfl ?_
    refine aw_icge (tgt := 83) (n := 64) C dX7_sheet_61 rfl rfl (by omega) (by omega) (fun h_61 => ?_) (fun h_61 => ?_)
    · refine aw_iconst (n := 84) C dX7_sheet_83 rfl ?_
      refine hret 84 _ _ _ dX7_sheet_84 (Or.inl rfl) ?_
      exact hp
    · omega
  | succ r ih =>
    intro m hm
    refine aw_ildw (n := 59) C dX7_sheet_57 rfl rfl ?_
    refine aw_bipush (n := 61) C dX7_sheet_59 rfl rfl ?_
    refine aw_icge (tgt := 83) (n := 64) C dX7_sheet_61 rfl rfl (by omega) (by omega) (fun h_61 => ?_) (fun h_61 => ?_)
    · omega
    · refine aw_aldn (n := 65) C dX7_sheet_64 rfl rfl ?_
      refine aw_getR (n := 68) C dX7_sheet_65 rfl fl_X7_16 rfl rfl ?_
      refine aw_bipush (n := 70) C dX7_sheet_68 rfl rfl ?_
      refine aw_ildn (n := 71) C dX7_sheet_70 rfl rfl ?_
      refine aw_imul (n := 72) C dX7_sheet_71 rfl ?_
      refine aw_ildw (n := 74) C dX7_sheet_72 rfl rfl ?_
      refine aw_iadd (n := 75) C dX7_sheet_74 rfl ?_
      refine aw_iconst (n := 76) C dX7_sheet_75 rfl ?_
      refine aw_iast (n := 77) C dX7_sheet_76 rfl rfl (by omega) (by omega) ?_
      refine aw_iinc (n := 80) (L' := [_, _, _, _, _]) C dX7_sheet_77 rfl rfl (by decide) rfl rfl ?_
      refine aw_goto (tgt := 57) C dX7_sheet_80 rfl ?_
      rw [flM_s _ _ _ (by omega)]
      exact ih (m + 1) (by omega)
theorem m_sheet {t n : Int} (hk : rng k) (ht : rng t) (hn : rng n) : AMi 2 yX7_sheet cX7_sheet 5 (some .int) [.inr (.inr 66), .inl k, .inl t, .inl n] S (fun z S' => z = (if k < 0 ∨ 4 ≤ k then -1 else if t < 0 ∨ 3 ≤ t ∨ 60 < n then -2 else if n < 0 then -14 else 1) ∧ S' = (if k < 0 ∨ 4 ≤ k ∨ t < 0 ∨ 3 ≤ t ∨ 60 < n then st2 S 66 0 0 else if n < 0 then st2 S 66 0 4 else flM (st2 (st2 (st2 S 66 0 0) 67 k t) 68 k n) k 60)) := by
  refine ami_intro (L := [_, _, _, _, none]) (by decide) (Or.inl rfl) rfl (Nat.le_of_ble_eq_true rfl) (fun X C hret => ?_)
  refine aw_aldn (n := 1) C dX7_sheet_0 rfl rfl ?_
  refine aw_iconst (n := 2) C dX7_sheet_1 rfl ?_
  refine aw_put (z := 0) (n := 5) C dX7_sheet_2 rfl fp_X7_71 rfl rfl rfl (Or.inl rfl) ?_
  refine aw_ildn (n := 6) C dX7_sheet_5 rfl rfl ?_
  refine aw_cSi (n := 9) (vs := [_]) C dX7_sheet_6 rfl rfl rfl mm_X7_isSheet wM_X7_90 (Nat.le_of_ble_eq_true rfl) (d_isSheet hk) (by decide) (fun z_6 S_6 q_6 => ?_)
  rw [q_6.1, q_6.2]
  clear q_6 S_6 z_6
  refine aw_ifne (tgt := 14) (n := 12) C dX7_sheet_9 rfl rfl (by omega) (fun h_9 => ?_) (fun h_9 => ?_)
  · refine aw_ildn (n := 15) C dX7_sheet_14 rfl rfl ?_
    refine aw_cSi (n := 18) (vs := [_]) C dX7_sheet_15 rfl rfl rfl mm_X7_isSort wM_X7_94 (Nat.le_of_ble_eq_true rfl) (d_isSort ht) (by decide) (fun z_15 S_15 q_15 => ?_)
    rw [q_15.1, q_15.2]
    clear q_15 S_15 z_15
    refine aw_ifeq (tgt := 27) (n := 21) C dX7_sheet_18 rfl rfl (by omega) (fun h_18 => ?_) (fun h_18 => ?_)
    · refine aw_bipush (n := 29) C dX7_sheet_27 rfl rfl ?_
      refine hret 29 _ _ _ dX7_sheet_29 (Or.inl rfl) ?_
      exact ⟨by omega, by rw [if_pos (by omega)]⟩
    · refine aw_ildn (n := 22) C dX7_sheet_21 rfl rfl ?_
      refine aw_bipush (n := 24) C dX7_sheet_22 rfl rfl ?_
      refine aw_icle (tgt := 30) (n := 27) C dX7_sheet_24 rfl rfl (by omega) (by omega) (fun h_24 => ?_) (fun h_24 => ?_)
      · refine aw_ildn (n := 31) C dX7_sheet_30 rfl rfl ?_
        refine aw_ifge (tgt := 40) (n := 34) C dX7_sheet_31 rfl rfl (by omega) (fun h_31 => ?_) (fun h_31 => ?_)
        · refine aw_aldn (n := 41) C dX7_sheet_40 rfl rfl ?_
          refine aw_getR (n := 44) C dX7_sheet_41 rfl fl_X7_9 rfl rfl ?_
          refine aw_ildn (n := 45) C dX7_sheet_44 rfl rfl ?_
          refine aw_ildn (n := 46) C dX7_sheet_45 rfl rfl ?_
          refine aw_iast (n := 47) C dX7_sheet_46 rfl rfl (by omega) (by omega) ?_
          refine aw_aldn (n := 48) C dX7_sheet_47 rfl rfl ?_
          refine aw_getR (n := 51) C dX7_sheet_48 rfl fl_X7_13 rfl rfl ?_
          refine aw_ildn (n := 52) C dX7_sheet_51 rfl rfl ?_
          refine aw_ildn (n := 53) C dX7_sheet_52 rfl rfl ?_
          refine aw_iast (n := 54) C dX7_sheet_53 rfl rfl (by omega) (by omega) ?_
          refine aw_iconst (n := 55) C dX7_sheet_54 rfl ?_
          refine aw_istw (n := 57) (L' := [_, _, _, _, _]) C dX7_sheet_55 rfl (by decide) rfl rfl ?_
          have := d_sheet_loop (S := st2 (st2 (st2 S 66 0 0) 67 k t) 68 k n) (k := k) (t := t) (n := n) (by omega) (by omega) C hret ⟨by rw [if_neg (by omega), if_neg (by omega), if_neg (by omega)], by rw [if_neg (by omega), if_neg (by omega)]⟩ 60 0 (by omega)
          rw [show ((0 : Nat) : Int) = 0 from rfl, flM_0] at this
          exact this
        · refine aw_aldn (n := 35) C dX7_sheet_34 rfl rfl ?_
          refine aw_iconst (n := 36) C dX7_sheet_35 rfl ?_
          refine aw_cVi (n := 39) (vs := [_]) C dX7_sheet_36 rfl rfl rfl mm_X7_fails wM_X7_101 rfl rfl (Nat.le_of_ble_eq_true rfl) (d_fails) (by decide) (fun z_36 S_36 q_36 => ?_)
          rw [q_36.1, q_36.2]
          clear q_36 S_36 z_36
          refine hret 39 _ _ _ dX7_sheet_39 (Or.inl rfl) ?_
          exact ⟨by omega, by rw [if_neg (by omega), if_pos (by omega), st2_st2]⟩
      · refine aw_bipush (n := 29) C dX7_sheet_27 rfl rfl ?_
        refine hret 29 _ _ _ dX7_sheet_29 (Or.inl rfl) ?_
        exact ⟨by omega, by rw [if_pos (by omega)]⟩
  · refine aw_iconst (n := 13) C dX7_sheet_12 rfl ?_
    refine hret 13 _ _ _ dX7_sheet_13 (Or.inl rfl) ?_
    exact ⟨by omega, by rw [if_pos (by omega)]⟩
theorem m_lose (hk : rng k) (H : MH S) : AMi 2 yX7_lose cX7_lose 3 (some .int) [.inr (.inr 66), .inl k] S (fun z S' => z = (if k < 0 ∨ 4 ≤ k then -1 else if S 67 k = -9 then 0 else 1) ∧ S' = (if k < 0 ∨ 4 ≤ k then S else st2 S 67 k (-9))) := by
  refine ami_intro (L := [_, _, none]) (by decide) (Or.inl rfl) rfl (Nat.le_of_ble_eq_true rfl) (fun X C hret => ?_)
  refine aw_ildn (n := 1) C dX7_lose_0 rfl rfl ?_
  refine aw_cSi (n := 4) (vs := [_]) C dX7_lose_1 rfl rfl rfl mm_X7_isSheet wM_X7_90 (Nat.le_of_ble_eq_true rfl) (d_isSheet hk) (by decide) (fun z_1 S_1 q_1 => ?_)
  rw [q_1.1, q_1.2]
  clear q_1 S_1 z_1
  refine aw_ifne (tgt := 9) (n := 7) C dX7_lose_4 rfl rfl (by omega) (fun h_4 => ?_) (fun h_4 => ?_)
  · have hk1 := H.1 k (by omega) (by omega)
    refine aw_aldn (n := 10) C dX7_lose_9 rfl rfl ?_
    refine aw_getR (n := 13) C dX7_lose_10 rfl fl_X7_9 rfl rfl ?_
    refine aw_ildn (n := 14) C dX7_lose_13 rfl rfl ?_
    refine aw_iald (n := 15) C dX7_lose_14 rfl rfl (by omega) (by omega) ?_
    refine aw_bipush (n := 17) C dX7_lose_15 rfl rfl ?_
    refine aw_icne (tgt := 24) (n := 20) C dX7_lose_17 rfl rfl (by omega) (by omega) (fun h_17 => ?_) (fun h_17 => ?_)
    · refine aw_iconst (n := 25) C dX7_lose_24 rfl ?_
      refine aw_istn (n := 26) (L' := [_, _, _]) C dX7_lose_25 rfl (by decide) rfl rfl ?_
      refine aw_aldn (n := 27) C dX7_lose_26 rfl rfl ?_
      refine aw_getR (n := 30) C dX7_lose_27 rfl fl_X7_9 rfl rfl ?_
      refine aw_ildn (n := 31) C dX7_lose_30 rfl rfl ?_
      refine aw_bipush (n := 33) C dX7_lose_31 rfl rfl ?_
      refine aw_iast (n := 34) C dX7_lose_33 rfl rfl (by omega) (by omega) ?_
      refine aw_ildn (n := 35) C dX7_lose_34 rfl rfl ?_
      refine hret 35 _ _ _ dX7_lose_35 (Or.inl rfl) ?_
      exact ⟨by omega, by rw [if_neg (by omega)]⟩
    · refine aw_iconst (n := 21) C dX7_lose_20 rfl ?_
      refine aw_goto (tgt := 25) C dX7_lose_21 rfl ?_
      refine aw_istn (n := 26) (L' := [_, _, _]) C dX7_lose_25 rfl (by decide) rfl rfl ?_
      refine aw_aldn (n := 27) C dX7_lose_26 rfl rfl ?_
      refine aw_getR (n := 30) C dX7_lose_27 rfl fl_X7_9 rfl rfl ?_
      refine aw_ildn (n := 31) C dX7_lose_30 rfl rfl ?_
      refine aw_bipush (n := 33) C dX7_lose_31 rfl rfl ?_
      refine aw_iast (n := 34) C dX7_lose_33 rfl rfl (by omega) (by omega) ?_
      refine aw_ildn (n := 35) C dX7_lose_34 rfl rfl ?_
      refine hret 35 _ _ _ dX7_lose_35 (Or.inl rfl) ?_
      exact ⟨by omega, by rw [if_neg (by omega)]⟩
  · refine aw_iconst (n := 8) C dX7_lose_7 rfl ?_
    refine hret 8 _ _ _ dX7_lose_8 (Or.inl rfl) ?_
    exact ⟨by omega, by rw [if_pos (by omega)]⟩
theorem m_put {v : Int} (hk : rng k) (hi : rng i) (hv : rng v) (H : MH S) : AMi 2 yX7_put cX7_put 4 (some .int) [.inr (.inr 66), .inl k, .inl i, .inl v] S (fun z S' => z = (if k < 0 ∨ 4 ≤ k then -1 else if S 67 k = -9 then -11 else if i < 0 ∨ S 68 k ≤ i then -13 else 1) ∧ S' = (if k < 0 ∨ 4 ≤ k then st2 S 66 0 0 else if S 67 k = -9 then st2 S 66 0 1 else if i < 0 ∨ S 68 k ≤ i then st2 S 66 0 3 else st2 (st2 S 66 0 0) 69 (60 * k + i) (cutL (S 67 k) v))) := by
  have e7 : st2 S 66 0 0 67 k = S 67 k := rfl
  have e8 : st2 S 66 0 0 68 k = S 68 k := rfl
  refine ami_intro (L := [_, _, _, _]) (by decide) (Or.inl rfl) rfl (Nat.le_of_ble_eq_true rfl) (fun X C hret => ?_)
  refine aw_aldn (n := 1) C dX7_put_0 rfl rfl ?_
  refine aw_iconst (n := 2) C dX7_put_1 rfl ?_
  refine aw_put (z := 0) (n := 5) C dX7_put_2 rfl fp_X7_71 rfl rfl rfl (Or.inl rfl) ?_
  refine aw_ildn (n := 6) C dX7_put_5 rfl rfl ?_
  refine aw_cSi (n := 9) (vs := [_]) C dX7_put_6 rfl rfl rfl mm_X7_isSheet wM_X7_90 (Nat.le_of_ble_eq_true rfl) (d_isSheet hk) (by decide) (fun z_6 S_6 q_6 => ?_)
  rw [q_6.1, q_6.2]
  clear q_6 S_6 z_6
  refine aw_ifne (tgt := 14) (n := 12) C dX7_put_9 rfl rfl (by omega) (fun h_9 => ?_) (fun h_9 => ?_)
  · have hk1 := H.1 k (by omega) (by omega)
    refine aw_aldn (n := 15) C dX7_put_14 rfl rfl ?_
    refine aw_getR (n := 18) C dX7_put_15 rfl fl_X7_9 rfl rfl ?_
    refine aw_ildn (n := 19) C dX7_put_18 rfl rfl ?_
    refine aw_iald (n := 20) C dX7_put_19 rfl rfl (by omega) (by omega) ?_
    rw [e7]
    refine aw_bipush (n := 22) C dX7_put_20 rfl rfl ?_
    refine aw_icne (tgt := 31) (n := 25) C dX7_put_22 rfl rfl (by omega) (by omega) (fun h_22 => ?_) (fun h_22 => ?_)
    · refine aw_ildn (n := 32) C dX7_put_31 rfl rfl ?_
      refine aw_iconst (n := 33) C dX7_put_32 rfl ?_
      refine aw_aldn (n := 34) C dX7_put_33 rfl rfl ?_
      refine aw_getR (n := 37) C dX7_put_34 rfl fl_X7_13 rfl rfl ?_
      refine aw_ildn (n := 38) C dX7_put_37 rfl rfl ?_
      refine aw_iald (n := 39) C dX7_put_38 rfl rfl (by omega) (by omega) ?_
      rw [e8]
      refine aw_iconst (n := 40) C dX7_put_39 rfl ?_
      refine aw_isub (n := 41) C dX7_put_40 rfl ?_
      refine aw_cSi (n := 44) (vs := [_, _, _]) C dX7_put_41 rfl rfl rfl mm_X7_within wM_X7_77 (Nat.le_of_ble_eq_true rfl) (d_within hi (by decide) (by omega)) (by decide) (fun z_41 S_41 q_41 => ?_)
      rw [q_41.1, q_41.2]
      clear q_41 S_41 z_41
      refine aw_ifne (tgt := 53) (n := 47) C dX7_put_44 rfl rfl (by omega) (fun h_44 => ?_) (fun h_44 => ?_)
      · refine aw_aldn (n := 54) C dX7_put_53 rfl rfl ?_
        refine aw_getR (n := 57) C dX7_put_54 rfl fl_X7_16 rfl rfl ?_
        refine aw_bipush (n := 59) C dX7_put_57 rfl rfl ?_
        refine aw_ildn (n := 60) C dX7_put_59 rfl rfl ?_
        refine aw_imul (n := 61) C dX7_put_60 rfl ?_
        refine aw_ildn (n := 62) C dX7_put_61 rfl rfl ?_
        refine aw_iadd (n := 63) C dX7_put_62 rfl ?_
        refine aw_aldn (n := 64) C dX7_put_63 rfl rfl ?_
        refine aw_getR (n := 67) C dX7_put_64 rfl fl_X7_9 rfl rfl ?_
        refine aw_ildn (n := 68) C dX7_put_67 rfl rfl ?_
        refine aw_iald (n := 69) C dX7_put_68 rfl rfl (by omega) (by omega) ?_
        rw [e7]
        refine aw_ifne (tgt := 77) (n := 72) C dX7_put_69 rfl rfl (by omega) (fun h_69 => ?_) (fun h_69 => ?_)
        · refine aw_aldn (n := 78) C dX7_put_77 rfl rfl ?_
          refine aw_getR (n := 81) C dX7_put_78 rfl fl_X7_9 rfl rfl ?_
          refine aw_ildn (n := 82) C dX7_put_81 rfl rfl ?_
          refine aw_iald (n := 83) C dX7_put_82 rfl rfl (by omega) (by omega) ?_
          rw [e7]
          refine aw_iconst (n := 84) C dX7_put_83 rfl ?_
          refine aw_icne (tgt := 92) (n := 87) C dX7_put_84 rfl rfl (by omega) (by omega) (fun h_84 => ?_) (fun h_84 => ?_)
          · refine aw_ildn (n := 93) C dX7_put_92 rfl rfl ?_
            refine aw_iast (n := 94) C dX7_put_93 rfl rfl (by omega) (by omega) ?_
            refine aw_iconst (n := 95) C dX7_put_94 rfl ?_
            refine hret 95 _ _ _ dX7_put_95 (Or.inl rfl) ?_
            refine ⟨by omega, ?_⟩
            rw [if_neg (by omega), if_neg (by omega), if_neg (by omega)]
            unfold cutL
            first | rw [if_pos h_69] | rw [if_neg h_69, if_pos h_84] | rw [if_neg h_69, if_neg h_84]
          · refine aw_ildn (n := 88) C dX7_put_87 rfl rfl ?_
            refine aw_i2s (n := 89) C dX7_put_88 rfl (cutS_eq v) ?_
            refine aw_goto (tgt := 93) C dX7_put_89 rfl ?_
            refine aw_iast (n := 94) C dX7_put_93 rfl rfl (by omega) (by omega) ?_
            refine aw_iconst (n := 95) C dX7_put_94 rfl ?_
            refine hret 95 _ _ _ dX7_put_95 (Or.inl rfl) ?_
            refine ⟨by omega, ?_⟩
            rw [if_neg (by omega), if_neg (by omega), if_neg (by omega)]
            unfold cutL
            first | rw [if_pos h_69] | rw [if_neg h_69, if_pos h_84] | rw [if_neg h_69, if_neg h_84]
        · refine aw_ildn (n := 73) C dX7_put_72 rfl rfl ?_
          refine aw_i2b (n := 74) C dX7_put_73 rfl (cutB_eq v) ?_
          refine aw_goto (tgt := 93) C dX7_put_74 rfl ?_
          refine aw_iast (n := 94) C dX7_put_93 rfl rfl (by omega) (by omega) ?_
          refine aw_iconst (n := 95) C dX7_put_94 rfl ?_
          refine hret 95 _ _ _ dX7_put_95 (Or.inl rfl) ?_
          refine ⟨by omega, ?_⟩
          rw [if_neg (by omega), if_neg (by omega), if_neg (by omega)]
          unfold cutL
          first | rw [if_pos h_69] | rw [if_neg h_69, if_pos h_84] | rw [if_neg h_69, if_neg h_84]
      · refine aw_aldn (n := 48) C dX7_put_47 rfl rfl ?_
        refine aw_iconst (n := 49) C dX7_put_48 rfl ?_
        refine aw_cVi (n := 52) (vs := [_]) C dX7_put_49 rfl rfl rfl mm_X7_fails wM_X7_101 rfl rfl (Nat.le_of_ble_eq_true rfl) (d_fails) (by decide) (fun z_49 S_49 q_49 => ?_)
        rw [q_49.1, q_49.2]
        clear q_49 S_49 z_49
        refine hret 52 _ _ _ dX7_put_52 (Or.inl rfl) ?_
        exact ⟨by omega, by rw [if_neg (by omega), if_neg (by omega), if_pos (by omega), st2_st2]⟩
    · refine aw_aldn (n := 26) C dX7_put_25 rfl rfl ?_
      refine aw_iconst (n := 27) C dX7_put_26 rfl ?_
      refine aw_cVi (n := 30) (vs := [_]) C dX7_put_27 rfl rfl rfl mm_X7_fails wM_X7_101 rfl rfl (Nat.le_of_ble_eq_true rfl) (d_fails) (by decide) (fun z_27 S_27 q_27 => ?_)
      rw [q_27.1, q_27.2]
      clear q_27 S_27 z_27
      refine hret 30 _ _ _ dX7_put_30 (Or.inl rfl) ?_
      exact ⟨by omega, by rw [if_neg (by omega), if_pos (by omega), st2_st2]⟩
  · refine aw_iconst (n := 13) C dX7_put_12 rfl ?_
    refine hret 13 _ _ _ dX7_put_13 (Or.inl rfl) ?_
    exact ⟨by omega, by rw [if_pos (by omega)]⟩
def fMl (s l t i : Int) : Int := if s = -9 then 1 else if s = t then (if i < 0 ∨ l ≤ i then 3 else 0) else 2
theorem m_cell {t : Int} (hk : rng k) (hi : rng i) (ht : rng t) (H : MH S) : AMl 2 yX7_cell cX7_cell 4 (some .long) [.inr (.inr 66), .inl k, .inl i, .inl t] S (fun z S' => z = (if k < 0 ∨ 4 ≤ k ∨ t < 0 ∨ 3 ≤ t ∨ fMl (S 67 k) (S 68 k) t i ≠ 0 then -9223372036854775808 else S 69 (60 * k + i)) ∧ S' = st2 S 66 0 (if k < 0 ∨ 4 ≤ k ∨ t < 0 ∨ 3 ≤ t then 0 else fMl (S 67 k) (S 68 k) t i)) := by
  have e7 : st2 S 66 0 0 67 k = S 67 k := rfl
  have e8 : st2 S 66 0 0 68 k = S 68 k := rfl
  have hc := H.2 (60 * k + i)
  have e9 : st2 S 66 0 0 69 (60 * k + i) = S 69 (60 * k + i) := rfl
  unfold fMl
  refine aml_intro (L := [_, _, _, _]) (by decide) rfl (Nat.le_of_ble_eq_true rfl) (fun X C hret => ?_)
  refine aw_aldn (n := 1) C dX7_cell_0 rfl rfl ?_
  refine aw_iconst (n := 2) C dX7_cell_1 rfl ?_
  refine aw_put (z := 0) (n := 5) C dX7_cell_2 rfl fp_X7_71 rfl rfl rfl (Or.inl rfl) ?_
  refine aw_ildn (n := 6) C dX7_cell_5 rfl rfl ?_
  refine aw_cSi (n := 9) (vs := [_]) C dX7_cell_6 rfl rfl rfl mm_X7_isSheet wM_X7_90 (Nat.le_of_ble_eq_true rfl) (d_isSheet hk) (by decide) (fun z_6 S_6 q_6 => ?_)
  rw [q_6.1, q_6.2]
  clear q_6 S_6 z_6
  refine aw_ifeq (tgt := 19) (n := 12) C dX7_cell_9 rfl rfl (by omega) (fun h_9 => ?_) (fun h_9 => ?_)
  · refine aw_ldc2 (z := -9223372036854775808) (n := 22) C dX7_cell_19 rfl wL_X7_75 (by decide) ?_
    refine hret 22 _ _ _ dX7_cell_22 ?_
    exact ⟨by rw [if_pos (by omega)], by rw [if_pos (by omega)]⟩
  · refine aw_ildn (n := 13) C dX7_cell_12 rfl rfl ?_
    refine aw_cSi (n := 16) (vs := [_]) C dX7_cell_13 rfl rfl rfl mm_X7_isSort wM_X7_94 (Nat.le_of_ble_eq_true rfl) (d_isSort ht) (by decide) (fun z_13 S_13 q_13 => ?_)
    rw [q_13.1, q_13.2]
    clear q_13 S_13 z_13
    refine aw_ifne (tgt := 23) (n := 19) C dX7_cell_16 rfl rfl (by omega) (fun h_16 => ?_) (fun h_16 => ?_)
    · have hk1 := H.1 k (by omega) (by omega)
      refine aw_aldn (n := 24) C dX7_cell_23 rfl rfl ?_
      refine aw_getR (n := 27) C dX7_cell_24 rfl fl_X7_9 rfl rfl ?_
      refine aw_ildn (n := 28) C dX7_cell_27 rfl rfl ?_
      refine aw_iald (n := 29) C dX7_cell_28 rfl rfl (by omega) (by omega) ?_
      rw [e7]
      refine aw_bipush (n := 31) C dX7_cell_29 rfl rfl ?_
      refine aw_iceq (tgt := 50) (n := 34) C dX7_cell_31 rfl rfl (by omega) (by omega) (fun h_31 => ?_) (fun h_31 => ?_)
      · refine aw_aldn (n := 51) C dX7_cell_50 rfl rfl ?_
        refine aw_getR (n := 54) C dX7_cell_51 rfl fl_X7_9 rfl rfl ?_
        refine aw_ildn (n := 55) C dX7_cell_54 rfl rfl ?_
        refine aw_iald (n := 56) C dX7_cell_55 rfl rfl (by omega) (by omega) ?_
        rw [e7]
        refine aw_bipush (n := 58) C dX7_cell_56 rfl rfl ?_
        refine aw_icne (tgt := 67) (n := 61) C dX7_cell_58 rfl rfl (by omega) (by omega) (fun h_58 => ?_) (fun h_58 => ?_)
        · refine aw_ildn (n := 68) C dX7_cell_67 rfl rfl ?_
          refine aw_iconst (n := 69) C dX7_cell_68 rfl ?_
          refine aw_aldn (n := 70) C dX7_cell_69 rfl rfl ?_
          refine aw_getR (n := 73) C dX7_cell_70 rfl fl_X7_13 rfl rfl ?_
          refine aw_ildn (n := 74) C dX7_cell_73 rfl rfl ?_
          refine aw_iald (n := 75) C dX7_cell_74 rfl rfl (by omega) (by omega) ?_
          rw [e8]
          refine aw_iconst (n := 76) C dX7_cell_75 rfl ?_
          refine aw_isub (n := 77) C dX7_cell_76 rfl ?_
          refine aw_cSi (n := 80) (vs := [_, _, _]) C dX7_cell_77 rfl rfl rfl mm_X7_within wM_X7_77 (Nat.le_of_ble_eq_true rfl) (d_within hi (by decide) (by omega)) (by decide) (fun z_77 S_77 q_77 => ?_)
          rw [q_77.1, q_77.2]
          clear q_77 S_77 z_77
          refine aw_ifne (tgt := 89) (n := 83) C dX7_cell_80 rfl rfl (by omega) (fun h_80 => ?_) (fun h_80 => ?_)
          · refine aw_aldn (n := 90) C dX7_cell_89 rfl rfl ?_
            refine aw_getR (n := 93) C dX7_cell_90 rfl fl_X7_16 rfl rfl ?_
            refine aw_bipush (n := 95) C dX7_cell_93 rfl rfl ?_
            refine aw_ildn (n := 96) C dX7_cell_95 rfl rfl ?_
            refine aw_imul (n := 97) C dX7_cell_96 rfl ?_
            refine aw_ildn (n := 98) C dX7_cell_97 rfl rfl ?_
            refine aw_iadd (n := 99) C dX7_cell_98 rfl ?_
            refine aw_iald (n := 100) C dX7_cell_99 rfl rfl (by omega) (by omega) ?_
            rw [e9]
            refine aw_i2l (n := 101) C dX7_cell_100 rfl (by omega) ?_
            refine hret 101 _ _ _ dX7_cell_101 ?_
            first | (exfalso; omega; done) | exact ⟨by rw [if_pos (by omega)], by rw [st2_st2, if_neg (by omega)]; congr 1; omega⟩ | exact ⟨by rw [if_neg (by omega)], by rw [if_neg (by omega)]; congr 1; omega⟩
          · refine aw_aldn (n := 84) C dX7_cell_83 rfl rfl ?_
            refine aw_iconst (n := 85) C dX7_cell_84 rfl ?_
            refine aw_cVl (n := 88) (vs := [_]) C dX7_cell_85 rfl rfl rfl mm_X7_lost wM_X7_225 rfl rfl (Nat.le_of_ble_eq_true rfl) (d_lost) (by decide) (fun z_85 S_85 q_85 => ?_)
            rw [q_85.1, q_85.2]
            clear q_85 S_85 z_85
            refine hret 88 _ _ _ dX7_cell_88 ?_
            first | (exfalso; omega; done) | exact ⟨by rw [if_pos (by omega)], by rw [st2_st2, if_neg (by omega)]; congr 1; omega⟩ | exact ⟨by rw [if_neg (by omega)], by rw [if_neg (by omega)]; congr 1; omega⟩
        · refine aw_aldn (n := 62) C dX7_cell_61 rfl rfl ?_
          refine aw_iconst (n := 63) C dX7_cell_62 rfl ?_
          refine aw_cVl (n := 66) (vs := [_]) C dX7_cell_63 rfl rfl rfl mm_X7_lost wM_X7_225 rfl rfl (Nat.le_of_ble_eq_true rfl) (d_lost) (by decide) (fun z_63 S_63 q_63 => ?_)
          rw [q_63.1, q_63.2]
          clear q_63 S_63 z_63
          refine hret 66 _ _ _ dX7_cell_66 ?_
          first | (exfalso; omega; done) | exact ⟨by rw [if_pos (by omega)], by rw [st2_st2, if_neg (by omega)]; congr 1; omega⟩ | exact ⟨by rw [if_neg (by omega)], by rw [if_neg (by omega)]; congr 1; omega⟩
      · refine aw_aldn (n := 35) C dX7_cell_34 rfl rfl ?_
        refine aw_getR (n := 38) C dX7_cell_35 rfl fl_X7_9 rfl rfl ?_
        refine aw_ildn (n := 39) C dX7_cell_38 rfl rfl ?_
        refine aw_iald (n := 40) C dX7_cell_39 rfl rfl (by omega) (by omega) ?_
        rw [e7]
        refine aw_ildn (n := 41) C dX7_cell_40 rfl rfl ?_
        refine aw_iceq (tgt := 50) (n := 44) C dX7_cell_41 rfl rfl (by omega) (by omega) (fun h_41 => ?_) (fun h_41 => ?_)
        · refine aw_aldn (n := 51) C dX7_cell_50 rfl rfl ?_
          refine aw_getR (n := 54) C dX7_cell_51 rfl fl_X7_9 rfl rfl ?_
          refine aw_ildn (n := 55) C dX7_cell_54 rfl rfl ?_
          refine aw_iald (n := 56) C dX7_cell_55 rfl rfl (by omega) (by omega) ?_
          rw [e7]
          refine aw_bipush (n := 58) C dX7_cell_56 rfl rfl ?_
          refine aw_icne (tgt := 67) (n := 61) C dX7_cell_58 rfl rfl (by omega) (by omega) (fun h_58 => ?_) (fun h_58 => ?_)
          · refine aw_ildn (n := 68) C dX7_cell_67 rfl rfl ?_
            refine aw_iconst (n := 69) C dX7_cell_68 rfl ?_
            refine aw_aldn (n := 70) C dX7_cell_69 rfl rfl ?_
            refine aw_getR (n := 73) C dX7_cell_70 rfl fl_X7_13 rfl rfl ?_
            refine aw_ildn (n := 74) C dX7_cell_73 rfl rfl ?_
            refine aw_iald (n := 75) C dX7_cell_74 rfl rfl (by omega) (by omega) ?_
            rw [e8]
            refine aw_iconst (n := 76) C dX7_cell_75 rfl ?_
            refine aw_isub (n := 77) C dX7_cell_76 rfl ?_
            refine aw_cSi (n := 80) (vs := [_, _, _]) C dX7_cell_77 rfl rfl rfl mm_X7_within wM_X7_77 (Nat.le_of_ble_eq_true rfl) (d_within hi (by decide) (by omega)) (by decide) (fun z_77 S_77 q_77 => ?_)
            rw [q_77.1, q_77.2]
            clear q_77 S_77 z_77
            refine aw_ifne (tgt := 89) (n := 83) C dX7_cell_80 rfl rfl (by omega) (fun h_80 => ?_) (fun h_80 => ?_)
            · refine aw_aldn (n := 90) C dX7_cell_89 rfl rfl ?_
              refine aw_getR (n := 93) C dX7_cell_90 rfl fl_X7_16 rfl rfl ?_
              refine aw_bipush (n := 95) C dX7_cell_93 rfl rfl ?_
              refine aw_ildn (n := 96) C dX7_cell_95 rfl rfl ?_
              refine aw_imul (n := 97) C dX7_cell_96 rfl ?_
              refine aw_ildn (n := 98) C dX7_cell_97 rfl rfl ?_
              refine aw_iadd (n := 99) C dX7_cell_98 rfl ?_
              refine aw_iald (n := 100) C dX7_cell_99 rfl rfl (by omega) (by omega) ?_
              rw [e9]
              refine aw_i2l (n := 101) C dX7_cell_100 rfl (by omega) ?_
              refine hret 101 _ _ _ dX7_cell_101 ?_
              first | (exfalso; omega; done) | exact ⟨by rw [if_pos (by omega)], by rw [st2_st2, if_neg (by omega)]; congr 1; omega⟩ | exact ⟨by rw [if_neg (by omega)], by rw [if_neg (by omega)]; congr 1; omega⟩
            · refine aw_aldn (n := 84) C dX7_cell_83 rfl rfl ?_
              refine aw_iconst (n := 85) C dX7_cell_84 rfl ?_
              refine aw_cVl (n := 88) (vs := [_]) C dX7_cell_85 rfl rfl rfl mm_X7_lost wM_X7_225 rfl rfl (Nat.le_of_ble_eq_true rfl) (d_lost) (by decide) (fun z_85 S_85 q_85 => ?_)
              rw [q_85.1, q_85.2]
              clear q_85 S_85 z_85
              refine hret 88 _ _ _ dX7_cell_88 ?_
              first | (exfalso; omega; done) | exact ⟨by rw [if_pos (by omega)], by rw [st2_st2, if_neg (by omega)]; congr 1; omega⟩ | exact ⟨by rw [if_neg (by omega)], by rw [if_neg (by omega)]; congr 1; omega⟩
          · refine aw_aldn (n := 62) C dX7_cell_61 rfl rfl ?_
            refine aw_iconst (n := 63) C dX7_cell_62 rfl ?_
            refine aw_cVl (n := 66) (vs := [_]) C dX7_cell_63 rfl rfl rfl mm_X7_lost wM_X7_225 rfl rfl (Nat.le_of_ble_eq_true rfl) (d_lost) (by decide) (fun z_63 S_63 q_63 => ?_)
            rw [q_63.1, q_63.2]
            clear q_63 S_63 z_63
            refine hret 66 _ _ _ dX7_cell_66 ?_
            first | (exfalso; omega; done) | exact ⟨by rw [if_pos (by omega)], by rw [st2_st2, if_neg (by omega)]; congr 1; omega⟩ | exact ⟨by rw [if_neg (by omega)], by rw [if_neg (by omega)]; congr 1; omega⟩
        · refine aw_aldn (n := 45) C dX7_cell_44 rfl rfl ?_
          refine aw_iconst (n := 46) C dX7_cell_45 rfl ?_
          refine aw_cVl (n := 49) (vs := [_]) C dX7_cell_46 rfl rfl rfl mm_X7_lost wM_X7_225 rfl rfl (Nat.le_of_ble_eq_true rfl) (d_lost) (by decide) (fun z_46 S_46 q_46 => ?_)
          rw [q_46.1, q_46.2]
          clear q_46 S_46 z_46
          refine hret 49 _ _ _ dX7_cell_49 ?_
          first | (exfalso; omega; done) | exact ⟨by rw [if_pos (by omega)], by rw [st2_st2, if_neg (by omega)]; congr 1; omega⟩ | exact ⟨by rw [if_neg (by omega)], by rw [if_neg (by omega)]; congr 1; omega⟩
    · refine aw_ldc2 (z := -9223372036854775808) (n := 22) C dX7_cell_19 rfl wL_X7_75 (by decide) ?_
      refine hret 22 _ _ _ dX7_cell_22 ?_
      exact ⟨by rw [if_pos (by omega)], by rw [if_pos (by omega)]⟩
/-- the cells from d + a below d + b hold what lay at s -/
def cpR (S : Mem) (s d a b : Int) : Mem := fun c x => if c = 69 ∧ d + a ≤ x ∧ x < d + b then S 69 (s + (x - d)) else S c x
theorem cpR_0 (S : Mem) (s d a : Int) : cpR S s d a a = S := by
  funext c x
  unfold cpR
  rw [if_neg (by omega)]
theorem cpR_f (S : Mem) (s d q : Int) (hq : 0 ≤ q) (h : ¬ (d ≤ s + q ∧ s + q < d + q)) : st2 (cpR S s d 0 q) 69 (d + q) (cpR S s d 0 q 69 (s + q)) = cpR S s d 0 (q + 1) := by
  have e : cpR S s d 0 q 69 (s + q) = S 69 (s + q) := by unfold cpR; rw [if_neg (by omega)]
  rw [e]
  funext c x
  unfold cpR st2
  by_cases h1 : c = 69 ∧ x = d + q
  · rw [if_pos h1, if_pos (by omega), show s + (x - d) = s + q by omega]
  · rw [if_neg h1]
    show (if _ then _ else _) = (if _ then _ else _)
    by_cases h2 : c = 69 ∧ d + 0 ≤ x ∧ x < d + q
    · rw [if_pos h2, if_pos (by omega)]
    · rw [if_neg h2, if_neg (by omega)]
theorem cpR_b (S : Mem) (s d a n : Int) (hq : a < n) (h : ¬ (d + (a + 1) ≤ s + a ∧ s + a < d + n)) : st2 (cpR S s d (a + 1) n) 69 (d + a) (cpR S s d (a + 1) n 69 (s + a)) = cpR S s d a n := by
  have e : cpR S s d (a + 1) n 69 (s + a) = S 69 (s + a) := by unfold cpR; rw [if_neg (by omega)]
  rw [e]
  funext c x
  unfold cpR st2
  by_cases h1 : c = 69 ∧ x = d + a
  · rw [if_pos h1, if_pos (by omega), show s + (x - d) = s + a by omega]
  · rw [if_neg h1]
    show (if _ then _ else _) = (if _ then _ else _)
    by_cases h2 : c = 69 ∧ d + (a + 1) ≤ x ∧ x < d + n
    · rw [if_pos h2, if_pos (by omega)]
    · rw [if_neg h2, if_neg (by omega)]
theorem d_copy_f {post : Int → Mem → Prop} {o j n y : Int} (hk : 0 ≤ k ∧ k < 4) (ho : 0 ≤ o ∧ o < 4) (hi : 0 ≤ i) (hj : 0 ≤ j) (hin : i + n ≤ 60) (hjn : j + n ≤ 60) (hs : k ≠ o ∨ j ≤ i) (C : CX X 2 RX7 cX7_copy 10) (hret : ∀ (pc : Nat) (L : List (Option AV)) (z : Int) (S' : Mem), decode cX7_copy pc = .ok (.ireturn, 1) → ((some FieldType.int) = some .int ∨ ((some FieldType.int) = some .boolean ∧ (z = 0 ∨ z = 1))) → post z S' → AW X cX7_copy 10 pc L [.inl z] S') (hp : post n (cpR S (60 * k + i) (60 * o + j) 0 n)) : ∀ (r q : Nat) (x : Option AV), (q : Int) + r = n → AW X cX7_copy 10 166 [some (.inr (.inr 66)), some (.inl k), some (.inl i), some (.inl o), some (.inl j), some (.inl n), some (.inl y), some (.inl 0), some (.inl q), x] [] (cpR S (60 * k + i) (60 * o + j) 0 q) := by
  intro r
  induction r with
  | zero =>
    intro q x hq
    have hqn : (q : Int) = n := by omega
    refine aw_ildw (n := 168) C dX7_copy_166 rfl rfl ?_
    refine aw_ildw (n := 170) C dX7_copy_168 rfl rfl ?_
    refine aw_icge (tgt := 227) (n := 173) C dX7_copy_170 rfl rfl (by omega) (by omega) (fun h_170 => ?_) (fun h_170 => ?_)
    · refine aw_ildw (n := 229) C dX7_copy_227 rfl rfl ?_
      refine hret 229 _ _ _ dX7_copy_229 (Or.inl rfl) ?_
      rw [hqn]
      exact hp
    · omega
  | succ r ih =>
    intro q x hq
    refine aw_ildw (n := 168) C dX7_copy_166 rfl rfl ?_
    refine aw_ildw (n := 170) C dX7_copy_168 rfl rfl ?_
    refine aw_icge (tgt := 227) (n := 173) C dX7_copy_170 rfl rfl (by omega) (by omega) (fun h_170 => ?_) (fun h_170 => ?_)
    · omega
    · refine aw_ildw (n := 175) C dX7_copy_173 rfl rfl ?_
      refine aw_ifeq (tgt := 188) (n := 178) C dX7_copy_175 rfl rfl (by omega) (fun h_175 => ?_) (fun h_175 => ?_)
      · refine aw_ildw (n := 190) C dX7_copy_188 rfl rfl ?_
        refine aw_istw (n := 192) (L' := [_, _, _, _, _, _, _, _, _, _]) C dX7_copy_190 rfl (by decide) rfl rfl ?_
        refine aw_aldn (n := 193) C dX7_copy_192 rfl rfl ?_
        refine aw_getR (n := 196) C dX7_copy_193 rfl fl_X7_16 rfl rfl ?_
        refine aw_bipush (n := 198) C dX7_copy_196 rfl rfl ?_
        refine aw_ildn (n := 199) C dX7_copy_198 rfl rfl ?_
        refine aw_imul (n := 200) C dX7_copy_199 rfl ?_
        refine aw_ildw (n := 202) C dX7_copy_200 rfl rfl ?_
        refine aw_iadd (n := 203) C dX7_copy_202 rfl ?_
        refine aw_ildw (n := 205) C dX7_copy_203 rfl rfl ?_
        refine aw_iadd (n := 206) C dX7_copy_205 rfl ?_
        refine aw_aldn (n := 207) C dX7_copy_206 rfl rfl ?_
        refine aw_getR (n := 210) C dX7_copy_207 rfl fl_X7_16 rfl rfl ?_
        refine aw_bipush (n := 212) C dX7_copy_210 rfl rfl ?_
        refine aw_ildn (n := 213) C dX7_copy_212 rfl rfl ?_
        refine aw_imul (n := 214) C dX7_copy_213 rfl ?_
        refine aw_ildn (n := 215) C dX7_copy_214 rfl rfl ?_
        refine aw_iadd (n := 216) C dX7_copy_215 rfl ?_
        refine aw_ildw (n := 218) C dX7_copy_216 rfl rfl ?_
        refine aw_iadd (n := 219) C dX7_copy_218 rfl ?_
        refine aw_iald (n := 220) C dX7_copy_219 rfl rfl (by omega) (by omega) ?_
        refine aw_iast (n := 221) C dX7_copy_220 rfl rfl (by omega) (by omega) ?_
        refine aw_iinc (n := 224) (L' := [_, _, _, _, _, _, _, _, _, _]) C dX7_copy_221 rfl rfl (by decide) rfl rfl ?_
        refine aw_goto (tgt := 166) C dX7_copy_224 rfl ?_
        rw [cpR_f _ _ _ _ (by omega) (by omega)]
        exact ih (q + 1) _ (by omega)
      · omega
theorem d_copy_b {post : Int → Mem → Prop} {o j n y : Int} (hk : 0 ≤ k ∧ k < 4) (ho : 0 ≤ o ∧ o < 4) (hi : 0 ≤ i) (hj : 0 ≤ j) (hin : i + n ≤ 60) (hjn : j + n ≤ 60) (hs : i < j) (C : CX X 2 RX7 cX7_copy 10) (hret : ∀ (pc : Nat) (L : List (Option AV)) (z : Int) (S' : Mem), decode cX7_copy pc = .ok (.ireturn, 1) → ((some FieldType.int) = some .int ∨ ((some FieldType.int) = some .boolean ∧ (z = 0 ∨ z = 1))) → post z S' → AW X cX7_copy 10 pc L [.inl z] S') (hp : post n (cpR S (60 * k + i) (60 * o + j) 0 n)) : ∀ (r q : Nat) (x : Option AV), (q : Int) + r = n → AW X cX7_copy 10 166 [some (.inr (.inr 66)), some (.inl k), some (.inl i), some (.inl o), some (.inl j), some (.inl n), some (.inl y), some (.inl 1), some (.inl q), x] [] (cpR S (60 * k + i) (60 * o + j) (n - q) n) := by
  intro r
  induction r with
  | zero =>
    intro q x hq
    have hqn : n - (q : Int) = 0 := by omega
    refine aw_ildw (n := 168) C dX7_copy_166 rfl rfl ?_
    refine aw_ildw (n := 170) C dX7_copy_168 rfl rfl ?_
    refine aw_icge (tgt := 227) (n := 173) C dX7_copy_170 rfl rfl (by omega) (by omega) (fun h_170 => ?_) (fun h_170 => ?_)
    · refine aw_ildw (n := 229) C dX7_copy_227 rfl rfl ?_
      refine hret 229 _ _ _ dX7_copy_229 (Or.inl rfl) ?_
      rw [hqn]
      exact hp
    · omega
  | succ r ih =>
    intro q x hq
    refine aw_ildw (n := 168) C dX7_copy_166 rfl rfl ?_
    refine aw_ildw (n := 170) C dX7_copy_168 rfl rfl ?_
    refine aw_icge (tgt := 227) (n := 173) C dX7_copy_170 rfl rfl (by omega) (by omega) (fun h_170 => ?_) (fun h_170 => ?_)
    · omega
    · refine aw_ildw (n := 175) C dX7_copy_173 rfl rfl ?_
      refine aw_ifeq (tgt := 188) (n := 178) C dX7_copy_175 rfl rfl (by omega) (fun h_175 => ?_) (fun h_175 => ?_)
      · omega
      · refine aw_ildw (n := 180) C dX7_copy_178 rfl rfl ?_
        refine aw_iconst (n := 181) C dX7_copy_180 rfl ?_
        refine aw_isub (n := 182) C dX7_copy_181 rfl ?_
        refine aw_ildw (n := 184) C dX7_copy_182 rfl rfl ?_
        refine aw_isub (n := 185) C dX7_copy_184 rfl ?_
        refine aw_goto (tgt := 190) C dX7_copy_185 rfl ?_
        rw [show n - (q : Int) = n - 1 - q + 1 by omega]
        refine aw_istw (n := 192) (L' := [_, _, _, _, _, _, _, _, _, _]) C dX7_copy_190 rfl (by decide) rfl rfl ?_
        refine aw_aldn (n := 193) C dX7_copy_192 rfl rfl ?_
        refine aw_getR (n := 196) C dX7_copy_193 rfl fl_X7_16 rfl rfl ?_
        refine aw_bipush (n := 198) C dX7_copy_196 rfl rfl ?_
        refine aw_ildn (n := 199) C dX7_copy_198 rfl rfl ?_
        refine aw_imul (n := 200) C dX7_copy_199 rfl ?_
        refine aw_ildw (n := 202) C dX7_copy_200 rfl rfl ?_
        refine aw_iadd (n := 203) C dX7_copy_202 rfl ?_
        refine aw_ildw (n := 205) C dX7_copy_203 rfl rfl ?_
        refine aw_iadd (n := 206) C dX7_copy_205 rfl ?_
        refine aw_aldn (n := 207) C dX7_copy_206 rfl rfl ?_
        refine aw_getR (n := 210) C dX7_copy_207 rfl fl_X7_16 rfl rfl ?_
        refine aw_bipush (n := 212) C dX7_copy_210 rfl rfl ?_
        refine aw_ildn (n := 213) C dX7_copy_212 rfl rfl ?_
        refine aw_imul (n := 214) C dX7_copy_213 rfl ?_
        refine aw_ildn (n := 215) C dX7_copy_214 rfl rfl ?_
        refine aw_iadd (n := 216) C dX7_copy_215 rfl ?_
        refine aw_ildw (n := 218) C dX7_copy_216 rfl rfl ?_
        refine aw_iadd (n := 219) C dX7_copy_218 rfl ?_
        refine aw_iald (n := 220) C dX7_copy_219 rfl rfl (by omega) (by omega) ?_
        refine aw_iast (n := 221) C dX7_copy_220 rfl rfl (by omega) (by omega) ?_
        refine aw_iinc (n := 224) (L' := [_, _, _, _, _, _, _, _, _, _]) C dX7_copy_221 rfl rfl (by decide) rfl rfl ?_
        refine aw_goto (tgt := 166) C dX7_copy_224 rfl ?_
        rw [cpR_b _ _ _ _ _ (by omega) (by omega), show n - 1 - (q : Int) = n - ((q + 1 : Nat) : Int) by omega]
        exact ih (q + 1) _ (by omega)
theorem m_copy {o j n : Int} (hk : rng k) (hi : rng i) (ho : rng o) (hj : rng j) (hn : rng n) (H : MH S) : AMi 2 yX7_copy cX7_copy 10 (some .int) [.inr (.inr 66), .inl k, .inl i, .inl o, .inl j, .inl n] S (fun z S' => (if k < 0 ∨ 4 ≤ k ∨ o < 0 ∨ 4 ≤ o then z = -1 ∧ S' = st2 S 66 0 0 else if S 67 k = -9 ∨ S 67 o = -9 then z = -11 ∧ S' = st2 S 66 0 1 else if S 67 k ≠ S 67 o then z = -12 ∧ S' = st2 S 66 0 2 else if n < 0 ∨ (i < 0 ∨ S 68 k < i ∨ S 68 k - i < n) ∨ (j < 0 ∨ S 68 o < j ∨ S 68 o - j < n) then z = -13 ∧ S' = st2 S 66 0 3 else z = n ∧ S' = cpR (st2 S 66 0 0) (60 * k + i) (60 * o + j) 0 n)) := by
  have e7 : ∀ k, st2 S 66 0 0 67 k = S 67 k := fun _ => rfl
  have e8 : ∀ k, st2 S 66 0 0 68 k = S 68 k := fun _ => rfl
  refine ami_intro (L := [_, _, _, _, _, _, none, none, none, none]) (by decide) (Or.inl rfl) rfl (Nat.le_of_ble_eq_true rfl) (fun X C hret => ?_)
  refine aw_aldn (n := 1) C dX7_copy_0 rfl rfl ?_
  refine aw_iconst (n := 2) C dX7_copy_1 rfl ?_
  refine aw_put (z := 0) (n := 5) C dX7_copy_2 rfl fp_X7_71 rfl rfl rfl (Or.inl rfl) ?_
  refine aw_ildn (n := 6) C dX7_copy_5 rfl rfl ?_
  refine aw_cSi (n := 9) (vs := [_]) C dX7_copy_6 rfl rfl rfl mm_X7_isSheet wM_X7_90 (Nat.le_of_ble_eq_true rfl) (d_isSheet hk) (by decide) (fun z_6 S_6 q_6 => ?_)
  rw [q_6.1, q_6.2]
  clear q_6 S_6 z_6
  refine aw_ifeq (tgt := 19) (n := 12) C dX7_copy_9 rfl rfl (by omega) (fun h_9 => ?_) (fun h_9 => ?_)
  · refine aw_iconst (n := 20) C dX7_copy_19 rfl ?_
    refine hret 20 _ _ _ dX7_copy_20 (Or.inl rfl) ?_
    rw [if_pos (by omega)]
    exact ⟨rfl, rfl⟩
  · refine aw_ildn (n := 13) C dX7_copy_12 rfl rfl ?_
    refine aw_cSi (n := 16) (vs := [_]) C dX7_copy_13 rfl rfl rfl mm_X7_isSheet wM_X7_90 (Nat.le_of_ble_eq_true rfl) (d_isSheet ho) (by decide) (fun z_13 S_13 q_13 => ?_)
    rw [q_13.1, q_13.2]
    clear q_13 S_13 z_13
    refine aw_ifne (tgt := 21) (n := 19) C dX7_copy_16 rfl rfl (by omega) (fun h_16 => ?_) (fun h_16 => ?_)
    · have hk1 := H.1 k (by omega) (by omega)
      have ho1 := H.1 o (by omega) (by omega)
      refine aw_aldn (n := 22) C dX7_copy_21 rfl rfl ?_
      refine aw_getR (n := 25) C dX7_copy_22 rfl fl_X7_9 rfl rfl ?_
      refine aw_ildn (n := 26) C dX7_copy_25 rfl rfl ?_
      refine aw_iald (n := 27) C dX7_copy_26 rfl rfl (by omega) (by omega) ?_
      rw [e7]
      refine aw_bipush (n := 29) C dX7_copy_27 rfl rfl ?_
      refine aw_iceq (tgt := 43) (n := 32) C dX7_copy_29 rfl rfl (by omega) (by omega) (fun h_29 => ?_) (fun h_29 => ?_)
      · refine aw_aldn (n := 44) C dX7_copy_43 rfl rfl ?_
        refine aw_iconst (n := 45) C dX7_copy_44 rfl ?_
        refine aw_cVi (n := 48) (vs := [_]) C dX7_copy_45 rfl rfl rfl mm_X7_fails wM_X7_101 rfl rfl (Nat.le_of_ble_eq_true rfl) (d_fails) (by decide) (fun z_45 S_45 q_45 => ?_)
        rw [q_45.1, q_45.2]
        clear q_45 S_45 z_45
        refine hret 48 _ _ _ dX7_copy_48 (Or.inl rfl) ?_
        rw [if_neg (by omega), if_pos (by omega), st2_st2]
        exact ⟨rfl, rfl⟩
      · refine aw_aldn (n := 33) C dX7_copy_32 rfl rfl ?_
        refine aw_getR (n := 36) C dX7_copy_33 rfl fl_X7_9 rfl rfl ?_
        refine aw_ildn (n := 37) C dX7_copy_36 rfl rfl ?_
        refine aw_iald (n := 38) C dX7_copy_37 rfl rfl (by omega) (by omega) ?_
        rw [e7]
        refine aw_bipush (n := 40) C dX7_copy_38 rfl rfl ?_
        refine aw_icne (tgt := 49) (n := 43) C dX7_copy_40 rfl rfl (by omega) (by omega) (fun h_40 => ?_) (fun h_40 => ?_)
        · refine aw_aldn (n := 50) C dX7_copy_49 rfl rfl ?_
          refine aw_getR (n := 53) C dX7_copy_50 rfl fl_X7_9 rfl rfl ?_
          refine aw_ildn (n := 54) C dX7_copy_53 rfl rfl ?_
          refine aw_iald (n := 55) C dX7_copy_54 rfl rfl (by omega) (by omega) ?_
          rw [e7]
          refine aw_aldn (n := 56) C dX7_copy_55 rfl rfl ?_
          refine aw_getR (n := 59) C dX7_copy_56 rfl fl_X7_9 rfl rfl ?_
          refine aw_ildn (n := 60) C dX7_copy_59 rfl rfl ?_
          refine aw_iald (n := 61) C dX7_copy_60 rfl rfl (by omega) (by omega) ?_
          rw [e7]
          refine aw_iceq (tgt := 70) (n := 64) C dX7_copy_61 rfl rfl (by omega) (by omega) (fun h_61 => ?_) (fun h_61 => ?_)
          · refine aw_ildn (n := 71) C dX7_copy_70 rfl rfl ?_
            refine aw_iflt (tgt := 109) (n := 74) C dX7_copy_71 rfl rfl (by omega) (fun h_71 => ?_) (fun h_71 => ?_)
            · refine aw_iconst (n := 110) C dX7_copy_109 rfl ?_
              refine aw_istw (n := 112) (L' := [_, _, _, _, _, _, _, _, _, _]) C dX7_copy_110 rfl (by decide) rfl rfl ?_
              refine aw_ildw (n := 114) C dX7_copy_112 rfl rfl ?_
              refine aw_ifeq (tgt := 144) (n := 117) C dX7_copy_114 rfl rfl (by omega) (fun h_114 => ?_) (fun h_114 => ?_)
              · refine aw_aldn (n := 145) C dX7_copy_144 rfl rfl ?_
                refine aw_iconst (n := 146) C dX7_copy_145 rfl ?_
                refine aw_cVi (n := 149) (vs := [_]) C dX7_copy_146 rfl rfl rfl mm_X7_fails wM_X7_101 rfl rfl (Nat.le_of_ble_eq_true rfl) (d_fails) (by decide) (fun z_146 S_146 q_146 => ?_)
                rw [q_146.1, q_146.2]
                clear q_146 S_146 z_146
                refine hret 149 _ _ _ dX7_copy_149 (Or.inl rfl) ?_
                first | (exfalso; omega; done) | (rw [if_neg (by omega), if_neg (by omega), if_neg (by omega), if_pos (by omega), st2_st2]; exact ⟨rfl, rfl⟩)
              · refine aw_ildw (n := 119) C dX7_copy_117 rfl rfl ?_
                refine aw_aldn (n := 120) C dX7_copy_119 rfl rfl ?_
                refine aw_getR (n := 123) C dX7_copy_120 rfl fl_X7_13 rfl rfl ?_
                refine aw_ildn (n := 124) C dX7_copy_123 rfl rfl ?_
                refine aw_iald (n := 125) C dX7_copy_124 rfl rfl (by omega) (by omega) ?_
                rw [e8]
                refine aw_ildn (n := 126) C dX7_copy_125 rfl rfl ?_
                refine aw_isub (n := 127) C dX7_copy_126 rfl ?_
                refine aw_icgt (tgt := 144) (n := 130) C dX7_copy_127 rfl rfl (by omega) (by omega) (fun h_127 => ?_) (fun h_127 => ?_)
                · refine aw_aldn (n := 145) C dX7_copy_144 rfl rfl ?_
                  refine aw_iconst (n := 146) C dX7_copy_145 rfl ?_
                  refine aw_cVi (n := 149) (vs := [_]) C dX7_copy_146 rfl rfl rfl mm_X7_fails wM_X7_101 rfl rfl (Nat.le_of_ble_eq_true rfl) (d_fails) (by decide) (fun z_146 S_146 q_146 => ?_)
                  rw [q_146.1, q_146.2]
                  clear q_146 S_146 z_146
                  refine hret 149 _ _ _ dX7_copy_149 (Or.inl rfl) ?_
                  first | (exfalso; omega; done) | (rw [if_neg (by omega), if_neg (by omega), if_neg (by omega), if_pos (by omega), st2_st2]; exact ⟨rfl, rfl⟩)
                · refine aw_ildw (n := 132) C dX7_copy_130 rfl rfl ?_
                  refine aw_aldn (n := 133) C dX7_copy_132 rfl rfl ?_
                  refine aw_getR (n := 136) C dX7_copy_133 rfl fl_X7_13 rfl rfl ?_
                  refine aw_ildn (n := 137) C dX7_copy_136 rfl rfl ?_
                  refine aw_iald (n := 138) C dX7_copy_137 rfl rfl (by omega) (by omega) ?_
                  rw [e8]
                  refine aw_ildw (n := 140) C dX7_copy_138 rfl rfl ?_
                  refine aw_isub (n := 141) C dX7_copy_140 rfl ?_
                  refine aw_icle (tgt := 150) (n := 144) C dX7_copy_141 rfl rfl (by omega) (by omega) (fun h_141 => ?_) (fun h_141 => ?_)
                  · refine aw_ildn (n := 151) C dX7_copy_150 rfl rfl ?_
                    refine aw_ildw (n := 153) C dX7_copy_151 rfl rfl ?_
                    refine aw_icge (tgt := 160) (n := 156) C dX7_copy_153 rfl rfl (by omega) (by omega) (fun h_153 => ?_) (fun h_153 => ?_)
                    · refine aw_iconst (n := 161) C dX7_copy_160 rfl ?_
                      refine aw_istw (n := 163) (L' := [_, _, _, _, _, _, _, _, _, _]) C dX7_copy_161 rfl (by decide) rfl rfl ?_
                      refine aw_iconst (n := 164) C dX7_copy_163 rfl ?_
                      refine aw_istw (n := 166) (L' := [_, _, _, _, _, _, _, _, _, _]) C dX7_copy_164 rfl (by decide) rfl rfl ?_
                      first | (have := d_copy_f (S := st2 S 66 0 0) (k := k) (i := i) (o := o) (j := j) (n := n) (y := 1) (by omega) (by omega) (by omega) (by omega) (by omega) (by omega) (by omega) C hret (by rw [if_neg (by omega), if_neg (by omega), if_neg (by omega), if_neg (by omega)]; exact ⟨rfl, rfl⟩) n.toNat 0 none (by omega); rw [show ((0 : Nat) : Int) = 0 from rfl, cpR_0] at this; exact this) | (have := d_copy_b (S := st2 S 66 0 0) (k := k) (i := i) (o := o) (j := j) (n := n) (y := 1) (by omega) (by omega) (by omega) (by omega) (by omega) (by omega) (by omega) C hret (by rw [if_neg (by omega), if_neg (by omega), if_neg (by omega), if_neg (by omega)]; exact ⟨rfl, rfl⟩) n.toNat 0 none (by omega); rw [show n - ((0 : Nat) : Int) = n by omega, cpR_0] at this; exact this) | (exfalso; omega)
                    · refine aw_iconst (n := 157) C dX7_copy_156 rfl ?_
                      refine aw_goto (tgt := 161) C dX7_copy_157 rfl ?_
                      refine aw_istw (n := 163) (L' := [_, _, _, _, _, _, _, _, _, _]) C dX7_copy_161 rfl (by decide) rfl rfl ?_
                      refine aw_iconst (n := 164) C dX7_copy_163 rfl ?_
                      refine aw_istw (n := 166) (L' := [_, _, _, _, _, _, _, _, _, _]) C dX7_copy_164 rfl (by decide) rfl rfl ?_
                      first | (have := d_copy_f (S := st2 S 66 0 0) (k := k) (i := i) (o := o) (j := j) (n := n) (y := 1) (by omega) (by omega) (by omega) (by omega) (by omega) (by omega) (by omega) C hret (by rw [if_neg (by omega), if_neg (by omega), if_neg (by omega), if_neg (by omega)]; exact ⟨rfl, rfl⟩) n.toNat 0 none (by omega); rw [show ((0 : Nat) : Int) = 0 from rfl, cpR_0] at this; exact this) | (have := d_copy_b (S := st2 S 66 0 0) (k := k) (i := i) (o := o) (j := j) (n := n) (y := 1) (by omega) (by omega) (by omega) (by omega) (by omega) (by omega) (by omega) C hret (by rw [if_neg (by omega), if_neg (by omega), if_neg (by omega), if_neg (by omega)]; exact ⟨rfl, rfl⟩) n.toNat 0 none (by omega); rw [show n - ((0 : Nat) : Int) = n by omega, cpR_0] at this; exact this) | (exfalso; omega)
                  · refine aw_aldn (n := 145) C dX7_copy_144 rfl rfl ?_
                    refine aw_iconst (n := 146) C dX7_copy_145 rfl ?_
                    refine aw_cVi (n := 149) (vs := [_]) C dX7_copy_146 rfl rfl rfl mm_X7_fails wM_X7_101 rfl rfl (Nat.le_of_ble_eq_true rfl) (d_fails) (by decide) (fun z_146 S_146 q_146 => ?_)
                    rw [q_146.1, q_146.2]
                    clear q_146 S_146 z_146
                    refine hret 149 _ _ _ dX7_copy_149 (Or.inl rfl) ?_
                    first | (exfalso; omega; done) | (rw [if_neg (by omega), if_neg (by omega), if_neg (by omega), if_pos (by omega), st2_st2]; exact ⟨rfl, rfl⟩)
            · refine aw_ildw (n := 76) C dX7_copy_74 rfl rfl ?_
              refine aw_iflt (tgt := 109) (n := 79) C dX7_copy_76 rfl rfl (by omega) (fun h_76 => ?_) (fun h_76 => ?_)
              · refine aw_iconst (n := 110) C dX7_copy_109 rfl ?_
                refine aw_istw (n := 112) (L' := [_, _, _, _, _, _, _, _, _, _]) C dX7_copy_110 rfl (by decide) rfl rfl ?_
                refine aw_ildw (n := 114) C dX7_copy_112 rfl rfl ?_
                refine aw_ifeq (tgt := 144) (n := 117) C dX7_copy_114 rfl rfl (by omega) (fun h_114 => ?_) (fun h_114 => ?_)
                · refine aw_aldn (n := 145) C dX7_copy_144 rfl rfl ?_
                  refine aw_iconst (n := 146) C dX7_copy_145 rfl ?_
                  refine aw_cVi (n := 149) (vs := [_]) C dX7_copy_146 rfl rfl rfl mm_X7_fails wM_X7_101 rfl rfl (Nat.le_of_ble_eq_true rfl) (d_fails) (by decide) (fun z_146 S_146 q_146 => ?_)
                  rw [q_146.1, q_146.2]
                  clear q_146 S_146 z_146
                  refine hret 149 _ _ _ dX7_copy_149 (Or.inl rfl) ?_
                  first | (exfalso; omega; done) | (rw [if_neg (by omega), if_neg (by omega), if_neg (by omega), if_pos (by omega), st2_st2]; exact ⟨rfl, rfl⟩)
                · refine aw_ildw (n := 119) C dX7_copy_117 rfl rfl ?_
                  refine aw_aldn (n := 120) C dX7_copy_119 rfl rfl ?_
                  refine aw_getR (n := 123) C dX7_copy_120 rfl fl_X7_13 rfl rfl ?_
                  refine aw_ildn (n := 124) C dX7_copy_123 rfl rfl ?_
                  refine aw_iald (n := 125) C dX7_copy_124 rfl rfl (by omega) (by omega) ?_
                  rw [e8]
                  refine aw_ildn (n := 126) C dX7_copy_125 rfl rfl ?_
                  refine aw_isub (n := 127) C dX7_copy_126 rfl ?_
                  refine aw_icgt (tgt := 144) (n := 130) C dX7_copy_127 rfl rfl (by omega) (by omega) (fun h_127 => ?_) (fun h_127 => ?_)
                  · refine aw_aldn (n := 145) C dX7_copy_144 rfl rfl ?_
                    refine aw_iconst (n := 146) C dX7_copy_145 rfl ?_
                    refine aw_cVi (n := 149) (vs := [_]) C dX7_copy_146 rfl rfl rfl mm_X7_fails wM_X7_101 rfl rfl (Nat.le_of_ble_eq_true rfl) (d_fails) (by decide) (fun z_146 S_146 q_146 => ?_)
                    rw [q_146.1, q_146.2]
                    clear q_146 S_146 z_146
                    refine hret 149 _ _ _ dX7_copy_149 (Or.inl rfl) ?_
                    first | (exfalso; omega; done) | (rw [if_neg (by omega), if_neg (by omega), if_neg (by omega), if_pos (by omega), st2_st2]; exact ⟨rfl, rfl⟩)
                  · refine aw_ildw (n := 132) C dX7_copy_130 rfl rfl ?_
                    refine aw_aldn (n := 133) C dX7_copy_132 rfl rfl ?_
                    refine aw_getR (n := 136) C dX7_copy_133 rfl fl_X7_13 rfl rfl ?_
                    refine aw_ildn (n := 137) C dX7_copy_136 rfl rfl ?_
                    refine aw_iald (n := 138) C dX7_copy_137 rfl rfl (by omega) (by omega) ?_
                    rw [e8]
                    refine aw_ildw (n := 140) C dX7_copy_138 rfl rfl ?_
                    refine aw_isub (n := 141) C dX7_copy_140 rfl ?_
                    refine aw_icle (tgt := 150) (n := 144) C dX7_copy_141 rfl rfl (by omega) (by omega) (fun h_141 => ?_) (fun h_141 => ?_)
                    · refine aw_ildn (n := 151) C dX7_copy_150 rfl rfl ?_
                      refine aw_ildw (n := 153) C dX7_copy_151 rfl rfl ?_
                      refine aw_icge (tgt := 160) (n := 156) C dX7_copy_153 rfl rfl (by omega) (by omega) (fun h_153 => ?_) (fun h_153 => ?_)
                      · refine aw_iconst (n := 161) C dX7_copy_160 rfl ?_
                        refine aw_istw (n := 163) (L' := [_, _, _, _, _, _, _, _, _, _]) C dX7_copy_161 rfl (by decide) rfl rfl ?_
                        refine aw_iconst (n := 164) C dX7_copy_163 rfl ?_
                        refine aw_istw (n := 166) (L' := [_, _, _, _, _, _, _, _, _, _]) C dX7_copy_164 rfl (by decide) rfl rfl ?_
                        first | (have := d_copy_f (S := st2 S 66 0 0) (k := k) (i := i) (o := o) (j := j) (n := n) (y := 1) (by omega) (by omega) (by omega) (by omega) (by omega) (by omega) (by omega) C hret (by rw [if_neg (by omega), if_neg (by omega), if_neg (by omega), if_neg (by omega)]; exact ⟨rfl, rfl⟩) n.toNat 0 none (by omega); rw [show ((0 : Nat) : Int) = 0 from rfl, cpR_0] at this; exact this) | (have := d_copy_b (S := st2 S 66 0 0) (k := k) (i := i) (o := o) (j := j) (n := n) (y := 1) (by omega) (by omega) (by omega) (by omega) (by omega) (by omega) (by omega) C hret (by rw [if_neg (by omega), if_neg (by omega), if_neg (by omega), if_neg (by omega)]; exact ⟨rfl, rfl⟩) n.toNat 0 none (by omega); rw [show n - ((0 : Nat) : Int) = n by omega, cpR_0] at this; exact this) | (exfalso; omega)
                      · refine aw_iconst (n := 157) C dX7_copy_156 rfl ?_
                        refine aw_goto (tgt := 161) C dX7_copy_157 rfl ?_
                        refine aw_istw (n := 163) (L' := [_, _, _, _, _, _, _, _, _, _]) C dX7_copy_161 rfl (by decide) rfl rfl ?_
                        refine aw_iconst (n := 164) C dX7_copy_163 rfl ?_
                        refine aw_istw (n := 166) (L' := [_, _, _, _, _, _, _, _, _, _]) C dX7_copy_164 rfl (by decide) rfl rfl ?_
                        first | (have := d_copy_f (S := st2 S 66 0 0) (k := k) (i := i) (o := o) (j := j) (n := n) (y := 1) (by omega) (by omega) (by omega) (by omega) (by omega) (by omega) (by omega) C hret (by rw [if_neg (by omega), if_neg (by omega), if_neg (by omega), if_neg (by omega)]; exact ⟨rfl, rfl⟩) n.toNat 0 none (by omega); rw [show ((0 : Nat) : Int) = 0 from rfl, cpR_0] at this; exact this) | (have := d_copy_b (S := st2 S 66 0 0) (k := k) (i := i) (o := o) (j := j) (n := n) (y := 1) (by omega) (by omega) (by omega) (by omega) (by omega) (by omega) (by omega) C hret (by rw [if_neg (by omega), if_neg (by omega), if_neg (by omega), if_neg (by omega)]; exact ⟨rfl, rfl⟩) n.toNat 0 none (by omega); rw [show n - ((0 : Nat) : Int) = n by omega, cpR_0] at this; exact this) | (exfalso; omega)
                    · refine aw_aldn (n := 145) C dX7_copy_144 rfl rfl ?_
                      refine aw_iconst (n := 146) C dX7_copy_145 rfl ?_
                      refine aw_cVi (n := 149) (vs := [_]) C dX7_copy_146 rfl rfl rfl mm_X7_fails wM_X7_101 rfl rfl (Nat.le_of_ble_eq_true rfl) (d_fails) (by decide) (fun z_146 S_146 q_146 => ?_)
                      rw [q_146.1, q_146.2]
                      clear q_146 S_146 z_146
                      refine hret 149 _ _ _ dX7_copy_149 (Or.inl rfl) ?_
                      first | (exfalso; omega; done) | (rw [if_neg (by omega), if_neg (by omega), if_neg (by omega), if_pos (by omega), st2_st2]; exact ⟨rfl, rfl⟩)
              · refine aw_ildw (n := 81) C dX7_copy_79 rfl rfl ?_
                refine aw_iflt (tgt := 109) (n := 84) C dX7_copy_81 rfl rfl (by omega) (fun h_81 => ?_) (fun h_81 => ?_)
                · refine aw_iconst (n := 110) C dX7_copy_109 rfl ?_
                  refine aw_istw (n := 112) (L' := [_, _, _, _, _, _, _, _, _, _]) C dX7_copy_110 rfl (by decide) rfl rfl ?_
                  refine aw_ildw (n := 114) C dX7_copy_112 rfl rfl ?_
                  refine aw_ifeq (tgt := 144) (n := 117) C dX7_copy_114 rfl rfl (by omega) (fun h_114 => ?_) (fun h_114 => ?_)
                  · refine aw_aldn (n := 145) C dX7_copy_144 rfl rfl ?_
                    refine aw_iconst (n := 146) C dX7_copy_145 rfl ?_
                    refine aw_cVi (n := 149) (vs := [_]) C dX7_copy_146 rfl rfl rfl mm_X7_fails wM_X7_101 rfl rfl (Nat.le_of_ble_eq_true rfl) (d_fails) (by decide) (fun z_146 S_146 q_146 => ?_)
                    rw [q_146.1, q_146.2]
                    clear q_146 S_146 z_146
                    refine hret 149 _ _ _ dX7_copy_149 (Or.inl rfl) ?_
                    first | (exfalso; omega; done) | (rw [if_neg (by omega), if_neg (by omega), if_neg (by omega), if_pos (by omega), st2_st2]; exact ⟨rfl, rfl⟩)
                  · refine aw_ildw (n := 119) C dX7_copy_117 rfl rfl ?_
                    refine aw_aldn (n := 120) C dX7_copy_119 rfl rfl ?_
                    refine aw_getR (n := 123) C dX7_copy_120 rfl fl_X7_13 rfl rfl ?_
                    refine aw_ildn (n := 124) C dX7_copy_123 rfl rfl ?_
                    refine aw_iald (n := 125) C dX7_copy_124 rfl rfl (by omega) (by omega) ?_
                    rw [e8]
                    refine aw_ildn (n := 126) C dX7_copy_125 rfl rfl ?_
                    refine aw_isub (n := 127) C dX7_copy_126 rfl ?_
                    refine aw_icgt (tgt := 144) (n := 130) C dX7_copy_127 rfl rfl (by omega) (by omega) (fun h_127 => ?_) (fun h_127 => ?_)
                    · refine aw_aldn (n := 145) C dX7_copy_144 rfl rfl ?_
                      refine aw_iconst (n := 146) C dX7_copy_145 rfl ?_
                      refine aw_cVi (n := 149) (vs := [_]) C dX7_copy_146 rfl rfl rfl mm_X7_fails wM_X7_101 rfl rfl (Nat.le_of_ble_eq_true rfl) (d_fails) (by decide) (fun z_146 S_146 q_146 => ?_)
                      rw [q_146.1, q_146.2]
                      clear q_146 S_146 z_146
                      refine hret 149 _ _ _ dX7_copy_149 (Or.inl rfl) ?_
                      first | (exfalso; omega; done) | (rw [if_neg (by omega), if_neg (by omega), if_neg (by omega), if_pos (by omega), st2_st2]; exact ⟨rfl, rfl⟩)
                    · refine aw_ildw (n := 132) C dX7_copy_130 rfl rfl ?_
                      refine aw_aldn (n := 133) C dX7_copy_132 rfl rfl ?_
                      refine aw_getR (n := 136) C dX7_copy_133 rfl fl_X7_13 rfl rfl ?_
                      refine aw_ildn (n := 137) C dX7_copy_136 rfl rfl ?_
                      refine aw_iald (n := 138) C dX7_copy_137 rfl rfl (by omega) (by omega) ?_
                      rw [e8]
                      refine aw_ildw (n := 140) C dX7_copy_138 rfl rfl ?_
                      refine aw_isub (n := 141) C dX7_copy_140 rfl ?_
                      refine aw_icle (tgt := 150) (n := 144) C dX7_copy_141 rfl rfl (by omega) (by omega) (fun h_141 => ?_) (fun h_141 => ?_)
                      · refine aw_ildn (n := 151) C dX7_copy_150 rfl rfl ?_
                        refine aw_ildw (n := 153) C dX7_copy_151 rfl rfl ?_
                        refine aw_icge (tgt := 160) (n := 156) C dX7_copy_153 rfl rfl (by omega) (by omega) (fun h_153 => ?_) (fun h_153 => ?_)
                        · refine aw_iconst (n := 161) C dX7_copy_160 rfl ?_
                          refine aw_istw (n := 163) (L' := [_, _, _, _, _, _, _, _, _, _]) C dX7_copy_161 rfl (by decide) rfl rfl ?_
                          refine aw_iconst (n := 164) C dX7_copy_163 rfl ?_
                          refine aw_istw (n := 166) (L' := [_, _, _, _, _, _, _, _, _, _]) C dX7_copy_164 rfl (by decide) rfl rfl ?_
                          first | (have := d_copy_f (S := st2 S 66 0 0) (k := k) (i := i) (o := o) (j := j) (n := n) (y := 1) (by omega) (by omega) (by omega) (by omega) (by omega) (by omega) (by omega) C hret (by rw [if_neg (by omega), if_neg (by omega), if_neg (by omega), if_neg (by omega)]; exact ⟨rfl, rfl⟩) n.toNat 0 none (by omega); rw [show ((0 : Nat) : Int) = 0 from rfl, cpR_0] at this; exact this) | (have := d_copy_b (S := st2 S 66 0 0) (k := k) (i := i) (o := o) (j := j) (n := n) (y := 1) (by omega) (by omega) (by omega) (by omega) (by omega) (by omega) (by omega) C hret (by rw [if_neg (by omega), if_neg (by omega), if_neg (by omega), if_neg (by omega)]; exact ⟨rfl, rfl⟩) n.toNat 0 none (by omega); rw [show n - ((0 : Nat) : Int) = n by omega, cpR_0] at this; exact this) | (exfalso; omega)
                        · refine aw_iconst (n := 157) C dX7_copy_156 rfl ?_
                          refine aw_goto (tgt := 161) C dX7_copy_157 rfl ?_
                          refine aw_istw (n := 163) (L' := [_, _, _, _, _, _, _, _, _, _]) C dX7_copy_161 rfl (by decide) rfl rfl ?_
                          refine aw_iconst (n := 164) C dX7_copy_163 rfl ?_
                          refine aw_istw (n := 166) (L' := [_, _, _, _, _, _, _, _, _, _]) C dX7_copy_164 rfl (by decide) rfl rfl ?_
                          first | (have := d_copy_f (S := st2 S 66 0 0) (k := k) (i := i) (o := o) (j := j) (n := n) (y := 1) (by omega) (by omega) (by omega) (by omega) (by omega) (by omega) (by omega) C hret (by rw [if_neg (by omega), if_neg (by omega), if_neg (by omega), if_neg (by omega)]; exact ⟨rfl, rfl⟩) n.toNat 0 none (by omega); rw [show ((0 : Nat) : Int) = 0 from rfl, cpR_0] at this; exact this) | (have := d_copy_b (S := st2 S 66 0 0) (k := k) (i := i) (o := o) (j := j) (n := n) (y := 1) (by omega) (by omega) (by omega) (by omega) (by omega) (by omega) (by omega) C hret (by rw [if_neg (by omega), if_neg (by omega), if_neg (by omega), if_neg (by omega)]; exact ⟨rfl, rfl⟩) n.toNat 0 none (by omega); rw [show n - ((0 : Nat) : Int) = n by omega, cpR_0] at this; exact this) | (exfalso; omega)
                      · refine aw_aldn (n := 145) C dX7_copy_144 rfl rfl ?_
                        refine aw_iconst (n := 146) C dX7_copy_145 rfl ?_
                        refine aw_cVi (n := 149) (vs := [_]) C dX7_copy_146 rfl rfl rfl mm_X7_fails wM_X7_101 rfl rfl (Nat.le_of_ble_eq_true rfl) (d_fails) (by decide) (fun z_146 S_146 q_146 => ?_)
                        rw [q_146.1, q_146.2]
                        clear q_146 S_146 z_146
                        refine hret 149 _ _ _ dX7_copy_149 (Or.inl rfl) ?_
                        first | (exfalso; omega; done) | (rw [if_neg (by omega), if_neg (by omega), if_neg (by omega), if_pos (by omega), st2_st2]; exact ⟨rfl, rfl⟩)
                · refine aw_ildn (n := 85) C dX7_copy_84 rfl rfl ?_
                  refine aw_aldn (n := 86) C dX7_copy_85 rfl rfl ?_
                  refine aw_getR (n := 89) C dX7_copy_86 rfl fl_X7_13 rfl rfl ?_
                  refine aw_ildn (n := 90) C dX7_copy_89 rfl rfl ?_
                  refine aw_iald (n := 91) C dX7_copy_90 rfl rfl (by omega) (by omega) ?_
                  rw [e8]
                  refine aw_icgt (tgt := 109) (n := 94) C dX7_copy_91 rfl rfl (by omega) (by omega) (fun h_91 => ?_) (fun h_91 => ?_)
                  · refine aw_iconst (n := 110) C dX7_copy_109 rfl ?_
                    refine aw_istw (n := 112) (L' := [_, _, _, _, _, _, _, _, _, _]) C dX7_copy_110 rfl (by decide) rfl rfl ?_
                    refine aw_ildw (n := 114) C dX7_copy_112 rfl rfl ?_
                    refine aw_ifeq (tgt := 144) (n := 117) C dX7_copy_114 rfl rfl (by omega) (fun h_114 => ?_) (fun h_114 => ?_)
                    · refine aw_aldn (n := 145) C dX7_copy_144 rfl rfl ?_
                      refine aw_iconst (n := 146) C dX7_copy_145 rfl ?_
                      refine aw_cVi (n := 149) (vs := [_]) C dX7_copy_146 rfl rfl rfl mm_X7_fails wM_X7_101 rfl rfl (Nat.le_of_ble_eq_true rfl) (d_fails) (by decide) (fun z_146 S_146 q_146 => ?_)
                      rw [q_146.1, q_146.2]
                      clear q_146 S_146 z_146
                      refine hret 149 _ _ _ dX7_copy_149 (Or.inl rfl) ?_
                      first | (exfalso; omega; done) | (rw [if_neg (by omega), if_neg (by omega), if_neg (by omega), if_pos (by omega), st2_st2]; exact ⟨rfl, rfl⟩)
                    · refine aw_ildw (n := 119) C dX7_copy_117 rfl rfl ?_
                      refine aw_aldn (n := 120) C dX7_copy_119 rfl rfl ?_
                      refine aw_getR (n := 123) C dX7_copy_120 rfl fl_X7_13 rfl rfl ?_
                      refine aw_ildn (n := 124) C dX7_copy_123 rfl rfl ?_
                      refine aw_iald (n := 125) C dX7_copy_124 rfl rfl (by omega) (by omega) ?_
                      rw [e8]
                      refine aw_ildn (n := 126) C dX7_copy_125 rfl rfl ?_
                      refine aw_isub (n := 127) C dX7_copy_126 rfl ?_
                      refine aw_icgt (tgt := 144) (n := 130) C dX7_copy_127 rfl rfl (by omega) (by omega) (fun h_127 => ?_) (fun h_127 => ?_)
                      · refine aw_aldn (n := 145) C dX7_copy_144 rfl rfl ?_
                        refine aw_iconst (n := 146) C dX7_copy_145 rfl ?_
                        refine aw_cVi (n := 149) (vs := [_]) C dX7_copy_146 rfl rfl rfl mm_X7_fails wM_X7_101 rfl rfl (Nat.le_of_ble_eq_true rfl) (d_fails) (by decide) (fun z_146 S_146 q_146 => ?_)
                        rw [q_146.1, q_146.2]
                        clear q_146 S_146 z_146
                        refine hret 149 _ _ _ dX7_copy_149 (Or.inl rfl) ?_
                        first | (exfalso; omega; done) | (rw [if_neg (by omega), if_neg (by omega), if_neg (by omega), if_pos (by omega), st2_st2]; exact ⟨rfl, rfl⟩)
                      · refine aw_ildw (n := 132) C dX7_copy_130 rfl rfl ?_
                        refine aw_aldn (n := 133) C dX7_copy_132 rfl rfl ?_
                        refine aw_getR (n := 136) C dX7_copy_133 rfl fl_X7_13 rfl rfl ?_
                        refine aw_ildn (n := 137) C dX7_copy_136 rfl rfl ?_
                        refine aw_iald (n := 138) C dX7_copy_137 rfl rfl (by omega) (by omega) ?_
                        rw [e8]
                        refine aw_ildw (n := 140) C dX7_copy_138 rfl rfl ?_
                        refine aw_isub (n := 141) C dX7_copy_140 rfl ?_
                        refine aw_icle (tgt := 150) (n := 144) C dX7_copy_141 rfl rfl (by omega) (by omega) (fun h_141 => ?_) (fun h_141 => ?_)
                        · refine aw_ildn (n := 151) C dX7_copy_150 rfl rfl ?_
                          refine aw_ildw (n := 153) C dX7_copy_151 rfl rfl ?_
                          refine aw_icge (tgt := 160) (n := 156) C dX7_copy_153 rfl rfl (by omega) (by omega) (fun h_153 => ?_) (fun h_153 => ?_)
                          · refine aw_iconst (n := 161) C dX7_copy_160 rfl ?_
                            refine aw_istw (n := 163) (L' := [_, _, _, _, _, _, _, _, _, _]) C dX7_copy_161 rfl (by decide) rfl rfl ?_
                            refine aw_iconst (n := 164) C dX7_copy_163 rfl ?_
                            refine aw_istw (n := 166) (L' := [_, _, _, _, _, _, _, _, _, _]) C dX7_copy_164 rfl (by decide) rfl rfl ?_
                            first | (have := d_copy_f (S := st2 S 66 0 0) (k := k) (i := i) (o := o) (j := j) (n := n) (y := 1) (by omega) (by omega) (by omega) (by omega) (by omega) (by omega) (by omega) C hret (by rw [if_neg (by omega), if_neg (by omega), if_neg (by omega), if_neg (by omega)]; exact ⟨rfl, rfl⟩) n.toNat 0 none (by omega); rw [show ((0 : Nat) : Int) = 0 from rfl, cpR_0] at this; exact this) | (have := d_copy_b (S := st2 S 66 0 0) (k := k) (i := i) (o := o) (j := j) (n := n) (y := 1) (by omega) (by omega) (by omega) (by omega) (by omega) (by omega) (by omega) C hret (by rw [if_neg (by omega), if_neg (by omega), if_neg (by omega), if_neg (by omega)]; exact ⟨rfl, rfl⟩) n.toNat 0 none (by omega); rw [show n - ((0 : Nat) : Int) = n by omega, cpR_0] at this; exact this) | (exfalso; omega)
                          · refine aw_iconst (n := 157) C dX7_copy_156 rfl ?_
                            refine aw_goto (tgt := 161) C dX7_copy_157 rfl ?_
                            refine aw_istw (n := 163) (L' := [_, _, _, _, _, _, _, _, _, _]) C dX7_copy_161 rfl (by decide) rfl rfl ?_
                            refine aw_iconst (n := 164) C dX7_copy_163 rfl ?_
                            refine aw_istw (n := 166) (L' := [_, _, _, _, _, _, _, _, _, _]) C dX7_copy_164 rfl (by decide) rfl rfl ?_
                            first | (have := d_copy_f (S := st2 S 66 0 0) (k := k) (i := i) (o := o) (j := j) (n := n) (y := 1) (by omega) (by omega) (by omega) (by omega) (by omega) (by omega) (by omega) C hret (by rw [if_neg (by omega), if_neg (by omega), if_neg (by omega), if_neg (by omega)]; exact ⟨rfl, rfl⟩) n.toNat 0 none (by omega); rw [show ((0 : Nat) : Int) = 0 from rfl, cpR_0] at this; exact this) | (have := d_copy_b (S := st2 S 66 0 0) (k := k) (i := i) (o := o) (j := j) (n := n) (y := 1) (by omega) (by omega) (by omega) (by omega) (by omega) (by omega) (by omega) C hret (by rw [if_neg (by omega), if_neg (by omega), if_neg (by omega), if_neg (by omega)]; exact ⟨rfl, rfl⟩) n.toNat 0 none (by omega); rw [show n - ((0 : Nat) : Int) = n by omega, cpR_0] at this; exact this) | (exfalso; omega)
                        · refine aw_aldn (n := 145) C dX7_copy_144 rfl rfl ?_
                          refine aw_iconst (n := 146) C dX7_copy_145 rfl ?_
                          refine aw_cVi (n := 149) (vs := [_]) C dX7_copy_146 rfl rfl rfl mm_X7_fails wM_X7_101 rfl rfl (Nat.le_of_ble_eq_true rfl) (d_fails) (by decide) (fun z_146 S_146 q_146 => ?_)
                          rw [q_146.1, q_146.2]
                          clear q_146 S_146 z_146
                          refine hret 149 _ _ _ dX7_copy_149 (Or.inl rfl) ?_
                          first | (exfalso; omega; done) | (rw [if_neg (by omega), if_neg (by omega), if_neg (by omega), if_pos (by omega), st2_st2]; exact ⟨rfl, rfl⟩)
                  · refine aw_ildw (n := 96) C dX7_copy_94 rfl rfl ?_
                    refine aw_aldn (n := 97) C dX7_copy_96 rfl rfl ?_
                    refine aw_getR (n := 100) C dX7_copy_97 rfl fl_X7_13 rfl rfl ?_
                    refine aw_ildn (n := 101) C dX7_copy_100 rfl rfl ?_
                    refine aw_iald (n := 102) C dX7_copy_101 rfl rfl (by omega) (by omega) ?_
                    rw [e8]
                    refine aw_icgt (tgt := 109) (n := 105) C dX7_copy_102 rfl rfl (by omega) (by omega) (fun h_102 => ?_) (fun h_102 => ?_)
                    · refine aw_iconst (n := 110) C dX7_copy_109 rfl ?_
                      refine aw_istw (n := 112) (L' := [_, _, _, _, _, _, _, _, _, _]) C dX7_copy_110 rfl (by decide) rfl rfl ?_
                      refine aw_ildw (n := 114) C dX7_copy_112 rfl rfl ?_
                      refine aw_ifeq (tgt := 144) (n := 117) C dX7_copy_114 rfl rfl (by omega) (fun h_114 => ?_) (fun h_114 => ?_)
                      · refine aw_aldn (n := 145) C dX7_copy_144 rfl rfl ?_
                        refine aw_iconst (n := 146) C dX7_copy_145 rfl ?_
                        refine aw_cVi (n := 149) (vs := [_]) C dX7_copy_146 rfl rfl rfl mm_X7_fails wM_X7_101 rfl rfl (Nat.le_of_ble_eq_true rfl) (d_fails) (by decide) (fun z_146 S_146 q_146 => ?_)
                        rw [q_146.1, q_146.2]
                        clear q_146 S_146 z_146
                        refine hret 149 _ _ _ dX7_copy_149 (Or.inl rfl) ?_
                        first | (exfalso; omega; done) | (rw [if_neg (by omega), if_neg (by omega), if_neg (by omega), if_pos (by omega), st2_st2]; exact ⟨rfl, rfl⟩)
                      · refine aw_ildw (n := 119) C dX7_copy_117 rfl rfl ?_
                        refine aw_aldn (n := 120) C dX7_copy_119 rfl rfl ?_
                        refine aw_getR (n := 123) C dX7_copy_120 rfl fl_X7_13 rfl rfl ?_
                        refine aw_ildn (n := 124) C dX7_copy_123 rfl rfl ?_
                        refine aw_iald (n := 125) C dX7_copy_124 rfl rfl (by omega) (by omega) ?_
                        rw [e8]
                        refine aw_ildn (n := 126) C dX7_copy_125 rfl rfl ?_
                        refine aw_isub (n := 127) C dX7_copy_126 rfl ?_
                        refine aw_icgt (tgt := 144) (n := 130) C dX7_copy_127 rfl rfl (by omega) (by omega) (fun h_127 => ?_) (fun h_127 => ?_)
                        · refine aw_aldn (n := 145) C dX7_copy_144 rfl rfl ?_
                          refine aw_iconst (n := 146) C dX7_copy_145 rfl ?_
                          refine aw_cVi (n := 149) (vs := [_]) C dX7_copy_146 rfl rfl rfl mm_X7_fails wM_X7_101 rfl rfl (Nat.le_of_ble_eq_true rfl) (d_fails) (by decide) (fun z_146 S_146 q_146 => ?_)
                          rw [q_146.1, q_146.2]
                          clear q_146 S_146 z_146
                          refine hret 149 _ _ _ dX7_copy_149 (Or.inl rfl) ?_
                          first | (exfalso; omega; done) | (rw [if_neg (by omega), if_neg (by omega), if_neg (by omega), if_pos (by omega), st2_st2]; exact ⟨rfl, rfl⟩)
                        · refine aw_ildw (n := 132) C dX7_copy_130 rfl rfl ?_
                          refine aw_aldn (n := 133) C dX7_copy_132 rfl rfl ?_
                          refine aw_getR (n := 136) C dX7_copy_133 rfl fl_X7_13 rfl rfl ?_
                          refine aw_ildn (n := 137) C dX7_copy_136 rfl rfl ?_
                          refine aw_iald (n := 138) C dX7_copy_137 rfl rfl (by omega) (by omega) ?_
                          rw [e8]
                          refine aw_ildw (n := 140) C dX7_copy_138 rfl rfl ?_
                          refine aw_isub (n := 141) C dX7_copy_140 rfl ?_
                          refine aw_icle (tgt := 150) (n := 144) C dX7_copy_141 rfl rfl (by omega) (by omega) (fun h_141 => ?_) (fun h_141 => ?_)
                          · refine aw_ildn (n := 151) C dX7_copy_150 rfl rfl ?_
                            refine aw_ildw (n := 153) C dX7_copy_151 rfl rfl ?_
                            refine aw_icge (tgt := 160) (n := 156) C dX7_copy_153 rfl rfl (by omega) (by omega) (fun h_153 => ?_) (fun h_153 => ?_)
                            · refine aw_iconst (n := 161) C dX7_copy_160 rfl ?_
                              refine aw_istw (n := 163) (L' := [_, _, _, _, _, _, _, _, _, _]) C dX7_copy_161 rfl (by decide) rfl rfl ?_
                              refine aw_iconst (n := 164) C dX7_copy_163 rfl ?_
                              refine aw_istw (n := 166) (L' := [_, _, _, _, _, _, _, _, _, _]) C dX7_copy_164 rfl (by decide) rfl rfl ?_
                              first | (have := d_copy_f (S := st2 S 66 0 0) (k := k) (i := i) (o := o) (j := j) (n := n) (y := 1) (by omega) (by omega) (by omega) (by omega) (by omega) (by omega) (by omega) C hret (by rw [if_neg (by omega), if_neg (by omega), if_neg (by omega), if_neg (by omega)]; exact ⟨rfl, rfl⟩) n.toNat 0 none (by omega); rw [show ((0 : Nat) : Int) = 0 from rfl, cpR_0] at this; exact this) | (have := d_copy_b (S := st2 S 66 0 0) (k := k) (i := i) (o := o) (j := j) (n := n) (y := 1) (by omega) (by omega) (by omega) (by omega) (by omega) (by omega) (by omega) C hret (by rw [if_neg (by omega), if_neg (by omega), if_neg (by omega), if_neg (by omega)]; exact ⟨rfl, rfl⟩) n.toNat 0 none (by omega); rw [show n - ((0 : Nat) : Int) = n by omega, cpR_0] at this; exact this) | (exfalso; omega)
                            · refine aw_iconst (n := 157) C dX7_copy_156 rfl ?_
                              refine aw_goto (tgt := 161) C dX7_copy_157 rfl ?_
                              refine aw_istw (n := 163) (L' := [_, _, _, _, _, _, _, _, _, _]) C dX7_copy_161 rfl (by decide) rfl rfl ?_
                              refine aw_iconst (n := 164) C dX7_copy_163 rfl ?_
                              refine aw_istw (n := 166) (L' := [_, _, _, _, _, _, _, _, _, _]) C dX7_copy_164 rfl (by decide) rfl rfl ?_
                              first | (have := d_copy_f (S := st2 S 66 0 0) (k := k) (i := i) (o := o) (j := j) (n := n) (y := 1) (by omega) (by omega) (by omega) (by omega) (by omega) (by omega) (by omega) C hret (by rw [if_neg (by omega), if_neg (by omega), if_neg (by omega), if_neg (by omega)]; exact ⟨rfl, rfl⟩) n.toNat 0 none (by omega); rw [show ((0 : Nat) : Int) = 0 from rfl, cpR_0] at this; exact this) | (have := d_copy_b (S := st2 S 66 0 0) (k := k) (i := i) (o := o) (j := j) (n := n) (y := 1) (by omega) (by omega) (by omega) (by omega) (by omega) (by omega) (by omega) C hret (by rw [if_neg (by omega), if_neg (by omega), if_neg (by omega), if_neg (by omega)]; exact ⟨rfl, rfl⟩) n.toNat 0 none (by omega); rw [show n - ((0 : Nat) : Int) = n by omega, cpR_0] at this; exact this) | (exfalso; omega)
                          · refine aw_aldn (n := 145) C dX7_copy_144 rfl rfl ?_
                            refine aw_iconst (n := 146) C dX7_copy_145 rfl ?_
                            refine aw_cVi (n := 149) (vs := [_]) C dX7_copy_146 rfl rfl rfl mm_X7_fails wM_X7_101 rfl rfl (Nat.le_of_ble_eq_true rfl) (d_fails) (by decide) (fun z_146 S_146 q_146 => ?_)
                            rw [q_146.1, q_146.2]
                            clear q_146 S_146 z_146
                            refine hret 149 _ _ _ dX7_copy_149 (Or.inl rfl) ?_
                            first | (exfalso; omega; done) | (rw [if_neg (by omega), if_neg (by omega), if_neg (by omega), if_pos (by omega), st2_st2]; exact ⟨rfl, rfl⟩)
                    · refine aw_iconst (n := 106) C dX7_copy_105 rfl ?_
                      refine aw_goto (tgt := 110) C dX7_copy_106 rfl ?_
                      refine aw_istw (n := 112) (L' := [_, _, _, _, _, _, _, _, _, _]) C dX7_copy_110 rfl (by decide) rfl rfl ?_
                      refine aw_ildw (n := 114) C dX7_copy_112 rfl rfl ?_
                      refine aw_ifeq (tgt := 144) (n := 117) C dX7_copy_114 rfl rfl (by omega) (fun h_114 => ?_) (fun h_114 => ?_)
                      · refine aw_aldn (n := 145) C dX7_copy_144 rfl rfl ?_
                        refine aw_iconst (n := 146) C dX7_copy_145 rfl ?_
                        refine aw_cVi (n := 149) (vs := [_]) C dX7_copy_146 rfl rfl rfl mm_X7_fails wM_X7_101 rfl rfl (Nat.le_of_ble_eq_true rfl) (d_fails) (by decide) (fun z_146 S_146 q_146 => ?_)
                        rw [q_146.1, q_146.2]
                        clear q_146 S_146 z_146
                        refine hret 149 _ _ _ dX7_copy_149 (Or.inl rfl) ?_
                        first | (exfalso; omega; done) | (rw [if_neg (by omega), if_neg (by omega), if_neg (by omega), if_pos (by omega), st2_st2]; exact ⟨rfl, rfl⟩)
                      · refine aw_ildw (n := 119) C dX7_copy_117 rfl rfl ?_
                        refine aw_aldn (n := 120) C dX7_copy_119 rfl rfl ?_
                        refine aw_getR (n := 123) C dX7_copy_120 rfl fl_X7_13 rfl rfl ?_
                        refine aw_ildn (n := 124) C dX7_copy_123 rfl rfl ?_
                        refine aw_iald (n := 125) C dX7_copy_124 rfl rfl (by omega) (by omega) ?_
                        rw [e8]
                        refine aw_ildn (n := 126) C dX7_copy_125 rfl rfl ?_
                        refine aw_isub (n := 127) C dX7_copy_126 rfl ?_
                        refine aw_icgt (tgt := 144) (n := 130) C dX7_copy_127 rfl rfl (by omega) (by omega) (fun h_127 => ?_) (fun h_127 => ?_)
                        · refine aw_aldn (n := 145) C dX7_copy_144 rfl rfl ?_
                          refine aw_iconst (n := 146) C dX7_copy_145 rfl ?_
                          refine aw_cVi (n := 149) (vs := [_]) C dX7_copy_146 rfl rfl rfl mm_X7_fails wM_X7_101 rfl rfl (Nat.le_of_ble_eq_true rfl) (d_fails) (by decide) (fun z_146 S_146 q_146 => ?_)
                          rw [q_146.1, q_146.2]
                          clear q_146 S_146 z_146
                          refine hret 149 _ _ _ dX7_copy_149 (Or.inl rfl) ?_
                          first | (exfalso; omega; done) | (rw [if_neg (by omega), if_neg (by omega), if_neg (by omega), if_pos (by omega), st2_st2]; exact ⟨rfl, rfl⟩)
                        · refine aw_ildw (n := 132) C dX7_copy_130 rfl rfl ?_
                          refine aw_aldn (n := 133) C dX7_copy_132 rfl rfl ?_
                          refine aw_getR (n := 136) C dX7_copy_133 rfl fl_X7_13 rfl rfl ?_
                          refine aw_ildn (n := 137) C dX7_copy_136 rfl rfl ?_
                          refine aw_iald (n := 138) C dX7_copy_137 rfl rfl (by omega) (by omega) ?_
                          rw [e8]
                          refine aw_ildw (n := 140) C dX7_copy_138 rfl rfl ?_
                          refine aw_isub (n := 141) C dX7_copy_140 rfl ?_
                          refine aw_icle (tgt := 150) (n := 144) C dX7_copy_141 rfl rfl (by omega) (by omega) (fun h_141 => ?_) (fun h_141 => ?_)
                          · refine aw_ildn (n := 151) C dX7_copy_150 rfl rfl ?_
                            refine aw_ildw (n := 153) C dX7_copy_151 rfl rfl ?_
                            refine aw_icge (tgt := 160) (n := 156) C dX7_copy_153 rfl rfl (by omega) (by omega) (fun h_153 => ?_) (fun h_153 => ?_)
                            · refine aw_iconst (n := 161) C dX7_copy_160 rfl ?_
                              refine aw_istw (n := 163) (L' := [_, _, _, _, _, _, _, _, _, _]) C dX7_copy_161 rfl (by decide) rfl rfl ?_
                              refine aw_iconst (n := 164) C dX7_copy_163 rfl ?_
                              refine aw_istw (n := 166) (L' := [_, _, _, _, _, _, _, _, _, _]) C dX7_copy_164 rfl (by decide) rfl rfl ?_
                              first | (have := d_copy_f (S := st2 S 66 0 0) (k := k) (i := i) (o := o) (j := j) (n := n) (y := 1) (by omega) (by omega) (by omega) (by omega) (by omega) (by omega) (by omega) C hret (by rw [if_neg (by omega), if_neg (by omega), if_neg (by omega), if_neg (by omega)]; exact ⟨rfl, rfl⟩) n.toNat 0 none (by omega); rw [show ((0 : Nat) : Int) = 0 from rfl, cpR_0] at this; exact this) | (have := d_copy_b (S := st2 S 66 0 0) (k := k) (i := i) (o := o) (j := j) (n := n) (y := 1) (by omega) (by omega) (by omega) (by omega) (by omega) (by omega) (by omega) C hret (by rw [if_neg (by omega), if_neg (by omega), if_neg (by omega), if_neg (by omega)]; exact ⟨rfl, rfl⟩) n.toNat 0 none (by omega); rw [show n - ((0 : Nat) : Int) = n by omega, cpR_0] at this; exact this) | (exfalso; omega)
                            · refine aw_iconst (n := 157) C dX7_copy_156 rfl ?_
                              refine aw_goto (tgt := 161) C dX7_copy_157 rfl ?_
                              refine aw_istw (n := 163) (L' := [_, _, _, _, _, _, _, _, _, _]) C dX7_copy_161 rfl (by decide) rfl rfl ?_
                              refine aw_iconst (n := 164) C dX7_copy_163 rfl ?_
                              refine aw_istw (n := 166) (L' := [_, _, _, _, _, _, _, _, _, _]) C dX7_copy_164 rfl (by decide) rfl rfl ?_
                              first | (have := d_copy_f (S := st2 S 66 0 0) (k := k) (i := i) (o := o) (j := j) (n := n) (y := 1) (by omega) (by omega) (by omega) (by omega) (by omega) (by omega) (by omega) C hret (by rw [if_neg (by omega), if_neg (by omega), if_neg (by omega), if_neg (by omega)]; exact ⟨rfl, rfl⟩) n.toNat 0 none (by omega); rw [show ((0 : Nat) : Int) = 0 from rfl, cpR_0] at this; exact this) | (have := d_copy_b (S := st2 S 66 0 0) (k := k) (i := i) (o := o) (j := j) (n := n) (y := 1) (by omega) (by omega) (by omega) (by omega) (by omega) (by omega) (by omega) C hret (by rw [if_neg (by omega), if_neg (by omega), if_neg (by omega), if_neg (by omega)]; exact ⟨rfl, rfl⟩) n.toNat 0 none (by omega); rw [show n - ((0 : Nat) : Int) = n by omega, cpR_0] at this; exact this) | (exfalso; omega)
                          · refine aw_aldn (n := 145) C dX7_copy_144 rfl rfl ?_
                            refine aw_iconst (n := 146) C dX7_copy_145 rfl ?_
                            refine aw_cVi (n := 149) (vs := [_]) C dX7_copy_146 rfl rfl rfl mm_X7_fails wM_X7_101 rfl rfl (Nat.le_of_ble_eq_true rfl) (d_fails) (by decide) (fun z_146 S_146 q_146 => ?_)
                            rw [q_146.1, q_146.2]
                            clear q_146 S_146 z_146
                            refine hret 149 _ _ _ dX7_copy_149 (Or.inl rfl) ?_
                            first | (exfalso; omega; done) | (rw [if_neg (by omega), if_neg (by omega), if_neg (by omega), if_pos (by omega), st2_st2]; exact ⟨rfl, rfl⟩)
          · refine aw_aldn (n := 65) C dX7_copy_64 rfl rfl ?_
            refine aw_iconst (n := 66) C dX7_copy_65 rfl ?_
            refine aw_cVi (n := 69) (vs := [_]) C dX7_copy_66 rfl rfl rfl mm_X7_fails wM_X7_101 rfl rfl (Nat.le_of_ble_eq_true rfl) (d_fails) (by decide) (fun z_66 S_66 q_66 => ?_)
            rw [q_66.1, q_66.2]
            clear q_66 S_66 z_66
            refine hret 69 _ _ _ dX7_copy_69 (Or.inl rfl) ?_
            rw [if_neg (by omega), if_neg (by omega), if_pos (by omega), st2_st2]
            exact ⟨rfl, rfl⟩
        · refine aw_aldn (n := 44) C dX7_copy_43 rfl rfl ?_
          refine aw_iconst (n := 45) C dX7_copy_44 rfl ?_
          refine aw_cVi (n := 48) (vs := [_]) C dX7_copy_45 rfl rfl rfl mm_X7_fails wM_X7_101 rfl rfl (Nat.le_of_ble_eq_true rfl) (d_fails) (by decide) (fun z_45 S_45 q_45 => ?_)
          rw [q_45.1, q_45.2]
          clear q_45 S_45 z_45
          refine hret 48 _ _ _ dX7_copy_48 (Or.inl rfl) ?_
          rw [if_neg (by omega), if_pos (by omega), st2_st2]
          exact ⟨rfl, rfl⟩
    · refine aw_iconst (n := 20) C dX7_copy_19 rfl ?_
      refine hret 20 _ _ _ dX7_copy_20 (Or.inl rfl) ?_
      rw [if_pos (by omega)]
      exact ⟨rfl, rfl⟩
theorem d_begins {b : Int} : AMv 0 yX7_begins cX7_begins 2 [.inr (.inr 66), .inl b] S (fun S' => S' = st2 S 66 1 (31 * S 66 1 + b)) := by
  refine amv_intro (L := [_, _]) (by decide) rfl (Nat.le_of_ble_eq_true rfl) (fun X C hret => ?_)
  refine aw_aldn (n := 1) C dX7_begins_0 rfl rfl ?_
  refine aw_bipush (n := 3) C dX7_begins_1 rfl rfl ?_
  refine aw_aldn (n := 4) C dX7_begins_3 rfl rfl ?_
  refine aw_getI (z := 1) (n := 7) C dX7_begins_4 rfl fl_X7_229 rfl rfl rfl ?_
  refine aw_imul (n := 8) C dX7_begins_7 rfl ?_
  refine aw_ildn (n := 9) C dX7_begins_8 rfl rfl ?_
  refine aw_iadd (n := 10) C dX7_begins_9 rfl ?_
  refine aw_put (z := 1) (n := 13) C dX7_begins_10 rfl fp_X7_229 rfl rfl rfl (Or.inl rfl) ?_
  refine hret 13 _ _ dX7_begins_13 ?_
  exact rfl
theorem m_tell (hp : rng p) (W : MW S) : AMi 1 yX7_tell cX7_tell 3 (some .int) [.inr (.inr 66), .inl p] S (fun z S' => z = (if p < 0 ∨ S 66 6 ≤ p then -1 else anT (S 74 p) (S 76 p)) ∧ S' = (if p < 0 ∨ S 66 6 ≤ p then S else st2 S 66 1 (trT (S 74 p) (S 66 1)))) := by
  obtain ⟨t1, t2, t3, t4, t5, t6⟩ := id W
  unfold anT trT
  refine ami_intro (L := [_, _, none]) (by decide) (Or.inl rfl) rfl (Nat.le_of_ble_eq_true rfl) (fun X C hret => ?_)
  refine aw_aldn (n := 1) C dX7_tell_0 rfl rfl ?_
  refine aw_ildn (n := 2) C dX7_tell_1 rfl rfl ?_
  refine aw_cVi (n := 5) (vs := [_]) C dX7_tell_2 rfl rfl rfl mm_X7_isPassenger wM_X7_137 rfl rfl (Nat.le_of_ble_eq_true rfl) (d_isPassenger hp (by omega)) (by decide) (fun z_2 S_2 q_2 => ?_)
  rw [q_2.1, q_2.2]
  clear q_2 S_2 z_2
  refine aw_ifne (tgt := 10) (n := 8) C dX7_tell_5 rfl rfl (by omega) (fun h_5 => ?_) (fun h_5 => ?_)
  · have b6 := t6 p (by omega) (by omega)
    refine aw_aldn (n := 11) C dX7_tell_10 rfl rfl ?_
    refine aw_getR (n := 14) C dX7_tell_11 rfl fl_X7_38 rfl rfl ?_
    refine aw_ildn (n := 15) C dX7_tell_14 rfl rfl ?_
    refine aw_iald (n := 16) C dX7_tell_15 rfl rfl (by omega) (by omega) ?_
    refine aw_istn (n := 17) (L' := [_, _, _]) C dX7_tell_16 rfl (by decide) rfl rfl ?_
    refine aw_aldn (n := 18) C dX7_tell_17 rfl rfl ?_
    refine aw_getR (n := 21) C dX7_tell_18 rfl fl_X7_32 rfl rfl ?_
    refine aw_ildn (n := 22) C dX7_tell_21 rfl rfl ?_
    refine aw_iald (n := 23) C dX7_tell_22 rfl rfl (by omega) (by omega) ?_
    by_cases e1 : S 74 p = 1
    · refine aw_lookup (tgt := 48) (off := 25) C dX7_tell_23 (by omega) rfl (by rw [e1]; rfl) rfl ?_
      refine aw_aldn (n := 49) C dX7_tell_48 rfl rfl ?_
      refine aw_iconst (n := 50) C dX7_tell_49 rfl ?_
      refine aw_cVv (n := 53) (vs := [_]) C dX7_tell_50 rfl rfl rfl mm_X7_begins wM_X7_232 rfl rfl (Nat.le_of_ble_eq_true rfl) (d_begins) (by decide) (fun S_50 q_50 => ?_)
      rw [q_50]
      clear q_50 S_50
      refine aw_aldn (n := 54) C dX7_tell_53 rfl rfl ?_
      refine aw_iconst (n := 55) C dX7_tell_54 rfl ?_
      refine aw_cVv (n := 58) (vs := [_]) C dX7_tell_55 rfl rfl rfl mm_X7_begins wM_X7_232 rfl rfl (Nat.le_of_ble_eq_true rfl) (d_begins) (by decide) (fun S_55 q_55 => ?_)
      rw [q_55]
      clear q_55 S_55
      refine aw_ildn (n := 59) C dX7_tell_58 rfl rfl ?_
      refine aw_bipush (n := 61) C dX7_tell_59 rfl rfl ?_
      refine aw_iadd (n := 62) C dX7_tell_61 rfl ?_
      refine hret 62 _ _ _ dX7_tell_62 (Or.inl rfl) ?_
      refine ⟨by rw [if_neg (by omega)]; omega, ?_⟩
      rw [if_neg (by omega), if_neg (by omega), if_pos e1, st2_s, st2_st2]
    by_cases e2 : S 74 p = 2
    · refine aw_lookup (tgt := 63) (off := 40) C dX7_tell_23 (by omega) rfl (by rw [e2]; rfl) rfl ?_
      refine aw_aldn (n := 64) C dX7_tell_63 rfl rfl ?_
      refine aw_iconst (n := 65) C dX7_tell_64 rfl ?_
      refine aw_cVv (n := 68) (vs := [_]) C dX7_tell_65 rfl rfl rfl mm_X7_begins wM_X7_232 rfl rfl (Nat.le_of_ble_eq_true rfl) (d_begins) (by decide) (fun S_65 q_65 => ?_)
      rw [q_65]
      clear q_65 S_65
      refine aw_aldn (n := 69) C dX7_tell_68 rfl rfl ?_
      refine aw_iconst (n := 70) C dX7_tell_69 rfl ?_
      refine aw_cVv (n := 73) (vs := [_]) C dX7_tell_70 rfl rfl rfl mm_X7_begins wM_X7_232 rfl rfl (Nat.le_of_ble_eq_true rfl) (d_begins) (by decide) (fun S_70 q_70 => ?_)
      rw [q_70]
      clear q_70 S_70
      refine aw_aldn (n := 74) C dX7_tell_73 rfl rfl ?_
      refine aw_iconst (n := 75) C dX7_tell_74 rfl ?_
      refine aw_cVv (n := 78) (vs := [_]) C dX7_tell_75 rfl rfl rfl mm_X7_begins wM_X7_232 rfl rfl (Nat.le_of_ble_eq_true rfl) (d_begins) (by decide) (fun S_75 q_75 => ?_)
      rw [q_75]
      clear q_75 S_75
      refine aw_aldn (n := 79) C dX7_tell_78 rfl rfl ?_
      refine aw_iconst (n := 80) C dX7_tell_79 rfl ?_
      refine aw_cVv (n := 83) (vs := [_]) C dX7_tell_80 rfl rfl rfl mm_X7_begins wM_X7_232 rfl rfl (Nat.le_of_ble_eq_true rfl) (d_begins) (by decide) (fun S_80 q_80 => ?_)
      rw [q_80]
      clear q_80 S_80
      refine aw_iconst (n := 84) C dX7_tell_83 rfl ?_
      refine aw_ildn (n := 85) C dX7_tell_84 rfl rfl ?_
      refine aw_imul (n := 86) C dX7_tell_85 rfl ?_
      refine aw_bipush (n := 88) C dX7_tell_86 rfl rfl ?_
      refine aw_iadd (n := 89) C dX7_tell_88 rfl ?_
      refine hret 89 _ _ _ dX7_tell_89 (Or.inl rfl) ?_
      refine ⟨by rw [if_neg (by omega)]; omega, ?_⟩
      rw [if_neg (by omega), if_pos e2]
      simp only [st2_s, st2_st2]
    refine aw_lookup (tgt := 90) (off := 67) C dX7_tell_23 (by omega) rfl (by show (if (1 : Int) = S 74 p then (25 : Int) else if (2 : Int) = S 74 p then 40 else 67) = 67; omega) rfl ?_
    refine aw_aldn (n := 91) C dX7_tell_90 rfl rfl ?_
    refine aw_iconst (n := 92) C dX7_tell_91 rfl ?_
    refine aw_cVv (n := 95) (vs := [_]) C dX7_tell_92 rfl rfl rfl mm_X7_begins wM_X7_232 rfl rfl (Nat.le_of_ble_eq_true rfl) (d_begins) (by decide) (fun S_92 q_92 => ?_)
    rw [q_92]
    clear q_92 S_92
    refine aw_ildn (n := 96) C dX7_tell_95 rfl rfl ?_
    refine hret 96 _ _ _ dX7_tell_96 (Or.inl rfl) ?_
    refine ⟨by rw [if_neg (by omega)]; omega, ?_⟩
    rw [if_neg (by omega), if_neg e2, if_neg e1]
  · refine aw_iconst (n := 9) C dX7_tell_8 rfl ?_
    refine hret 9 _ _ _ dX7_tell_9 (Or.inl rfl) ?_
    exact ⟨by rw [if_pos (by omega)], by rw [if_pos (by omega)]⟩
theorem m_call (hp : rng p) (W : MW S) : AMi 1 yX7_call cX7_call 2 (some .int) [.inr (.inr 66), .inl p] S (fun z S' => z = (if p < 0 ∨ S 66 6 ≤ p then -1 else if S 74 p = 2 then 60 else p) ∧ S' = (if p < 0 ∨ S 66 6 ≤ p then S else st2 S 66 1 (31 * S 66 1 + (if S 74 p = 2 then 5 else 4)))) := by
  obtain ⟨t1, t2, t3, t4, t5, t6⟩ := id W
  refine ami_intro (L := [_, _]) (by decide) (Or.inl rfl) rfl (Nat.le_of_ble_eq_true rfl) (fun X C hret => ?_)
  refine aw_aldn (n := 1) C dX7_call_0 rfl rfl ?_
  refine aw_ildn (n := 2) C dX7_call_1 rfl rfl ?_
  refine aw_cVi (n := 5) (vs := [_]) C dX7_call_2 rfl rfl rfl mm_X7_isPassenger wM_X7_137 rfl rfl (Nat.le_of_ble_eq_true rfl) (d_isPassenger hp (by omega)) (by decide) (fun z_2 S_2 q_2 => ?_)
  rw [q_2.1, q_2.2]
  clear q_2 S_2 z_2
  refine aw_ifne (tgt := 10) (n := 8) C dX7_call_5 rfl rfl (by omega) (fun h_5 => ?_) (fun h_5 => ?_)
  · have b6 := t6 p (by omega) (by omega)
    refine aw_aldn (n := 11) C dX7_call_10 rfl rfl ?_
    refine aw_aldn (n := 12) C dX7_call_11 rfl rfl ?_
    refine aw_getR (n := 15) C dX7_call_12 rfl fl_X7_32 rfl rfl ?_
    refine aw_ildn (n := 16) C dX7_call_15 rfl rfl ?_
    refine aw_iald (n := 17) C dX7_call_16 rfl rfl (by omega) (by omega) ?_
    refine aw_iconst (n := 18) C dX7_call_17 rfl ?_
    refine aw_icne (tgt := 25) (n := 21) C dX7_call_18 rfl rfl (by omega) (by omega) (fun h_18 => ?_) (fun h_18 => ?_)
    · refine aw_iconst (n := 26) C dX7_call_25 rfl ?_
      refine aw_cVv (n := 29) (vs := [_]) C dX7_call_26 rfl rfl rfl mm_X7_begins wM_X7_232 rfl rfl (Nat.le_of_ble_eq_true rfl) (d_begins) (by decide) (fun S_26 q_26 => ?_)
      rw [q_26]
      clear q_26 S_26
      refine aw_aldn (n := 30) C dX7_call_29 rfl rfl ?_
      refine aw_getR (n := 33) C dX7_call_30 rfl fl_X7_32 rfl rfl ?_
      refine aw_ildn (n := 34) C dX7_call_33 rfl rfl ?_
      have e74 : ∀ v, st2 S 66 1 v 74 p = S 74 p := fun _ => rfl
      refine aw_iald (n := 35) C dX7_call_34 rfl rfl (by omega) (by omega) ?_
      rw [e74]
      refine aw_iconst (n := 36) C dX7_call_35 rfl ?_
      refine aw_icne (tgt := 44) (n := 39) C dX7_call_36 rfl rfl (by omega) (by omega) (fun h_36 => ?_) (fun h_36 => ?_)
      · refine aw_ildn (n := 45) C dX7_call_44 rfl rfl ?_
        refine hret 45 _ _ _ dX7_call_45 (Or.inl rfl) ?_
        first | (exfalso; omega; done) | exact ⟨by omega, by rw [if_neg (by omega), if_pos (by assumption)]⟩ | exact ⟨by omega, by rw [if_neg (by omega), if_neg (by assumption)]⟩
      · refine aw_bipush (n := 41) C dX7_call_39 rfl rfl ?_
        refine aw_goto (tgt := 45) C dX7_call_41 rfl ?_
        refine hret 45 _ _ _ dX7_call_45 (Or.inl rfl) ?_
        first | (exfalso; omega; done) | exact ⟨by omega, by rw [if_neg (by omega), if_pos (by assumption)]⟩ | exact ⟨by omega, by rw [if_neg (by omega), if_neg (by assumption)]⟩
    · refine aw_iconst (n := 22) C dX7_call_21 rfl ?_
      refine aw_goto (tgt := 26) C dX7_call_22 rfl ?_
      refine aw_cVv (n := 29) (vs := [_]) C dX7_call_26 rfl rfl rfl mm_X7_begins wM_X7_232 rfl rfl (Nat.le_of_ble_eq_true rfl) (d_begins) (by decide) (fun S_26 q_26 => ?_)
      rw [q_26]
      clear q_26 S_26
      refine aw_aldn (n := 30) C dX7_call_29 rfl rfl ?_
      refine aw_getR (n := 33) C dX7_call_30 rfl fl_X7_32 rfl rfl ?_
      refine aw_ildn (n := 34) C dX7_call_33 rfl rfl ?_
      have e74 : ∀ v, st2 S 66 1 v 74 p = S 74 p := fun _ => rfl
      refine aw_iald (n := 35) C dX7_call_34 rfl rfl (by omega) (by omega) ?_
      rw [e74]
      refine aw_iconst (n := 36) C dX7_call_35 rfl ?_
      refine aw_icne (tgt := 44) (n := 39) C dX7_call_36 rfl rfl (by omega) (by omega) (fun h_36 => ?_) (fun h_36 => ?_)
      · refine aw_ildn (n := 45) C dX7_call_44 rfl rfl ?_
        refine hret 45 _ _ _ dX7_call_45 (Or.inl rfl) ?_
        first | (exfalso; omega; done) | exact ⟨by omega, by rw [if_neg (by omega), if_pos (by assumption)]⟩ | exact ⟨by omega, by rw [if_neg (by omega), if_neg (by assumption)]⟩
      · refine aw_bipush (n := 41) C dX7_call_39 rfl rfl ?_
        refine aw_goto (tgt := 45) C dX7_call_41 rfl ?_
        refine hret 45 _ _ _ dX7_call_45 (Or.inl rfl) ?_
        first | (exfalso; omega; done) | exact ⟨by omega, by rw [if_neg (by omega), if_pos (by assumption)]⟩ | exact ⟨by omega, by rw [if_neg (by omega), if_neg (by assumption)]⟩
  · refine aw_iconst (n := 9) C dX7_call_8 rfl ?_
    refine hret 9 _ _ _ dX7_call_9 (Or.inl rfl) ?_
    exact ⟨by rw [if_pos (by omega)], by rw [if_pos (by omega)]⟩
theorem m_as (hp : rng p) (hk : rng k) (W : MW S) : AMi 1 yX7_as cX7_as 3 (some .int) [.inr (.inr 66), .inl p, .inl k] S (fun z S' => z = (if p < 0 ∨ S 66 6 ≤ p then -1 else if k < 0 ∨ 3 ≤ k then -2 else if S 74 p < k then -12 else 1) ∧ S' = st2 S 66 0 (if p < 0 ∨ S 66 6 ≤ p then 0 else if k < 0 ∨ 3 ≤ k then 0 else if S 74 p < k then 2 else 0)) := by
  obtain ⟨t1, t2, t3, t4, t5, t6⟩ := id W
  have e6 : st2 S 66 0 0 66 6 = S 66 6 := rfl
  have e74 : st2 S 66 0 0 74 p = S 74 p := rfl
  refine ami_intro (L := [_, _, _]) (by decide) (Or.inl rfl) rfl (Nat.le_of_ble_eq_true rfl) (fun X C hret => ?_)
  refine aw_aldn (n := 1) C dX7_as_0 rfl rfl ?_
  refine aw_iconst (n := 2) C dX7_as_1 rfl ?_
  refine aw_put (z := 0) (n := 5) C dX7_as_2 rfl fp_X7_71 rfl rfl rfl (Or.inl rfl) ?_
  refine aw_aldn (n := 6) C dX7_as_5 rfl rfl ?_
  refine aw_ildn (n := 7) C dX7_as_6 rfl rfl ?_
  refine aw_cVi (n := 10) (vs := [_]) C dX7_as_7 rfl rfl rfl mm_X7_isPassenger wM_X7_137 rfl rfl (Nat.le_of_ble_eq_true rfl) (d_isPassenger hp (by rw [e6]; omega)) (by decide) (fun z_7 S_7 q_7 => ?_)
  rw [q_7.1, q_7.2]
  clear q_7 S_7 z_7
  refine aw_ifne (tgt := 15) (n := 13) C dX7_as_10 rfl rfl (by omega) (fun h_10 => ?_) (fun h_10 => ?_)
  · refine aw_ildn (n := 16) C dX7_as_15 rfl rfl ?_
    refine aw_iconst (n := 17) C dX7_as_16 rfl ?_
    refine aw_iconst (n := 18) C dX7_as_17 rfl ?_
    refine aw_cSi (n := 21) (vs := [_, _, _]) C dX7_as_18 rfl rfl rfl mm_X7_within wM_X7_77 (Nat.le_of_ble_eq_true rfl) (d_within hk (by decide) (by decide)) (by decide) (fun z_18 S_18 q_18 => ?_)
    rw [q_18.1, q_18.2]
    clear q_18 S_18 z_18
    refine aw_ifne (tgt := 27) (n := 24) C dX7_as_21 rfl rfl (by omega) (fun h_21 => ?_) (fun h_21 => ?_)
    · have b6 := t6 p (by omega) (by omega)
      refine aw_aldn (n := 28) C dX7_as_27 rfl rfl ?_
      refine aw_getR (n := 31) C dX7_as_28 rfl fl_X7_32 rfl rfl ?_
      refine aw_ildn (n := 32) C dX7_as_31 rfl rfl ?_
      refine aw_iald (n := 33) C dX7_as_32 rfl rfl (by omega) (by omega) ?_
      rw [e74]
      refine aw_ildn (n := 34) C dX7_as_33 rfl rfl ?_
      refine aw_iclt (tgt := 41) (n := 37) C dX7_as_34 rfl rfl (by omega) (by omega) (fun h_34 => ?_) (fun h_34 => ?_)
      · refine aw_aldn (n := 42) C dX7_as_41 rfl rfl ?_
        refine aw_iconst (n := 43) C dX7_as_42 rfl ?_
        refine aw_cVi (n := 46) (vs := [_]) C dX7_as_43 rfl rfl rfl mm_X7_fails wM_X7_101 rfl rfl (Nat.le_of_ble_eq_true rfl) (d_fails) (by decide) (fun z_43 S_43 q_43 => ?_)
        rw [q_43.1, q_43.2]
        clear q_43 S_43 z_43
        refine hret 46 _ _ _ dX7_as_46 (Or.inl rfl) ?_
        first | (exact ⟨by rw [if_neg (by omega), if_neg (by omega), if_pos (by omega)]; rfl, by rw [if_neg (by omega), if_neg (by omega), if_pos (by omega), st2_st2]⟩) | exact ⟨by rw [if_neg (by omega), if_neg (by omega), if_neg (by omega)], by rw [if_neg (by omega), if_neg (by omega), if_neg (by omega)]⟩
      · refine aw_iconst (n := 38) C dX7_as_37 rfl ?_
        refine aw_goto (tgt := 46) C dX7_as_38 rfl ?_
        refine hret 46 _ _ _ dX7_as_46 (Or.inl rfl) ?_
        first | (exact ⟨by rw [if_neg (by omega), if_neg (by omega), if_pos (by omega)]; rfl, by rw [if_neg (by omega), if_neg (by omega), if_pos (by omega), st2_st2]⟩) | exact ⟨by rw [if_neg (by omega), if_neg (by omega), if_neg (by omega)], by rw [if_neg (by omega), if_neg (by omega), if_neg (by omega)]⟩
    · refine aw_bipush (n := 26) C dX7_as_24 rfl rfl ?_
      refine hret 26 _ _ _ dX7_as_26 (Or.inl rfl) ?_
      exact ⟨by rw [if_neg (by omega), if_pos (by omega)], by rw [if_neg (by omega), if_pos (by omega)]⟩
  · refine aw_iconst (n := 14) C dX7_as_13 rfl ?_
    refine hret 14 _ _ _ dX7_as_14 (Or.inl rfl) ?_
    exact ⟨by rw [if_pos (by omega)], by rw [if_pos (by omega)]⟩
theorem m_trace : AMi 0 yX7_trace cX7_trace 1 (some .int) [.inr (.inr 66)] S (fun z S' => z = S 66 1 ∧ S' = S) := by
  refine ami_intro (L := [_]) (by decide) (Or.inl rfl) rfl (Nat.le_of_ble_eq_true rfl) (fun X C hret => ?_)
  refine aw_aldn (n := 1) C dX7_trace_0 rfl rfl ?_
  refine aw_getI (z := 1) (n := 4) C dX7_trace_1 rfl fl_X7_229 rfl rfl rfl ?_
  refine hret 4 _ _ _ dX7_trace_4 (Or.inl rfl) ?_
  exact ⟨rfl, rfl⟩
theorem m_fault : AMi 0 yX7_fault cX7_fault 1 (some .int) [.inr (.inr 66)] S (fun z S' => z = S 66 0 ∧ S' = S) := by
  refine ami_intro (L := [_]) (by decide) (Or.inl rfl) rfl (Nat.le_of_ble_eq_true rfl) (fun X C hret => ?_)
  refine aw_aldn (n := 1) C dX7_fault_0 rfl rfl ?_
  refine aw_getI (z := 0) (n := 4) C dX7_fault_1 rfl fl_X7_71 rfl rfl rfl ?_
  refine hret 4 _ _ _ dX7_fault_4 (Or.inl rfl) ?_
  exact ⟨rfl, rfl⟩
theorem m_many (hw : rng w) : AMi 0 yX7_many cX7_many 2 (some .int) [.inr (.inr 66), .inl w] S (fun z S' => z = (if w = 0 then S 66 6 else if w = 1 then S 66 5 else if w = 2 then S 66 26 else -2) ∧ S' = S) := by
  refine ami_intro (L := [_, _]) (by decide) (Or.inl rfl) rfl (Nat.le_of_ble_eq_true rfl) (fun X C hret => ?_)
  refine aw_ildn (n := 1) C dX7_many_0 rfl rfl ?_
  refine aw_ifne (tgt := 11) (n := 4) C dX7_many_1 rfl rfl (by omega) (fun h_1 => ?_) (fun h_1 => ?_)
  · refine aw_ildn (n := 12) C dX7_many_11 rfl rfl ?_
    refine aw_iconst (n := 13) C dX7_many_12 rfl ?_
    refine aw_icne (tgt := 23) (n := 16) C dX7_many_13 rfl rfl (by omega) (by omega) (fun h_13 => ?_) (fun h_13 => ?_)
    · refine aw_ildn (n := 24) C dX7_many_23 rfl rfl ?_
      refine aw_iconst (n := 25) C dX7_many_24 rfl ?_
      refine aw_icne (tgt := 35) (n := 28) C dX7_many_25 rfl rfl (by omega) (by omega) (fun h_25 => ?_) (fun h_25 => ?_)
      · refine aw_bipush (n := 37) C dX7_many_35 rfl rfl ?_
        refine hret 37 _ _ _ dX7_many_37 (Or.inl rfl) ?_
        exact ⟨by omega, rfl⟩
      · refine aw_aldn (n := 29) C dX7_many_28 rfl rfl ?_
        refine aw_getI (z := 26) (n := 32) C dX7_many_29 rfl fl_X7_123 rfl rfl rfl ?_
        refine aw_goto (tgt := 37) C dX7_many_32 rfl ?_
        refine hret 37 _ _ _ dX7_many_37 (Or.inl rfl) ?_
        exact ⟨by omega, rfl⟩
    · refine aw_aldn (n := 17) C dX7_many_16 rfl rfl ?_
      refine aw_getI (z := 5) (n := 20) C dX7_many_17 rfl fl_X7_84 rfl rfl rfl ?_
      refine aw_goto (tgt := 37) C dX7_many_20 rfl ?_
      refine hret 37 _ _ _ dX7_many_37 (Or.inl rfl) ?_
      exact ⟨by omega, rfl⟩
  · refine aw_aldn (n := 5) C dX7_many_4 rfl rfl ?_
    refine aw_getI (z := 6) (n := 8) C dX7_many_5 rfl fl_X7_81 rfl rfl rfl ?_
    refine aw_goto (tgt := 37) C dX7_many_8 rfl ?_
    refine hret 37 _ _ _ dX7_many_37 (Or.inl rfl) ?_
    exact ⟨by omega, rfl⟩
end MSH
