/-! Train: the line (10) and the guess (28) -/
theorem k9 {m : Nat} (h : m < 9) : m = 0 ∨ m = 1 ∨ m = 2 ∨ m = 3 ∨ m = 4 ∨ m = 5 ∨ m = 6 ∨ m = 7 ∨ m = 8 := by omega
/-- a train's numbers are within their bounds -/
def TW (b : Nat) (S : Mem) : Prop := (0 ≤ S b 8 ∧ S b 8 ≤ 8) ∧ (0 ≤ S b 9 ∧ S b 9 ≤ 4) ∧ (0 ≤ S b 10 ∧ S b 10 ≤ 99) ∧ (0 ≤ S b 11 ∧ S b 11 ≤ 99) ∧ (∀ m, 0 ≤ m → m < S b 8 → (S (b + 2) m = 0 ∨ S (b + 2) m = 1) ∧ tok (S b 9) (S (b + 3) m) (S (b + 4) m)) ∧ (∀ p, 0 ≤ p → p < S b 9 → (0 ≤ S (b + 5) p ∧ S (b + 5) p ≤ 2) ∧ (0 ≤ S (b + 6) p ∧ S (b + 6) p ≤ 59) ∧ (0 ≤ S (b + 7) p ∧ S (b + 7) p ≤ 9))
theorem tf10 {m : Nat} (h : m < 9) : shf 18 m = some (19 + m) := by rcases k9 h with rfl | rfl | rfl | rfl | rfl | rfl | rfl | rfl | rfl <;> rfl
theorem tk10 {m : Nat} (h : m < 9) : shk (19 + m) = .inr (0, 4) := by rcases k9 h with rfl | rfl | rfl | rfl | rfl | rfl | rfl | rfl | rfl <;> rfl
theorem TW10 {S : Mem} (h : TW 10 S) : (0 ≤ S 10 8 ∧ S 10 8 ≤ 8) ∧ (0 ≤ S 10 9 ∧ S 10 9 ≤ 4) ∧ (0 ≤ S 10 10 ∧ S 10 10 ≤ 99) ∧ (0 ≤ S 10 11 ∧ S 10 11 ≤ 99) ∧ (∀ m, 0 ≤ m → m < S 10 8 → (S 12 m = 0 ∨ S 12 m = 1) ∧ tok (S 10 9) (S 13 m) (S 14 m)) ∧ (∀ p, 0 ≤ p → p < S 10 9 → (0 ≤ S 15 p ∧ S 15 p ≤ 2) ∧ (0 ≤ S 16 p ∧ S 16 p ≤ 59) ∧ (0 ≤ S 17 p ∧ S 17 p ≤ 9)) := h
theorem TW10_fr {S S' : Mem} (h : TW 10 S) (hf : fr 19 28 S S') : TW 10 S' := by
  have e0 := hf 10 (by omega)
  have e2 := hf 12 (by omega)
  have e3 := hf 13 (by omega)
  have e4 := hf 14 (by omega)
  have e5 := hf 15 (by omega)
  have e6 := hf 16 (by omega)
  have e7 := hf 17 (by omega)
  unfold TW
  rw [e0, e2, e3, e4, e5, e6, e7]
  exact h
theorem c_classDue10 {S : Mem} {p : Int} {m : Nat} (hm : m < 9) (h0 : 0 ≤ p) (h1 : p < 4) (hr : rng (S (19 + m) p)) (hl1 : rng (S 10 10)) (hl2 : rng (S 10 11)) : AMi 0 yX5_classDue cX5_classDue 4 (some .int) [.inr (.inr 10), .inl p, .inl (m : Int)] S (fun z S' => z = due (S 10 10) (S 10 11) (S (19 + m) p) ∧ S' = S) := by
  refine ami_intro (L := [_, _, _, none]) (by decide) (Or.inl rfl) rfl (Nat.le_of_ble_eq_true rfl) (fun X C hret => ?_)
  refine aw_aldn (n := 1) C dX5_classDue_0 rfl rfl ?_
  refine aw_getR (n := 4) C dX5_classDue_1 rfl fl_X5_36 rfl rfl ?_
  refine aw_ildn (n := 5) C dX5_classDue_4 rfl rfl ?_
  refine aw_aald (j := m) (n := 6) C dX5_classDue_5 rfl rfl (by decide) rfl (by omega) (tf10 hm) ?_
  refine aw_ildn (n := 7) C dX5_classDue_6 rfl rfl ?_
  refine aw_iald (n := 8) C dX5_classDue_7 rfl (tk10 hm) (by omega) (by omega) ?_
  refine aw_istn (n := 9) (L' := [_, _, _, _]) C dX5_classDue_8 rfl (by decide) rfl rfl ?_
  refine aw_ildn (n := 10) C dX5_classDue_9 rfl rfl ?_
  refine aw_aldn (n := 11) C dX5_classDue_10 rfl rfl ?_
  refine aw_getI (z := 10) (n := 14) C dX5_classDue_11 rfl fl_X5_46 rfl rfl rfl ?_
  refine aw_icge (tgt := 19) (n := 17) C dX5_classDue_14 rfl rfl (by omega) (by omega) (fun h_14 => ?_) (fun h_14 => ?_)
  · refine aw_ildn (n := 20) C dX5_classDue_19 rfl rfl ?_
    refine aw_aldn (n := 21) C dX5_classDue_20 rfl rfl ?_
    refine aw_getI (z := 11) (n := 24) C dX5_classDue_21 rfl fl_X5_49 rfl rfl rfl ?_
    refine aw_icge (tgt := 31) (n := 27) C dX5_classDue_24 rfl rfl (by omega) (by omega) (fun h_24 => ?_) (fun h_24 => ?_)
    · refine aw_iconst (n := 32) C dX5_classDue_31 rfl ?_
      refine hret 32 _ _ _ dX5_classDue_32 (Or.inl rfl) ?_
      exact ⟨by unfold due; omega, rfl⟩
    · refine aw_iconst (n := 28) C dX5_classDue_27 rfl ?_
      refine aw_goto (tgt := 32) C dX5_classDue_28 rfl ?_
      refine hret 32 _ _ _ dX5_classDue_32 (Or.inl rfl) ?_
      exact ⟨by unfold due; omega, rfl⟩
  · refine aw_iconst (n := 18) C dX5_classDue_17 rfl ?_
    refine hret 18 _ _ _ dX5_classDue_18 (Or.inl rfl) ?_
    exact ⟨by unfold due; omega, rfl⟩
theorem c_regretAhead10 {S : Mem} {p : Int} {m : Nat} (hm : m < 9) (h0 : 0 ≤ p) (h1 : p < 4) : AMi 0 yX5_regretAhead cX5_regretAhead 3 (some .int) [.inr (.inr 10), .inl p, .inl (m : Int)] S (fun z S' => z = S (19 + m) p ∧ S' = S) := by
  refine ami_intro (L := [_, _, _]) (by decide) (Or.inl rfl) rfl (Nat.le_of_ble_eq_true rfl) (fun X C hret => ?_)
  refine aw_aldn (n := 1) C dX5_regretAhead_0 rfl rfl ?_
  refine aw_getR (n := 4) C dX5_regretAhead_1 rfl fl_X5_36 rfl rfl ?_
  refine aw_ildn (n := 5) C dX5_regretAhead_4 rfl rfl ?_
  refine aw_aald (j := m) (n := 6) C dX5_regretAhead_5 rfl rfl (by decide) rfl (by omega) (tf10 hm) ?_
  refine aw_ildn (n := 7) C dX5_regretAhead_6 rfl rfl ?_
  refine aw_iald (n := 8) C dX5_regretAhead_7 rfl (tk10 hm) (by omega) (by omega) ?_
  refine hret 8 _ _ _ dX5_regretAhead_8 (Or.inl rfl) ?_
  exact ⟨rfl, rfl⟩
theorem c_regretBehind10 {S : Mem} {p : Int} {m : Nat} (T : TW 10 S) (hm : (m : Int) < S 10 8) (h0 : 0 ≤ p) (h1 : p < S 10 9) (hr : 0 ≤ S (19 + m) p ∧ S (19 + m) p ≤ 99) : AMi 1 yX5_regretBehind cX5_regretBehind 5 (some .int) [.inr (.inr 10), .inl p, .inl (m : Int)] S (fun z S' => z = beh (S 15) (S 17) (S 12 m) (S (19 + m)) p ∧ S' = S) := by
  obtain ⟨t1, t2, -, -, t5, t6⟩ := TW10 T
  obtain ⟨a1, -⟩ := t5 m (by omega) hm
  obtain ⟨b1, -, b3⟩ := t6 p h0 h1
  have hm9 : m < 9 := by omega
  refine ami_intro (L := [_, _, _, none, none]) (by decide) (Or.inl rfl) rfl (Nat.le_of_ble_eq_true rfl) (fun X C hret => ?_)
  refine aw_aldn (n := 1) C dX5_regretBehind_0 rfl rfl ?_
  refine aw_getR (n := 4) C dX5_regretBehind_1 rfl fl_X5_36 rfl rfl ?_
  refine aw_ildn (n := 5) C dX5_regretBehind_4 rfl rfl ?_
  refine aw_aald (j := m) (n := 6) C dX5_regretBehind_5 rfl rfl (by decide) rfl (by omega) (tf10 hm9) ?_
  refine aw_ildn (n := 7) C dX5_regretBehind_6 rfl rfl ?_
  refine aw_iald (n := 8) C dX5_regretBehind_7 rfl (tk10 hm9) (by omega) (by omega) ?_
  refine aw_istn (n := 9) (L' := [_, _, _, _, _]) C dX5_regretBehind_8 rfl (by decide) rfl rfl ?_
  refine aw_aldn (n := 10) C dX5_regretBehind_9 rfl rfl ?_
  refine aw_getR (n := 13) C dX5_regretBehind_10 rfl fl_X5_15 rfl rfl ?_
  refine aw_ildn (n := 14) C dX5_regretBehind_13 rfl rfl ?_
  refine aw_zald (n := 15) C dX5_regretBehind_14 rfl rfl (by omega) (by omega) ?_
  refine aw_ifeq (tgt := 42) (n := 18) C dX5_regretBehind_15 rfl rfl (by omega) (fun h_15 => ?_) (fun h_15 => ?_)
  · refine aw_aldn (n := 43) C dX5_regretBehind_42 rfl rfl ?_
    refine aw_getR (n := 46) C dX5_regretBehind_43 rfl fl_X5_25 rfl rfl ?_
    refine aw_ildn (n := 47) C dX5_regretBehind_46 rfl rfl ?_
    refine aw_iald (n := 48) C dX5_regretBehind_47 rfl rfl (by omega) (by omega) ?_
    refine aw_iconst (n := 49) C dX5_regretBehind_48 rfl ?_
    refine aw_icne (tgt := 67) (n := 52) C dX5_regretBehind_49 rfl rfl (by omega) (by omega) (fun h_49 => ?_) (fun h_49 => ?_)
    · refine aw_aldn (n := 68) C dX5_regretBehind_67 rfl rfl ?_
      refine aw_getR (n := 71) C dX5_regretBehind_68 rfl fl_X5_31 rfl rfl ?_
      refine aw_ildn (n := 72) C dX5_regretBehind_71 rfl rfl ?_
      refine aw_iald (n := 73) C dX5_regretBehind_72 rfl rfl (by omega) (by omega) ?_
      refine aw_istw (n := 75) (L' := [_, _, _, _, _]) C dX5_regretBehind_73 rfl (by decide) rfl rfl ?_
      refine aw_iconst (n := 76) C dX5_regretBehind_75 rfl ?_
      refine aw_ildn (n := 77) C dX5_regretBehind_76 rfl rfl ?_
      refine aw_ildw (n := 79) C dX5_regretBehind_77 rfl rfl ?_
      refine aw_isub (n := 80) C dX5_regretBehind_79 rfl ?_
      refine aw_mmax (n := 83) C dX5_regretBehind_80 rfl wM_X5_86 wS_yJ9_max_7cf53 wI_J9 wC_yJ9_max_7cf53 (by decide) (Nat.le_of_ble_eq_true rfl) (by omega) (by omega) ?_
      refine hret 83 _ _ _ dX5_regretBehind_83 (Or.inl rfl) ?_
      exact ⟨by unfold beh bnd chg; omega, rfl⟩
    · refine aw_iconst (n := 53) C dX5_regretBehind_52 rfl ?_
      refine aw_aldn (n := 54) C dX5_regretBehind_53 rfl rfl ?_
      refine aw_getR (n := 57) C dX5_regretBehind_54 rfl fl_X5_31 rfl rfl ?_
      refine aw_ildn (n := 58) C dX5_regretBehind_57 rfl rfl ?_
      refine aw_iald (n := 59) C dX5_regretBehind_58 rfl rfl (by omega) (by omega) ?_
      refine aw_iconst (n := 60) C dX5_regretBehind_59 rfl ?_
      refine aw_isub (n := 61) C dX5_regretBehind_60 rfl ?_
      refine aw_mmax (n := 64) C dX5_regretBehind_61 rfl wM_X5_86 wS_yJ9_max_7cf53 wI_J9 wC_yJ9_max_7cf53 (by decide) (Nat.le_of_ble_eq_true rfl) (by omega) (by omega) ?_
      refine aw_goto (tgt := 73) C dX5_regretBehind_64 rfl ?_
      refine aw_istw (n := 75) (L' := [_, _, _, _, _]) C dX5_regretBehind_73 rfl (by decide) rfl rfl ?_
      refine aw_iconst (n := 76) C dX5_regretBehind_75 rfl ?_
      refine aw_ildn (n := 77) C dX5_regretBehind_76 rfl rfl ?_
      refine aw_ildw (n := 79) C dX5_regretBehind_77 rfl rfl ?_
      refine aw_isub (n := 80) C dX5_regretBehind_79 rfl ?_
      refine aw_mmax (n := 83) C dX5_regretBehind_80 rfl wM_X5_86 wS_yJ9_max_7cf53 wI_J9 wC_yJ9_max_7cf53 (by decide) (Nat.le_of_ble_eq_true rfl) (by omega) (by omega) ?_
      refine hret 83 _ _ _ dX5_regretBehind_83 (Or.inl rfl) ?_
      exact ⟨by unfold beh bnd chg; omega, rfl⟩
  · refine aw_bipush (n := 20) C dX5_regretBehind_18 rfl rfl ?_
    refine aw_ildn (n := 21) C dX5_regretBehind_20 rfl rfl ?_
    refine aw_aldn (n := 22) C dX5_regretBehind_21 rfl rfl ?_
    refine aw_getR (n := 25) C dX5_regretBehind_22 rfl fl_X5_25 rfl rfl ?_
    refine aw_ildn (n := 26) C dX5_regretBehind_25 rfl rfl ?_
    refine aw_iald (n := 27) C dX5_regretBehind_26 rfl rfl (by omega) (by omega) ?_
    refine aw_iconst (n := 28) C dX5_regretBehind_27 rfl ?_
    refine aw_icne (tgt := 36) (n := 31) C dX5_regretBehind_28 rfl rfl (by omega) (by omega) (fun h_28 => ?_) (fun h_28 => ?_)
    · refine aw_iconst (n := 37) C dX5_regretBehind_36 rfl ?_
      refine aw_iadd (n := 38) C dX5_regretBehind_37 rfl ?_
      refine aw_mmin (n := 41) C dX5_regretBehind_38 rfl wM_X5_81 wS_yJ9_min_7cf53 wI_J9 wC_yJ9_min_7cf53 (by decide) (Nat.le_of_ble_eq_true rfl) (by omega) (by omega) ?_
      refine hret 41 _ _ _ dX5_regretBehind_41 (Or.inl rfl) ?_
      exact ⟨by unfold beh bnd chg; omega, rfl⟩
    · refine aw_bipush (n := 33) C dX5_regretBehind_31 rfl rfl ?_
      refine aw_goto (tgt := 37) C dX5_regretBehind_33 rfl ?_
      refine aw_iadd (n := 38) C dX5_regretBehind_37 rfl ?_
      refine aw_mmin (n := 41) C dX5_regretBehind_38 rfl wM_X5_81 wS_yJ9_min_7cf53 wI_J9 wC_yJ9_min_7cf53 (by decide) (Nat.le_of_ble_eq_true rfl) (by omega) (by omega) ?_
      refine hret 41 _ _ _ dX5_regretBehind_41 (Or.inl rfl) ?_
      exact ⟨by unfold beh bnd chg; omega, rfl⟩
theorem c_rideThrough10_loop {X : AMX} {S : Mem} {m : Nat} {post : Mem → Prop} (T : TW 10 S) (hm : (m : Int) < S 10 8) (hr : ∀ p, 0 ≤ p → p < S 10 9 → 0 ≤ S (19 + m) p ∧ S (19 + m) p ≤ 99) (C : CX X 2 RX5 cX5_rideThrough 6) (hret : ∀ (pc : Nat) (L : List (Option AV)) (S' : Mem), decode cX5_rideThrough pc = .ok (.return_, 1) → post S' → AW X cX5_rideThrough 6 pc L [] S') (hp : ∀ S', fr (20 + m) (21 + m) S S' → (∀ p, 0 ≤ p → p < S 10 9 → S' (20 + m) p = stp (S 15) (S 17) (S 12 m) (S 13 m) (S 14 m) (S (19 + m)) p) → post S') : ∀ (j i : Nat) (S1 : Mem), (i : Int) + j = S 10 9 → fr (20 + m) (21 + m) S S1 → (∀ p : Int, 0 ≤ p → p < i → S1 (20 + m) p = beh (S 15) (S 17) (S 12 m) (S (19 + m)) p) → AW X cX5_rideThrough 6 11 [some (.inr (.inr 10)), some (.inl m), some (.inr (.inr (20 + m))), some (.inl i), none, none] [] S1 := by
  obtain ⟨t1, t2, -, -, t5, t6⟩ := TW10 T
  obtain ⟨a1, a2⟩ := t5 m (by omega) hm
  have hk : shk (20 + m) = .inr (0, 4) := by rw [show 20 + m = 19 + (m + 1) by omega]; exact tk10 (by omega)
  intro j
  induction j with
  | zero =>
    intro i S1 hi hf hv
    have e9 : S1 10 9 = S 10 9 := congrFun (hf 10 (by omega)) 9
    have ea : S1 13 m = S 13 m := congrFun (hf 13 (by omega)) m
    have eb : S1 14 m = S 14 m := congrFun (hf 14 (by omega)) m
    unfold tok at a2
    refine aw_ildn (n := 12) C dX5_rideThrough_11 rfl rfl ?_
    refine aw_aldn (n := 13) C dX5_rideThrough_12 rfl rfl ?_
    refine aw_getI (z := 9) (n := 16) C dX5_rideThrough_13 rfl fl_X5_43 rfl rfl rfl ?_
    refine aw_icge (tgt := 34) (n := 19) C dX5_rideThrough_16 rfl rfl (by omega) (by omega) (fun h_16 => ?_) (fun h_16 => ?_)
    · refine aw_aldn (n := 35) C dX5_rideThrough_34 rfl rfl ?_
      refine aw_getR (n := 38) C dX5_rideThrough_35 rfl fl_X5_19 rfl rfl ?_
      refine aw_ildn (n := 39) C dX5_rideThrough_38 rfl rfl ?_
      refine aw_iald (n := 40) C dX5_rideThrough_39 rfl rfl (by omega) (by omega) ?_
      rw [ea]
      refine aw_istn (n := 41) (L' := [_, _, _, _, _, _]) C dX5_rideThrough_40 rfl (by decide) rfl rfl ?_
      refine aw_aldn (n := 42) C dX5_rideThrough_41 rfl rfl ?_
      refine aw_getR (n := 45) C dX5_rideThrough_42 rfl fl_X5_22 rfl rfl ?_
      refine aw_ildn (n := 46) C dX5_rideThrough_45 rfl rfl ?_
      refine aw_iald (n := 47) C dX5_rideThrough_46 rfl rfl (by omega) (by omega) ?_
      rw [eb]
      refine aw_istw (n := 49) (L' := [_, _, _, _, _, _]) C dX5_rideThrough_47 rfl (by decide) rfl rfl ?_
      refine aw_ildn (n := 50) C dX5_rideThrough_49 rfl rfl ?_
      refine aw_bipush (n := 52) C dX5_rideThrough_50 rfl rfl ?_
      refine aw_iceq (tgt := 85) (n := 55) C dX5_rideThrough_52 rfl rfl (by omega) (by omega) (fun h_52 => ?_) (fun h_52 => ?_)
      · refine hret 85 _ _ dX5_rideThrough_85 (hp S1 hf (fun p p0 p1 => ?_))
        unfold stp
        rw [if_neg (by omega)]
        exact hv p p0 (by omega)
      · refine aw_ildw (n := 57) C dX5_rideThrough_55 rfl rfl ?_
        refine aw_bipush (n := 59) C dX5_rideThrough_57 rfl rfl ?_
        refine aw_iceq (tgt := 85) (n := 62) C dX5_rideThrough_59 rfl rfl (by omega) (by omega) (fun h_59 => ?_) (fun h_59 => ?_)
        · omega
        · refine aw_aldn (n := 63) C dX5_rideThrough_62 rfl rfl ?_
          refine aw_ildn (n := 64) C dX5_rideThrough_63 rfl rfl ?_
          refine aw_iald (n := 65) C dX5_rideThrough_64 rfl hk (by omega) (by omega) ?_
          refine aw_aldn (n := 66) C dX5_rideThrough_65 rfl rfl ?_
          refine aw_ildw (n := 68) C dX5_rideThrough_66 rfl rfl ?_
          refine aw_iald (n := 69) C dX5_rideThrough_68 rfl hk (by omega) (by omega) ?_
          refine aw_iadd (n := 70) C dX5_rideThrough_69 rfl ?_
          refine aw_iconst (n := 71) C dX5_rideThrough_70 rfl ?_
          refine aw_idiv (n := 72) C dX5_rideThrough_71 rfl (by have := hv (S 13 m) (by omega) (by omega); have := hv (S 14 m) (by omega) (by omega); have := bnd_r (S (19 + m) (S 13 m) + chg (S 15 (S 13 m)) (S 17 (S 13 m)) (S 12 m)); have := bnd_r (S (19 + m) (S 14 m) + chg (S 15 (S 14 m)) (S 17 (S 14 m)) (S 12 m)); unfold beh at *; omega) (by omega) ?_
          refine aw_istw (n := 74) (L' := [_, _, _, _, _, _]) C dX5_rideThrough_72 rfl (by decide) rfl rfl ?_
          refine aw_aldn (n := 75) C dX5_rideThrough_74 rfl rfl ?_
          refine aw_ildn (n := 76) C dX5_rideThrough_75 rfl rfl ?_
          refine aw_ildw (n := 78) C dX5_rideThrough_76 rfl rfl ?_
          refine aw_iast (n := 79) C dX5_rideThrough_78 rfl hk (by omega) (by omega) ?_
          refine aw_aldn (n := 80) C dX5_rideThrough_79 rfl rfl ?_
          refine aw_ildw (n := 82) C dX5_rideThrough_80 rfl rfl ?_
          refine aw_ildw (n := 84) C dX5_rideThrough_82 rfl rfl ?_
          refine aw_iast (n := 85) C dX5_rideThrough_84 rfl hk (by omega) (by omega) ?_
          refine hret 85 _ _ dX5_rideThrough_85 ?_
          refine hp _ (fr_tr (fr_tr hf (fr_w (fr_st _ _ _ _) (by omega) (by omega))) (fr_w (fr_st _ _ _ _) (by omega) (by omega))) (fun p p0 p1 => ?_)
          rw [hv (S 13 m) (by omega) (by omega), hv (S 14 m) (by omega) (by omega)]
          unfold stp
          by_cases h1 : p = S 14 m
          · rw [h1, st2_s, if_pos ⟨by omega, Or.inr rfl⟩]
          · rw [st2_n h1]
            by_cases h2 : p = S 13 m
            · rw [h2, st2_s, if_pos ⟨by omega, Or.inl rfl⟩]
            · rw [st2_n h2, if_neg (by omega)]
              exact hv p p0 (by omega)
    · omega
  | succ j ih =>
    intro i S1 hi hf hv
    have e9 : S1 10 9 = S 10 9 := congrFun (hf 10 (by omega)) 9
    have er : S1 (19 + m) = S (19 + m) := hf _ (by omega)
    have T1 : TW 10 S1 := TW10_fr T (fr_w hf (by omega) (by omega))
    refine aw_ildn (n := 12) C dX5_rideThrough_11 rfl rfl ?_
    refine aw_aldn (n := 13) C dX5_rideThrough_12 rfl rfl ?_
    refine aw_getI (z := 9) (n := 16) C dX5_rideThrough_13 rfl fl_X5_43 rfl rfl rfl ?_
    refine aw_icge (tgt := 34) (n := 19) C dX5_rideThrough_16 rfl rfl (by omega) (by omega) (fun h_16 => ?_) (fun h_16 => ?_)
    · omega
    · refine aw_aldn (n := 20) C dX5_rideThrough_19 rfl rfl ?_
      refine aw_ildn (n := 21) C dX5_rideThrough_20 rfl rfl ?_
      refine aw_aldn (n := 22) C dX5_rideThrough_21 rfl rfl ?_
      refine aw_ildn (n := 23) C dX5_rideThrough_22 rfl rfl ?_
      refine aw_ildn (n := 24) C dX5_rideThrough_23 rfl rfl ?_
      refine aw_cVi (n := 27) (vs := [_, _]) C dX5_rideThrough_24 rfl rfl rfl mm_X5_regretBehind wM_X5_77 rfl rfl (Nat.le_of_ble_eq_true rfl) (c_regretBehind10 T1 (by rw [hf 10 (by omega)]; exact hm) (by omega) (by omega) (by rw [er]; exact hr _ (by omega) (by omega))) (by decide) (fun z_24 S_24 q_24 => ?_)
      rw [q_24.1, q_24.2]
      clear q_24 S_24 z_24
      refine aw_iast (n := 28) C dX5_rideThrough_27 rfl hk (by omega) (by omega) ?_
      refine aw_iinc (n := 31) (L' := [_, _, _, _, _, _]) C dX5_rideThrough_28 rfl rfl (by decide) rfl rfl ?_
      refine aw_goto (tgt := 11) C dX5_rideThrough_31 rfl ?_
      refine ih (i + 1) _ (by omega) (fr_tr hf (fr_w (fr_st _ _ _ _) (by omega) (by omega))) (fun p p0 p1 => ?_)
      by_cases h : p = i
      · rw [h, st2_s, er, hf 15 (by omega), hf 17 (by omega), hf 12 (by omega)]
      · rw [st2_n h]
        exact hv p p0 (by omega)
theorem c_rideThrough10 {S : Mem} {m : Nat} (T : TW 10 S) (hm : (m : Int) < S 10 8) (hr : ∀ p, 0 ≤ p → p < S 10 9 → 0 ≤ S (19 + m) p ∧ S (19 + m) p ≤ 99) : AMv 2 yX5_rideThrough cX5_rideThrough 6 [.inr (.inr 10), .inl (m : Int)] S (fun S' => fr (20 + m) (21 + m) S S' ∧ ∀ p, 0 ≤ p → p < S 10 9 → S' (20 + m) p = stp (S 15) (S 17) (S 12 m) (S 13 m) (S 14 m) (S (19 + m)) p) := by
  obtain ⟨t1, t2, -, -, t5, t6⟩ := TW10 T
  refine amv_intro (L := [_, _, none, none, none, none]) (by decide) rfl (Nat.le_of_ble_eq_true rfl) (fun X C hret => ?_)
  refine aw_aldn (n := 1) C dX5_rideThrough_0 rfl rfl ?_
  refine aw_getR (n := 4) C dX5_rideThrough_1 rfl fl_X5_36 rfl rfl ?_
  refine aw_ildn (n := 5) C dX5_rideThrough_4 rfl rfl ?_
  refine aw_iconst (n := 6) C dX5_rideThrough_5 rfl ?_
  refine aw_iadd (n := 7) C dX5_rideThrough_6 rfl ?_
  refine aw_aald (j := (m + 1)) (n := 8) C dX5_rideThrough_7 rfl rfl (by decide) (by omega) (by omega) ((tf10 (by omega)).trans (by rw [show 19 + (m + 1) = 20 + m by omega])) ?_
  refine aw_astn (n := 9) (L' := [_, _, _, _, _, _]) C dX5_rideThrough_8 rfl (by decide) rfl rfl ?_
  refine aw_iconst (n := 10) C dX5_rideThrough_9 rfl ?_
  refine aw_istn (n := 11) (L' := [_, _, _, _, _, _]) C dX5_rideThrough_10 rfl (by decide) rfl rfl ?_
  exact c_rideThrough10_loop T hm hr C hret (fun S' h1 h2 => ⟨h1, h2⟩) (S 10 9).toNat 0 S (by omega) (fr_rf _ _ _) (fun p p0 p1 => by omega)
theorem tf28 {m : Nat} (h : m < 9) : shf 36 m = some (37 + m) := by rcases k9 h with rfl | rfl | rfl | rfl | rfl | rfl | rfl | rfl | rfl <;> rfl
theorem tk28 {m : Nat} (h : m < 9) : shk (37 + m) = .inr (0, 4) := by rcases k9 h with rfl | rfl | rfl | rfl | rfl | rfl | rfl | rfl | rfl <;> rfl
theorem TW28 {S : Mem} (h : TW 28 S) : (0 ≤ S 28 8 ∧ S 28 8 ≤ 8) ∧ (0 ≤ S 28 9 ∧ S 28 9 ≤ 4) ∧ (0 ≤ S 28 10 ∧ S 28 10 ≤ 99) ∧ (0 ≤ S 28 11 ∧ S 28 11 ≤ 99) ∧ (∀ m, 0 ≤ m → m < S 28 8 → (S 30 m = 0 ∨ S 30 m = 1) ∧ tok (S 28 9) (S 31 m) (S 32 m)) ∧ (∀ p, 0 ≤ p → p < S 28 9 → (0 ≤ S 33 p ∧ S 33 p ≤ 2) ∧ (0 ≤ S 34 p ∧ S 34 p ≤ 59) ∧ (0 ≤ S 35 p ∧ S 35 p ≤ 9)) := h
theorem TW28_fr {S S' : Mem} (h : TW 28 S) (hf : fr 37 46 S S') : TW 28 S' := by
  have e0 := hf 28 (by omega)
  have e2 := hf 30 (by omega)
  have e3 := hf 31 (by omega)
  have e4 := hf 32 (by omega)
  have e5 := hf 33 (by omega)
  have e6 := hf 34 (by omega)
  have e7 := hf 35 (by omega)
  unfold TW
  rw [e0, e2, e3, e4, e5, e6, e7]
  exact h
theorem c_classDue28 {S : Mem} {p : Int} {m : Nat} (hm : m < 9) (h0 : 0 ≤ p) (h1 : p < 4) (hr : rng (S (37 + m) p)) (hl1 : rng (S 28 10)) (hl2 : rng (S 28 11)) : AMi 0 yX5_classDue cX5_classDue 4 (some .int) [.inr (.inr 28), .inl p, .inl (m : Int)] S (fun z S' => z = due (S 28 10) (S 28 11) (S (37 + m) p) ∧ S' = S) := by
  refine ami_intro (L := [_, _, _, none]) (by decide) (Or.inl rfl) rfl (Nat.le_of_ble_eq_true rfl) (fun X C hret => ?_)
  refine aw_aldn (n := 1) C dX5_classDue_0 rfl rfl ?_
  refine aw_getR (n := 4) C dX5_classDue_1 rfl fl_X5_36 rfl rfl ?_
  refine aw_ildn (n := 5) C dX5_classDue_4 rfl rfl ?_
  refine aw_aald (j := m) (n := 6) C dX5_classDue_5 rfl rfl (by decide) rfl (by omega) (tf28 hm) ?_
  refine aw_ildn (n := 7) C dX5_classDue_6 rfl rfl ?_
  refine aw_iald (n := 8) C dX5_classDue_7 rfl (tk28 hm) (by omega) (by omega) ?_
  refine aw_istn (n := 9) (L' := [_, _, _, _]) C dX5_classDue_8 rfl (by decide) rfl rfl ?_
  refine aw_ildn (n := 10) C dX5_classDue_9 rfl rfl ?_
  refine aw_aldn (n := 11) C dX5_classDue_10 rfl rfl ?_
  refine aw_getI (z := 10) (n := 14) C dX5_classDue_11 rfl fl_X5_46 rfl rfl rfl ?_
  refine aw_icge (tgt := 19) (n := 17) C dX5_classDue_14 rfl rfl (by omega) (by omega) (fun h_14 => ?_) (fun h_14 => ?_)
  · refine aw_ildn (n := 20) C dX5_classDue_19 rfl rfl ?_
    refine aw_aldn (n := 21) C dX5_classDue_20 rfl rfl ?_
    refine aw_getI (z := 11) (n := 24) C dX5_classDue_21 rfl fl_X5_49 rfl rfl rfl ?_
    refine aw_icge (tgt := 31) (n := 27) C dX5_classDue_24 rfl rfl (by omega) (by omega) (fun h_24 => ?_) (fun h_24 => ?_)
    · refine aw_iconst (n := 32) C dX5_classDue_31 rfl ?_
      refine hret 32 _ _ _ dX5_classDue_32 (Or.inl rfl) ?_
      exact ⟨by unfold due; omega, rfl⟩
    · refine aw_iconst (n := 28) C dX5_classDue_27 rfl ?_
      refine aw_goto (tgt := 32) C dX5_classDue_28 rfl ?_
      refine hret 32 _ _ _ dX5_classDue_32 (Or.inl rfl) ?_
      exact ⟨by unfold due; omega, rfl⟩
  · refine aw_iconst (n := 18) C dX5_classDue_17 rfl ?_
    refine hret 18 _ _ _ dX5_classDue_18 (Or.inl rfl) ?_
    exact ⟨by unfold due; omega, rfl⟩
theorem c_regretAhead28 {S : Mem} {p : Int} {m : Nat} (hm : m < 9) (h0 : 0 ≤ p) (h1 : p < 4) : AMi 0 yX5_regretAhead cX5_regretAhead 3 (some .int) [.inr (.inr 28), .inl p, .inl (m : Int)] S (fun z S' => z = S (37 + m) p ∧ S' = S) := by
  refine ami_intro (L := [_, _, _]) (by decide) (Or.inl rfl) rfl (Nat.le_of_ble_eq_true rfl) (fun X C hret => ?_)
  refine aw_aldn (n := 1) C dX5_regretAhead_0 rfl rfl ?_
  refine aw_getR (n := 4) C dX5_regretAhead_1 rfl fl_X5_36 rfl rfl ?_
  refine aw_ildn (n := 5) C dX5_regretAhead_4 rfl rfl ?_
  refine aw_aald (j := m) (n := 6) C dX5_regretAhead_5 rfl rfl (by decide) rfl (by omega) (tf28 hm) ?_
  refine aw_ildn (n := 7) C dX5_regretAhead_6 rfl rfl ?_
  refine aw_iald (n := 8) C dX5_regretAhead_7 rfl (tk28 hm) (by omega) (by omega) ?_
  refine hret 8 _ _ _ dX5_regretAhead_8 (Or.inl rfl) ?_
  exact ⟨rfl, rfl⟩
theorem c_regretBehind28 {S : Mem} {p : Int} {m : Nat} (T : TW 28 S) (hm : (m : Int) < S 28 8) (h0 : 0 ≤ p) (h1 : p < S 28 9) (hr : 0 ≤ S (37 + m) p ∧ S (37 + m) p ≤ 99) : AMi 1 yX5_regretBehind cX5_regretBehind 5 (some .int) [.inr (.inr 28), .inl p, .inl (m : Int)] S (fun z S' => z = beh (S 33) (S 35) (S 30 m) (S (37 + m)) p ∧ S' = S) := by
  obtain ⟨t1, t2, -, -, t5, t6⟩ := TW28 T
  obtain ⟨a1, -⟩ := t5 m (by omega) hm
  obtain ⟨b1, -, b3⟩ := t6 p h0 h1
  have hm9 : m < 9 := by omega
  refine ami_intro (L := [_, _, _, none, none]) (by decide) (Or.inl rfl) rfl (Nat.le_of_ble_eq_true rfl) (fun X C hret => ?_)
  refine aw_aldn (n := 1) C dX5_regretBehind_0 rfl rfl ?_
  refine aw_getR (n := 4) C dX5_regretBehind_1 rfl fl_X5_36 rfl rfl ?_
  refine aw_ildn (n := 5) C dX5_regretBehind_4 rfl rfl ?_
  refine aw_aald (j := m) (n := 6) C dX5_regretBehind_5 rfl rfl (by decide) rfl (by omega) (tf28 hm9) ?_
  refine aw_ildn (n := 7) C dX5_regretBehind_6 rfl rfl ?_
  refine aw_iald (n := 8) C dX5_regretBehind_7 rfl (tk28 hm9) (by omega) (by omega) ?_
  refine aw_istn (n := 9) (L' := [_, _, _, _, _]) C dX5_regretBehind_8 rfl (by decide) rfl rfl ?_
  refine aw_aldn (n := 10) C dX5_regretBehind_9 rfl rfl ?_
  refine aw_getR (n := 13) C dX5_regretBehind_10 rfl fl_X5_15 rfl rfl ?_
  refine aw_ildn (n := 14) C dX5_regretBehind_13 rfl rfl ?_
  refine aw_zald (n := 15) C dX5_regretBehind_14 rfl rfl (by omega) (by omega) ?_
  refine aw_ifeq (tgt := 42) (n := 18) C dX5_regretBehind_15 rfl rfl (by omega) (fun h_15 => ?_) (fun h_15 => ?_)
  · refine aw_aldn (n := 43) C dX5_regretBehind_42 rfl rfl ?_
    refine aw_getR (n := 46) C dX5_regretBehind_43 rfl fl_X5_25 rfl rfl ?_
    refine aw_ildn (n := 47) C dX5_regretBehind_46 rfl rfl ?_
    refine aw_iald (n := 48) C dX5_regretBehind_47 rfl rfl (by omega) (by omega) ?_
    refine aw_iconst (n := 49) C dX5_regretBehind_48 rfl ?_
    refine aw_icne (tgt := 67) (n := 52) C dX5_regretBehind_49 rfl rfl (by omega) (by omega) (fun h_49 => ?_) (fun h_49 => ?_)
    · refine aw_aldn (n := 68) C dX5_regretBehind_67 rfl rfl ?_
      refine aw_getR (n := 71) C dX5_regretBehind_68 rfl fl_X5_31 rfl rfl ?_
      refine aw_ildn (n := 72) C dX5_regretBehind_71 rfl rfl ?_
      refine aw_iald (n := 73) C dX5_regretBehind_72 rfl rfl (by omega) (by omega) ?_
      refine aw_istw (n := 75) (L' := [_, _, _, _, _]) C dX5_regretBehind_73 rfl (by decide) rfl rfl ?_
      refine aw_iconst (n := 76) C dX5_regretBehind_75 rfl ?_
      refine aw_ildn (n := 77) C dX5_regretBehind_76 rfl rfl ?_
      refine aw_ildw (n := 79) C dX5_regretBehind_77 rfl rfl ?_
      refine aw_isub (n := 80) C dX5_regretBehind_79 rfl ?_
      refine aw_mmax (n := 83) C dX5_regretBehind_80 rfl wM_X5_86 wS_yJ9_max_7cf53 wI_J9 wC_yJ9_max_7cf53 (by decide) (Nat.le_of_ble_eq_true rfl) (by omega) (by omega) ?_
      refine hret 83 _ _ _ dX5_regretBehind_83 (Or.inl rfl) ?_
      exact ⟨by unfold beh bnd chg; omega, rfl⟩
    · refine aw_iconst (n := 53) C dX5_regretBehind_52 rfl ?_
      refine aw_aldn (n := 54) C dX5_regretBehind_53 rfl rfl ?_
      refine aw_getR (n := 57) C dX5_regretBehind_54 rfl fl_X5_31 rfl rfl ?_
      refine aw_ildn (n := 58) C dX5_regretBehind_57 rfl rfl ?_
      refine aw_iald (n := 59) C dX5_regretBehind_58 rfl rfl (by omega) (by omega) ?_
      refine aw_iconst (n := 60) C dX5_regretBehind_59 rfl ?_
      refine aw_isub (n := 61) C dX5_regretBehind_60 rfl ?_
      refine aw_mmax (n := 64) C dX5_regretBehind_61 rfl wM_X5_86 wS_yJ9_max_7cf53 wI_J9 wC_yJ9_max_7cf53 (by decide) (Nat.le_of_ble_eq_true rfl) (by omega) (by omega) ?_
      refine aw_goto (tgt := 73) C dX5_regretBehind_64 rfl ?_
      refine aw_istw (n := 75) (L' := [_, _, _, _, _]) C dX5_regretBehind_73 rfl (by decide) rfl rfl ?_
      refine aw_iconst (n := 76) C dX5_regretBehind_75 rfl ?_
      refine aw_ildn (n := 77) C dX5_regretBehind_76 rfl rfl ?_
      refine aw_ildw (n := 79) C dX5_regretBehind_77 rfl rfl ?_
      refine aw_isub (n := 80) C dX5_regretBehind_79 rfl ?_
      refine aw_mmax (n := 83) C dX5_regretBehind_80 rfl wM_X5_86 wS_yJ9_max_7cf53 wI_J9 wC_yJ9_max_7cf53 (by decide) (Nat.le_of_ble_eq_true rfl) (by omega) (by omega) ?_
      refine hret 83 _ _ _ dX5_regretBehind_83 (Or.inl rfl) ?_
      exact ⟨by unfold beh bnd chg; omega, rfl⟩
  · refine aw_bipush (n := 20) C dX5_regretBehind_18 rfl rfl ?_
    refine aw_ildn (n := 21) C dX5_regretBehind_20 rfl rfl ?_
    refine aw_aldn (n := 22) C dX5_regretBehind_21 rfl rfl ?_
    refine aw_getR (n := 25) C dX5_regretBehind_22 rfl fl_X5_25 rfl rfl ?_
    refine aw_ildn (n := 26) C dX5_regretBehind_25 rfl rfl ?_
    refine aw_iald (n := 27) C dX5_regretBehind_26 rfl rfl (by omega) (by omega) ?_
    refine aw_iconst (n := 28) C dX5_regretBehind_27 rfl ?_
    refine aw_icne (tgt := 36) (n := 31) C dX5_regretBehind_28 rfl rfl (by omega) (by omega) (fun h_28 => ?_) (fun h_28 => ?_)
    · refine aw_iconst (n := 37) C dX5_regretBehind_36 rfl ?_
      refine aw_iadd (n := 38) C dX5_regretBehind_37 rfl ?_
      refine aw_mmin (n := 41) C dX5_regretBehind_38 rfl wM_X5_81 wS_yJ9_min_7cf53 wI_J9 wC_yJ9_min_7cf53 (by decide) (Nat.le_of_ble_eq_true rfl) (by omega) (by omega) ?_
      refine hret 41 _ _ _ dX5_regretBehind_41 (Or.inl rfl) ?_
      exact ⟨by unfold beh bnd chg; omega, rfl⟩
    · refine aw_bipush (n := 33) C dX5_regretBehind_31 rfl rfl ?_
      refine aw_goto (tgt := 37) C dX5_regretBehind_33 rfl ?_
      refine aw_iadd (n := 38) C dX5_regretBehind_37 rfl ?_
      refine aw_mmin (n := 41) C dX5_regretBehind_38 rfl wM_X5_81 wS_yJ9_min_7cf53 wI_J9 wC_yJ9_min_7cf53 (by decide) (Nat.le_of_ble_eq_true rfl) (by omega) (by omega) ?_
      refine hret 41 _ _ _ dX5_regretBehind_41 (Or.inl rfl) ?_
      exact ⟨by unfold beh bnd chg; omega, rfl⟩
theorem c_rideThrough28_loop {X : AMX} {S : Mem} {m : Nat} {post : Mem → Prop} (T : TW 28 S) (hm : (m : Int) < S 28 8) (hr : ∀ p, 0 ≤ p → p < S 28 9 → 0 ≤ S (37 + m) p ∧ S (37 + m) p ≤ 99) (C : CX X 2 RX5 cX5_rideThrough 6) (hret : ∀ (pc : Nat) (L : List (Option AV)) (S' : Mem), decode cX5_rideThrough pc = .ok (.return_, 1) → post S' → AW X cX5_rideThrough 6 pc L [] S') (hp : ∀ S', fr (38 + m) (39 + m) S S' → (∀ p, 0 ≤ p → p < S 28 9 → S' (38 + m) p = stp (S 33) (S 35) (S 30 m) (S 31 m) (S 32 m) (S (37 + m)) p) → post S') : ∀ (j i : Nat) (S1 : Mem), (i : Int) + j = S 28 9 → fr (38 + m) (39 + m) S S1 → (∀ p : Int, 0 ≤ p → p < i → S1 (38 + m) p = beh (S 33) (S 35) (S 30 m) (S (37 + m)) p) → AW X cX5_rideThrough 6 11 [some (.inr (.inr 28)), some (.inl m), some (.inr (.inr (38 + m))), some (.inl i), none, none] [] S1 := by
  obtain ⟨t1, t2, -, -, t5, t6⟩ := TW28 T
  obtain ⟨a1, a2⟩ := t5 m (by omega) hm
  have hk : shk (38 + m) = .inr (0, 4) := by rw [show 38 + m = 37 + (m + 1) by omega]; exact tk28 (by omega)
  intro j
  induction j with
  | zero =>
    intro i S1 hi hf hv
    have e9 : S1 28 9 = S 28 9 := congrFun (hf 28 (by omega)) 9
    have ea : S1 31 m = S 31 m := congrFun (hf 31 (by omega)) m
    have eb : S1 32 m = S 32 m := congrFun (hf 32 (by omega)) m
    unfold tok at a2
    refine aw_ildn (n := 12) C dX5_rideThrough_11 rfl rfl ?_
    refine aw_aldn (n := 13) C dX5_rideThrough_12 rfl rfl ?_
    refine aw_getI (z := 9) (n := 16) C dX5_rideThrough_13 rfl fl_X5_43 rfl rfl rfl ?_
    refine aw_icge (tgt := 34) (n := 19) C dX5_rideThrough_16 rfl rfl (by omega) (by omega) (fun h_16 => ?_) (fun h_16 => ?_)
    · refine aw_aldn (n := 35) C dX5_rideThrough_34 rfl rfl ?_
      refine aw_getR (n := 38) C dX5_rideThrough_35 rfl fl_X5_19 rfl rfl ?_
      refine aw_ildn (n := 39) C dX5_rideThrough_38 rfl rfl ?_
      refine aw_iald (n := 40) C dX5_rideThrough_39 rfl rfl (by omega) (by omega) ?_
      rw [ea]
      refine aw_istn (n := 41) (L' := [_, _, _, _, _, _]) C dX5_rideThrough_40 rfl (by decide) rfl rfl ?_
      refine aw_aldn (n := 42) C dX5_rideThrough_41 rfl rfl ?_
      refine aw_getR (n := 45) C dX5_rideThrough_42 rfl fl_X5_22 rfl rfl ?_
      refine aw_ildn (n := 46) C dX5_rideThrough_45 rfl rfl ?_
      refine aw_iald (n := 47) C dX5_rideThrough_46 rfl rfl (by omega) (by omega) ?_
      rw [eb]
      refine aw_istw (n := 49) (L' := [_, _, _, _, _, _]) C dX5_rideThrough_47 rfl (by decide) rfl rfl ?_
      refine aw_ildn (n := 50) C dX5_rideThrough_49 rfl rfl ?_
      refine aw_bipush (n := 52) C dX5_rideThrough_50 rfl rfl ?_
      refine aw_iceq (tgt := 85) (n := 55) C dX5_rideThrough_52 rfl rfl (by omega) (by omega) (fun h_52 => ?_) (fun h_52 => ?_)
      · refine hret 85 _ _ dX5_rideThrough_85 (hp S1 hf (fun p p0 p1 => ?_))
        unfold stp
        rw [if_neg (by omega)]
        exact hv p p0 (by omega)
      · refine aw_ildw (n := 57) C dX5_rideThrough_55 rfl rfl ?_
        refine aw_bipush (n := 59) C dX5_rideThrough_57 rfl rfl ?_
        refine aw_iceq (tgt := 85) (n := 62) C dX5_rideThrough_59 rfl rfl (by omega) (by omega) (fun h_59 => ?_) (fun h_59 => ?_)
        · omega
        · refine aw_aldn (n := 63) C dX5_rideThrough_62 rfl rfl ?_
          refine aw_ildn (n := 64) C dX5_rideThrough_63 rfl rfl ?_
          refine aw_iald (n := 65) C dX5_rideThrough_64 rfl hk (by omega) (by omega) ?_
          refine aw_aldn (n := 66) C dX5_rideThrough_65 rfl rfl ?_
          refine aw_ildw (n := 68) C dX5_rideThrough_66 rfl rfl ?_
          refine aw_iald (n := 69) C dX5_rideThrough_68 rfl hk (by omega) (by omega) ?_
          refine aw_iadd (n := 70) C dX5_rideThrough_69 rfl ?_
          refine aw_iconst (n := 71) C dX5_rideThrough_70 rfl ?_
          refine aw_idiv (n := 72) C dX5_rideThrough_71 rfl (by have := hv (S 31 m) (by omega) (by omega); have := hv (S 32 m) (by omega) (by omega); have := bnd_r (S (37 + m) (S 31 m) + chg (S 33 (S 31 m)) (S 35 (S 31 m)) (S 30 m)); have := bnd_r (S (37 + m) (S 32 m) + chg (S 33 (S 32 m)) (S 35 (S 32 m)) (S 30 m)); unfold beh at *; omega) (by omega) ?_
          refine aw_istw (n := 74) (L' := [_, _, _, _, _, _]) C dX5_rideThrough_72 rfl (by decide) rfl rfl ?_
          refine aw_aldn (n := 75) C dX5_rideThrough_74 rfl rfl ?_
          refine aw_ildn (n := 76) C dX5_rideThrough_75 rfl rfl ?_
          refine aw_ildw (n := 78) C dX5_rideThrough_76 rfl rfl ?_
          refine aw_iast (n := 79) C dX5_rideThrough_78 rfl hk (by omega) (by omega) ?_
          refine aw_aldn (n := 80) C dX5_rideThrough_79 rfl rfl ?_
          refine aw_ildw (n := 82) C dX5_rideThrough_80 rfl rfl ?_
          refine aw_ildw (n := 84) C dX5_rideThrough_82 rfl rfl ?_
          refine aw_iast (n := 85) C dX5_rideThrough_84 rfl hk (by omega) (by omega) ?_
          refine hret 85 _ _ dX5_rideThrough_85 ?_
          refine hp _ (fr_tr (fr_tr hf (fr_w (fr_st _ _ _ _) (by omega) (by omega))) (fr_w (fr_st _ _ _ _) (by omega) (by omega))) (fun p p0 p1 => ?_)
          rw [hv (S 31 m) (by omega) (by omega), hv (S 32 m) (by omega) (by omega)]
          unfold stp
          by_cases h1 : p = S 32 m
          · rw [h1, st2_s, if_pos ⟨by omega, Or.inr rfl⟩]
          · rw [st2_n h1]
            by_cases h2 : p = S 31 m
            · rw [h2, st2_s, if_pos ⟨by omega, Or.inl rfl⟩]
            · rw [st2_n h2, if_neg (by omega)]
              exact hv p p0 (by omega)
    · omega
  | succ j ih =>
    intro i S1 hi hf hv
    have e9 : S1 28 9 = S 28 9 := congrFun (hf 28 (by omega)) 9
    have er : S1 (37 + m) = S (37 + m) := hf _ (by omega)
    have T1 : TW 28 S1 := TW28_fr T (fr_w hf (by omega) (by omega))
    refine aw_ildn (n := 12) C dX5_rideThrough_11 rfl rfl ?_
    refine aw_aldn (n := 13) C dX5_rideThrough_12 rfl rfl ?_
    refine aw_getI (z := 9) (n := 16) C dX5_rideThrough_13 rfl fl_X5_43 rfl rfl rfl ?_
    refine aw_icge (tgt := 34) (n := 19) C dX5_rideThrough_16 rfl rfl (by omega) (by omega) (fun h_16 => ?_) (fun h_16 => ?_)
    · omega
    · refine aw_aldn (n := 20) C dX5_rideThrough_19 rfl rfl ?_
      refine aw_ildn (n := 21) C dX5_rideThrough_20 rfl rfl ?_
      refine aw_aldn (n := 22) C dX5_rideThrough_21 rfl rfl ?_
      refine aw_ildn (n := 23) C dX5_rideThrough_22 rfl rfl ?_
      refine aw_ildn (n := 24) C dX5_rideThrough_23 rfl rfl ?_
      refine aw_cVi (n := 27) (vs := [_, _]) C dX5_rideThrough_24 rfl rfl rfl mm_X5_regretBehind wM_X5_77 rfl rfl (Nat.le_of_ble_eq_true rfl) (c_regretBehind28 T1 (by rw [hf 28 (by omega)]; exact hm) (by omega) (by omega) (by rw [er]; exact hr _ (by omega) (by omega))) (by decide) (fun z_24 S_24 q_24 => ?_)
      rw [q_24.1, q_24.2]
      clear q_24 S_24 z_24
      refine aw_iast (n := 28) C dX5_rideThrough_27 rfl hk (by omega) (by omega) ?_
      refine aw_iinc (n := 31) (L' := [_, _, _, _, _, _]) C dX5_rideThrough_28 rfl rfl (by decide) rfl rfl ?_
      refine aw_goto (tgt := 11) C dX5_rideThrough_31 rfl ?_
      refine ih (i + 1) _ (by omega) (fr_tr hf (fr_w (fr_st _ _ _ _) (by omega) (by omega))) (fun p p0 p1 => ?_)
      by_cases h : p = i
      · rw [h, st2_s, er, hf 33 (by omega), hf 35 (by omega), hf 30 (by omega)]
      · rw [st2_n h]
        exact hv p p0 (by omega)
theorem c_rideThrough28 {S : Mem} {m : Nat} (T : TW 28 S) (hm : (m : Int) < S 28 8) (hr : ∀ p, 0 ≤ p → p < S 28 9 → 0 ≤ S (37 + m) p ∧ S (37 + m) p ≤ 99) : AMv 2 yX5_rideThrough cX5_rideThrough 6 [.inr (.inr 28), .inl (m : Int)] S (fun S' => fr (38 + m) (39 + m) S S' ∧ ∀ p, 0 ≤ p → p < S 28 9 → S' (38 + m) p = stp (S 33) (S 35) (S 30 m) (S 31 m) (S 32 m) (S (37 + m)) p) := by
  obtain ⟨t1, t2, -, -, t5, t6⟩ := TW28 T
  refine amv_intro (L := [_, _, none, none, none, none]) (by decide) rfl (Nat.le_of_ble_eq_true rfl) (fun X C hret => ?_)
  refine aw_aldn (n := 1) C dX5_rideThrough_0 rfl rfl ?_
  refine aw_getR (n := 4) C dX5_rideThrough_1 rfl fl_X5_36 rfl rfl ?_
  refine aw_ildn (n := 5) C dX5_rideThrough_4 rfl rfl ?_
  refine aw_iconst (n := 6) C dX5_rideThrough_5 rfl ?_
  refine aw_iadd (n := 7) C dX5_rideThrough_6 rfl ?_
  refine aw_aald (j := (m + 1)) (n := 8) C dX5_rideThrough_7 rfl rfl (by decide) (by omega) (by omega) ((tf28 (by omega)).trans (by rw [show 37 + (m + 1) = 38 + m by omega])) ?_
  refine aw_astn (n := 9) (L' := [_, _, _, _, _, _]) C dX5_rideThrough_8 rfl (by decide) rfl rfl ?_
  refine aw_iconst (n := 10) C dX5_rideThrough_9 rfl ?_
  refine aw_istn (n := 11) (L' := [_, _, _, _, _, _]) C dX5_rideThrough_10 rfl (by decide) rfl rfl ?_
  exact c_rideThrough28_loop T hm hr C hret (fun S' h1 h2 => ⟨h1, h2⟩) (S 28 9).toNat 0 S (by omega) (fr_rf _ _ _) (fun p p0 p1 => by omega)
