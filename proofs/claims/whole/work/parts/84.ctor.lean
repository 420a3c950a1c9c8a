/-! constructors -/
theorem wTB_X0 : Cond.instantiable RX0 8 ∈ am_BW := am_BW_i 197 rfl rfl
theorem wTB_X1 : Cond.instantiable RX1 4 ∈ am_BW := am_BW_i 161 rfl rfl
theorem wTB_X2 : Cond.instantiable RX2 3 ∈ am_BW := am_BW_i 181 rfl rfl
theorem wTB_X3 : Cond.instantiable RX3 3 ∈ am_BW := am_BW_i 79 rfl rfl
theorem wTB_X5 : Cond.instantiable RX5 12 ∈ am_BW := am_BW_i 98 rfl rfl
theorem wTB_X6 : Cond.instantiable RX6 9 ∈ am_BW := am_BW_i 70 rfl rfl
set_option maxRecDepth 16000 in
theorem wTB_X7 : Cond.instantiable RX7 30 ∈ am_BW := am_BW_i 636 rfl rfl
theorem df_X0 : ∀ j, j < 8 → defaultValue (tyX0 j) = vp_V [.null, .null, .null, .null, .int 0, .null, .int 0, .int 0] j := fun j hj => by
  rcases (show j = 0 ∨ j = 1 ∨ j = 2 ∨ j = 3 ∨ j = 4 ∨ j = 5 ∨ j = 6 ∨ j = 7 by omega) with rfl | rfl | rfl | rfl | rfl | rfl | rfl | rfl <;> rfl
theorem yy_X0 : bm_Y yX0_init cX0_init 2 1 := ⟨wC_yX0_init, wI_X0, wN_yX0_init, rfl, by decide +kernel, by decide⟩
theorem df_X1 : ∀ j, j < 4 → defaultValue (tyX1 j) = vp_V [.null, .null, .null, .int 0] j := fun j hj => by
  rcases (show j = 0 ∨ j = 1 ∨ j = 2 ∨ j = 3 by omega) with rfl | rfl | rfl | rfl <;> rfl
theorem yy_X1 : bm_Y yX1_init cX1_init 1 0 := ⟨wC_yX1_init, wI_X1, wN_yX1_init, rfl, by decide +kernel, by decide⟩
theorem df_X2 : ∀ j, j < 3 → defaultValue (tyX2 j) = vp_V [.null, .null, .null] j := fun j hj => by
  rcases (show j = 0 ∨ j = 1 ∨ j = 2 by omega) with rfl | rfl | rfl <;> rfl
theorem yy_X2 : bm_Y yX2_init cX2_init 2 1 := ⟨wC_yX2_init, wI_X2, wN_yX2_init, rfl, by decide +kernel, by decide⟩
theorem df_X3 : ∀ j, j < 3 → defaultValue (tyX3 j) = vp_V [.null, .int 0, .int 0] j := fun j hj => by
  rcases (show j = 0 ∨ j = 1 ∨ j = 2 by omega) with rfl | rfl | rfl <;> rfl
theorem yy_X3 : bm_Y yX3_init cX3_init 1 0 := ⟨wC_yX3_init, wI_X3, wN_yX3_init, rfl, by decide +kernel, by decide⟩
theorem df_X5 : ∀ j, j < 12 → defaultValue (tyX5 j) = vp_V [.null, .null, .null, .null, .null, .null, .null, .null, .int 0, .int 0, .int 0, .int 0] j := fun j hj => by
  rcases (show j = 0 ∨ j = 1 ∨ j = 2 ∨ j = 3 ∨ j = 4 ∨ j = 5 ∨ j = 6 ∨ j = 7 ∨ j = 8 ∨ j = 9 ∨ j = 10 ∨ j = 11 by omega) with rfl | rfl | rfl | rfl | rfl | rfl | rfl | rfl | rfl | rfl | rfl | rfl <;> rfl
theorem yy_X5 : bm_Y yX5_init cX5_init 1 0 := ⟨wC_yX5_init, wI_X5, wN_yX5_init, rfl, by decide +kernel, by decide⟩
theorem df_X6 : ∀ j, j < 9 → defaultValue (tyX6 j) = vp_V [.null, .null, .null, .null, .null, .null, .int 0, .int 0, .int 0] j := fun j hj => by
  rcases (show j = 0 ∨ j = 1 ∨ j = 2 ∨ j = 3 ∨ j = 4 ∨ j = 5 ∨ j = 6 ∨ j = 7 ∨ j = 8 by omega) with rfl | rfl | rfl | rfl | rfl | rfl | rfl | rfl | rfl <;> rfl
theorem yy_X6 : bm_Y yX6_init cX6_init 2 0 := ⟨wC_yX6_init, wI_X6, wN_yX6_init, rfl, by decide +kernel, by decide⟩
theorem df_X7 : ∀ j, j < 30 → defaultValue (tyX7 j) = vp_V [.int 0, .int 0, .null, .null, .null, .int 0, .int 0, .int 0, .int 0, .null, .null, .null, .null, .null, .null, .null, .int 0, .int 0, .int 0, .null, .null, .null, .null, .null, .null, .null, .int 0, .null, .null, .null] j := fun j hj => by
  rcases (show j = 0 ∨ j = 1 ∨ j = 2 ∨ j = 3 ∨ j = 4 ∨ j = 5 ∨ j = 6 ∨ j = 7 ∨ j = 8 ∨ j = 9 ∨ j = 10 ∨ j = 11 ∨ j = 12 ∨ j = 13 ∨ j = 14 ∨ j = 15 ∨ j = 16 ∨ j = 17 ∨ j = 18 ∨ j = 19 ∨ j = 20 ∨ j = 21 ∨ j = 22 ∨ j = 23 ∨ j = 24 ∨ j = 25 ∨ j = 26 ∨ j = 27 ∨ j = 28 ∨ j = 29 by omega) with rfl | rfl | rfl | rfl | rfl | rfl | rfl | rfl | rfl | rfl | rfl | rfl | rfl | rfl | rfl | rfl | rfl | rfl | rfl | rfl | rfl | rfl | rfl | rfl | rfl | rfl | rfl | rfl | rfl | rfl <;> rfl
theorem yy_X7 : bm_Y yX7_init cX7_init 1 0 := ⟨wC_yX7_init, wI_X7, wN_yX7_init, rfl, by decide +kernel, by decide⟩
theorem nx_X3 : ∀ U, bm_N U → va_Nw (.methodLinkNest RX6 17 yX3_init RX6) U := fun _ h => h.1
theorem nx_X5 : ∀ U, bm_N U → va_Nw (.methodLinkNest RX6 20 yX5_init RX6) U := fun _ h => h.2.1
theorem nx_X1 : ∀ U, bm_N U → va_Nw (.methodLinkNest RX6 30 yX1_init RX6) U := fun _ h => h.2.2.1
/-- the world behind X3_init -/
def w_X3 (dA : Nat → ClassId) (h0 q1 : Nat) : va_W := [(h0, .inr (3, [.ref q1, .int (-1), .int 0])), (q1, aI dA 60)]
theorem b_X3 (h0 : Nat) : BM 1 1 60 yX3_init cX3_init 1 [.ref h0] [(h0, .inr (3, [.null, .int 0, .int 0]))] (fun dA u => ∃ q1, u = w_X3 dA h0 q1) := by
  refine bm_intro (by decide) rfl (Nat.le_of_ble_eq_true rfl) (fun X C hI hret => ?_)
  show BW X 1 0 0 0 [(0, .ref h0)] [] _
  refine bw_ald (n := 1) 0 C dX3_init_0 rfl rfl ?_
  refine bw_obj (n := 4) C dX3_init_1 rfl wM_X3_3 (by decide) (Nat.le_of_ble_eq_true rfl) ?_
  refine bw_ald (n := 5) 0 C dX3_init_4 rfl rfl ?_
  refine bw_bipush (n := 7) (v := 60) C dX3_init_5 rfl (by decide) ?_
  refine bw_newi (n := 9) (N := 60) (c1 := 1) (s1 := 60) C dX3_init_7 rfl (by decide) (by decide) (by decide) rfl rfl (by decide) (by decide) (fun q1 => ?_)
  refine bw_putF (n := 12) (ci := 3) (k := 0) (T := TX3) (N := 3) (Cn := RX3) tyX3 C hI dX3_init_9 rfl inBX3 tyX3_ok nmX3 rfl (by decide) wF_X3_9 rfl rfl (tyX3_ok 0 (by decide)) rfl rfl (Nat.le_of_ble_eq_true rfl) ?_
  refine bw_ald (n := 13) 0 C dX3_init_12 rfl rfl ?_
  refine bw_iconst (n := 14) (v := (-1)) C dX3_init_13 rfl (by decide) ?_
  refine bw_put (n := 17) (ci := 3) (k := 1) (T := TX3) (N := 3) (Cn := RX3) tyX3 C dX3_init_14 rfl inBX3 tyX3_ok nmX3 rfl (by decide) wF_X3_15 rfl (tyX3_ok 1 (by decide)) rfl rfl (Nat.le_of_ble_eq_true rfl) ?_
  refine bw_ald (n := 18) 0 C dX3_init_17 rfl rfl ?_
  refine bw_iconst (n := 19) (v := 0) C dX3_init_18 rfl (by decide) ?_
  refine bw_put (n := 22) (ci := 3) (k := 2) (T := TX3) (N := 3) (Cn := RX3) tyX3 C dX3_init_19 rfl inBX3 tyX3_ok nmX3 rfl (by decide) wF_X3_19 rfl (tyX3_ok 2 (by decide)) rfl rfl (Nat.le_of_ble_eq_true rfl) ?_
  exact hret 22 _ _ dX3_init_22 ⟨q1, rfl⟩
/-- the world behind X5_init -/
def w_X5 (dA : Nat → ClassId) (h0 q1 q2 q3 q4 q5 q6 q7 q8 : Nat) : va_W := [(h0, .inr (4, [.ref q1, .ref q2, .ref q3, .ref q4, .ref q5, .ref q6, .ref q7, .ref q8, .int 0, .int 0, .int 0, .int 0])), (q1, aI dA 3), (q2, aZ dA 8), (q3, aI dA 8), (q4, aI dA 8), (q5, aI dA 4), (q6, aI dA 4), (q7, aI dA 4), (q8, aR dA 9 q8), (q8 + 1 + 0, aI dA 4), (q8 + 1 + 1, aI dA 4), (q8 + 1 + 2, aI dA 4), (q8 + 1 + 3, aI dA 4), (q8 + 1 + 4, aI dA 4), (q8 + 1 + 5, aI dA 4), (q8 + 1 + 6, aI dA 4), (q8 + 1 + 7, aI dA 4), (q8 + 1 + 8, aI dA 4)]
theorem b_X5 (h0 : Nat) : BM 1 17 84 yX5_init cX5_init 1 [.ref h0] [(h0, .inr (4, [.null, .null, .null, .null, .null, .null, .null, .null, .int 0, .int 0, .int 0, .int 0]))] (fun dA u => ∃ q1 q2 q3 q4 q5 q6 q7 q8, u = w_X5 dA h0 q1 q2 q3 q4 q5 q6 q7 q8) := by
  refine bm_intro (by decide) rfl (Nat.le_of_ble_eq_true rfl) (fun X C hI hret => ?_)
  show BW X 1 0 0 0 [(0, .ref h0)] [] _
  refine bw_ald (n := 1) 0 C dX5_init_0 rfl rfl ?_
  refine bw_obj (n := 4) C dX5_init_1 rfl wM_X5_3 (by decide) (Nat.le_of_ble_eq_true rfl) ?_
  refine bw_ald (n := 5) 0 C dX5_init_4 rfl rfl ?_
  refine bw_iconst (n := 6) (v := 3) C dX5_init_5 rfl (by decide) ?_
  refine bw_newi (n := 8) (N := 3) (c1 := 1) (s1 := 3) C dX5_init_6 rfl (by decide) (by decide) (by decide) rfl rfl (by decide) (by decide) (fun q1 => ?_)
  refine bw_putF (n := 11) (ci := 4) (k := 0) (T := TX5) (N := 12) (Cn := RX5) tyX5 C hI dX5_init_8 rfl inBX5 tyX5_ok nmX5 rfl (by decide) wF_X5_9 rfl rfl (tyX5_ok 0 (by decide)) rfl rfl (Nat.le_of_ble_eq_true rfl) ?_
  refine bw_ald (n := 12) 0 C dX5_init_11 rfl rfl ?_
  refine bw_bipush (n := 14) (v := 8) C dX5_init_12 rfl (by decide) ?_
  refine bw_newz (n := 16) (N := 8) (c1 := 2) (s1 := 11) C dX5_init_14 rfl (by decide) (by decide) (by decide) rfl rfl (by decide) (by decide) (fun q2 => ?_)
  refine bw_putF (n := 19) (ci := 4) (k := 1) (T := TX5) (N := 12) (Cn := RX5) tyX5 C hI dX5_init_16 rfl inBX5 tyX5_ok nmX5 rfl (by decide) wF_X5_15 rfl rfl (tyX5_ok 1 (by decide)) rfl rfl (Nat.le_of_ble_eq_true rfl) ?_
  refine bw_ald (n := 20) 0 C dX5_init_19 rfl rfl ?_
  refine bw_bipush (n := 22) (v := 8) C dX5_init_20 rfl (by decide) ?_
  refine bw_newi (n := 24) (N := 8) (c1 := 3) (s1 := 19) C dX5_init_22 rfl (by decide) (by decide) (by decide) rfl rfl (by decide) (by decide) (fun q3 => ?_)
  refine bw_putF (n := 27) (ci := 4) (k := 2) (T := TX5) (N := 12) (Cn := RX5) tyX5 C hI dX5_init_24 rfl inBX5 tyX5_ok nmX5 rfl (by decide) wF_X5_19 rfl rfl (tyX5_ok 2 (by decide)) rfl rfl (Nat.le_of_ble_eq_true rfl) ?_
  refine bw_ald (n := 28) 0 C dX5_init_27 rfl rfl ?_
  refine bw_bipush (n := 30) (v := 8) C dX5_init_28 rfl (by decide) ?_
  refine bw_newi (n := 32) (N := 8) (c1 := 4) (s1 := 27) C dX5_init_30 rfl (by decide) (by decide) (by decide) rfl rfl (by decide) (by decide) (fun q4 => ?_)
  refine bw_putF (n := 35) (ci := 4) (k := 3) (T := TX5) (N := 12) (Cn := RX5) tyX5 C hI dX5_init_32 rfl inBX5 tyX5_ok nmX5 rfl (by decide) wF_X5_22 rfl rfl (tyX5_ok 3 (by decide)) rfl rfl (Nat.le_of_ble_eq_true rfl) ?_
  refine bw_ald (n := 36) 0 C dX5_init_35 rfl rfl ?_
  refine bw_iconst (n := 37) (v := 4) C dX5_init_36 rfl (by decide) ?_
  refine bw_newi (n := 39) (N := 4) (c1 := 5) (s1 := 31) C dX5_init_37 rfl (by decide) (by decide) (by decide) rfl rfl (by decide) (by decide) (fun q5 => ?_)
  refine bw_putF (n := 42) (ci := 4) (k := 4) (T := TX5) (N := 12) (Cn := RX5) tyX5 C hI dX5_init_39 rfl inBX5 tyX5_ok nmX5 rfl (by decide) wF_X5_25 rfl rfl (tyX5_ok 4 (by decide)) rfl rfl (Nat.le_of_ble_eq_true rfl) ?_
  refine bw_ald (n := 43) 0 C dX5_init_42 rfl rfl ?_
  refine bw_iconst (n := 44) (v := 4) C dX5_init_43 rfl (by decide) ?_
  refine bw_newi (n := 46) (N := 4) (c1 := 6) (s1 := 35) C dX5_init_44 rfl (by decide) (by decide) (by decide) rfl rfl (by decide) (by decide) (fun q6 => ?_)
  refine bw_putF (n := 49) (ci := 4) (k := 5) (T := TX5) (N := 12) (Cn := RX5) tyX5 C hI dX5_init_46 rfl inBX5 tyX5_ok nmX5 rfl (by decide) wF_X5_28 rfl rfl (tyX5_ok 5 (by decide)) rfl rfl (Nat.le_of_ble_eq_true rfl) ?_
  refine bw_ald (n := 50) 0 C dX5_init_49 rfl rfl ?_
  refine bw_iconst (n := 51) (v := 4) C dX5_init_50 rfl (by decide) ?_
  refine bw_newi (n := 53) (N := 4) (c1 := 7) (s1 := 39) C dX5_init_51 rfl (by decide) (by decide) (by decide) rfl rfl (by decide) (by decide) (fun q7 => ?_)
  refine bw_putF (n := 56) (ci := 4) (k := 6) (T := TX5) (N := 12) (Cn := RX5) tyX5 C hI dX5_init_53 rfl inBX5 tyX5_ok nmX5 rfl (by decide) wF_X5_31 rfl rfl (tyX5_ok 6 (by decide)) rfl rfl (Nat.le_of_ble_eq_true rfl) ?_
  refine bw_ald (n := 57) 0 C dX5_init_56 rfl rfl ?_
  refine bw_bipush (n := 59) (v := 9) C dX5_init_57 rfl (by decide) ?_
  refine bw_iconst (n := 60) (v := 4) C dX5_init_59 rfl (by decide) ?_
  refine bw_multi (n := 64) (N := 9) (K := 4) (c1 := 17) (s1 := 84) C dX5_init_60 rfl wK_X5_34 (by decide) (by decide) (by decide) (by decide) (by decide) (by decide) rfl rfl (by decide) (by decide) (fun q8 => ?_)
  refine bw_putF (n := 67) (ci := 4) (k := 7) (T := TX5) (N := 12) (Cn := RX5) tyX5 C hI dX5_init_64 rfl inBX5 tyX5_ok nmX5 rfl (by decide) wF_X5_36 rfl rfl (tyX5_ok 7 (by decide)) rfl rfl (Nat.le_of_ble_eq_true rfl) ?_
  refine bw_ald (n := 68) 0 C dX5_init_67 rfl rfl ?_
  refine bw_iconst (n := 69) (v := 0) C dX5_init_68 rfl (by decide) ?_
  refine bw_put (n := 72) (ci := 4) (k := 8) (T := TX5) (N := 12) (Cn := RX5) tyX5 C dX5_init_69 rfl inBX5 tyX5_ok nmX5 rfl (by decide) wF_X5_39 rfl (tyX5_ok 8 (by decide)) rfl rfl (Nat.le_of_ble_eq_true rfl) ?_
  refine bw_ald (n := 73) 0 C dX5_init_72 rfl rfl ?_
  refine bw_iconst (n := 74) (v := 0) C dX5_init_73 rfl (by decide) ?_
  refine bw_put (n := 77) (ci := 4) (k := 9) (T := TX5) (N := 12) (Cn := RX5) tyX5 C dX5_init_74 rfl inBX5 tyX5_ok nmX5 rfl (by decide) wF_X5_43 rfl (tyX5_ok 9 (by decide)) rfl rfl (Nat.le_of_ble_eq_true rfl) ?_
  refine bw_ald (n := 78) 0 C dX5_init_77 rfl rfl ?_
  refine bw_iconst (n := 79) (v := 0) C dX5_init_78 rfl (by decide) ?_
  refine bw_put (n := 82) (ci := 4) (k := 10) (T := TX5) (N := 12) (Cn := RX5) tyX5 C dX5_init_79 rfl inBX5 tyX5_ok nmX5 rfl (by decide) wF_X5_46 rfl (tyX5_ok 10 (by decide)) rfl rfl (Nat.le_of_ble_eq_true rfl) ?_
  refine bw_ald (n := 83) 0 C dX5_init_82 rfl rfl ?_
  refine bw_iconst (n := 84) (v := 0) C dX5_init_83 rfl (by decide) ?_
  refine bw_put (n := 87) (ci := 4) (k := 11) (T := TX5) (N := 12) (Cn := RX5) tyX5 C dX5_init_84 rfl inBX5 tyX5_ok nmX5 rfl (by decide) wF_X5_49 rfl (tyX5_ok 11 (by decide)) rfl rfl (Nat.le_of_ble_eq_true rfl) ?_
  exact hret 87 _ _ dX5_init_87 ⟨q1, q2, q3, q4, q5, q6, q7, q8, rfl⟩
/-- the world behind X1_init -/
def w_X1 (dA : Nat → ClassId) (h0 q1 q2 q3 : Nat) : va_W := [(h0, .inr (1, [.ref q1, .ref q2, .ref q3, .int 0])), (q1, aI dA 8), (q2, aI dA 8), (q3, aI dA 8)]
theorem b_X1 (h0 : Nat) : BM 1 3 24 yX1_init cX1_init 1 [.ref h0] [(h0, .inr (1, [.null, .null, .null, .int 0]))] (fun dA u => ∃ q1 q2 q3, u = w_X1 dA h0 q1 q2 q3) := by
  refine bm_intro (by decide) rfl (Nat.le_of_ble_eq_true rfl) (fun X C hI hret => ?_)
  show BW X 1 0 0 0 [(0, .ref h0)] [] _
  refine bw_ald (n := 1) 0 C dX1_init_0 rfl rfl ?_
  refine bw_obj (n := 4) C dX1_init_1 rfl wM_X1_3 (by decide) (Nat.le_of_ble_eq_true rfl) ?_
  refine bw_ald (n := 5) 0 C dX1_init_4 rfl rfl ?_
  refine bw_bipush (n := 7) (v := 8) C dX1_init_5 rfl (by decide) ?_
  refine bw_newi (n := 9) (N := 8) (c1 := 1) (s1 := 8) C dX1_init_7 rfl (by decide) (by decide) (by decide) rfl rfl (by decide) (by decide) (fun q1 => ?_)
  refine bw_putF (n := 12) (ci := 1) (k := 0) (T := TX1) (N := 4) (Cn := RX1) tyX1 C hI dX1_init_9 rfl inBX1 tyX1_ok nmX1 rfl (by decide) wF_X1_9 rfl rfl (tyX1_ok 0 (by decide)) rfl rfl (Nat.le_of_ble_eq_true rfl) ?_
  refine bw_ald (n := 13) 0 C dX1_init_12 rfl rfl ?_
  refine bw_bipush (n := 15) (v := 8) C dX1_init_13 rfl (by decide) ?_
  refine bw_newi (n := 17) (N := 8) (c1 := 2) (s1 := 16) C dX1_init_15 rfl (by decide) (by decide) (by decide) rfl rfl (by decide) (by decide) (fun q2 => ?_)
  refine bw_putF (n := 20) (ci := 1) (k := 1) (T := TX1) (N := 4) (Cn := RX1) tyX1 C hI dX1_init_17 rfl inBX1 tyX1_ok nmX1 rfl (by decide) wF_X1_15 rfl rfl (tyX1_ok 1 (by decide)) rfl rfl (Nat.le_of_ble_eq_true rfl) ?_
  refine bw_ald (n := 21) 0 C dX1_init_20 rfl rfl ?_
  refine bw_bipush (n := 23) (v := 8) C dX1_init_21 rfl (by decide) ?_
  refine bw_newi (n := 25) (N := 8) (c1 := 3) (s1 := 24) C dX1_init_23 rfl (by decide) (by decide) (by decide) rfl rfl (by decide) (by decide) (fun q3 => ?_)
  refine bw_putF (n := 28) (ci := 1) (k := 2) (T := TX1) (N := 4) (Cn := RX1) tyX1 C hI dX1_init_25 rfl inBX1 tyX1_ok nmX1 rfl (by decide) wF_X1_18 rfl rfl (tyX1_ok 2 (by decide)) rfl rfl (Nat.le_of_ble_eq_true rfl) ?_
  refine bw_ald (n := 29) 0 C dX1_init_28 rfl rfl ?_
  refine bw_iconst (n := 30) (v := 0) C dX1_init_29 rfl (by decide) ?_
  refine bw_put (n := 33) (ci := 1) (k := 3) (T := TX1) (N := 4) (Cn := RX1) tyX1 C dX1_init_30 rfl inBX1 tyX1_ok nmX1 rfl (by decide) wF_X1_21 rfl (tyX1_ok 3 (by decide)) rfl rfl (Nat.le_of_ble_eq_true rfl) ?_
  exact hret 33 _ _ dX1_init_33 ⟨q1, q2, q3, rfl⟩
/-- the world behind X2_init -/
def w_X2 (dA : Nat → ClassId) (h0 t0 q1 q2 : Nat) : va_W := [(h0, .inr (2, [.ref t0, .ref q1, .ref q2])), (q1, aI dA 32), (q2, aI dA 3)]
theorem b_X2 (h0 t0 : Nat) : BM 1 2 35 yX2_init cX2_init 2 [.ref h0, .ref t0] [(h0, .inr (2, [.null, .null, .null]))] (fun dA u => ∃ q1 q2, u = w_X2 dA h0 t0 q1 q2) := by
  refine bm_intro (by decide) rfl (Nat.le_of_ble_eq_true rfl) (fun X C hI hret => ?_)
  show BW X 2 0 0 0 [(0, .ref h0), (1, .ref t0)] [] _
  refine bw_ald (n := 1) 0 C dX2_init_0 rfl rfl ?_
  refine bw_obj (n := 4) C dX2_init_1 rfl wM_X2_3 (by decide) (Nat.le_of_ble_eq_true rfl) ?_
  refine bw_ald (n := 5) 0 C dX2_init_4 rfl rfl ?_
  refine bw_bipush (n := 7) (v := 32) C dX2_init_5 rfl (by decide) ?_
  refine bw_newi (n := 9) (N := 32) (c1 := 1) (s1 := 32) C dX2_init_7 rfl (by decide) (by decide) (by decide) rfl rfl (by decide) (by decide) (fun q1 => ?_)
  refine bw_putF (n := 12) (ci := 2) (k := 1) (T := TX2) (N := 3) (Cn := RX2) tyX2 C hI dX2_init_9 rfl inBX2 tyX2_ok nmX2 rfl (by decide) wF_X2_9 rfl rfl (tyX2_ok 1 (by decide)) rfl rfl (Nat.le_of_ble_eq_true rfl) ?_
  refine bw_ald (n := 13) 0 C dX2_init_12 rfl rfl ?_
  refine bw_iconst (n := 14) (v := 3) C dX2_init_13 rfl (by decide) ?_
  refine bw_newi (n := 16) (N := 3) (c1 := 2) (s1 := 35) C dX2_init_14 rfl (by decide) (by decide) (by decide) rfl rfl (by decide) (by decide) (fun q2 => ?_)
  refine bw_putF (n := 19) (ci := 2) (k := 2) (T := TX2) (N := 3) (Cn := RX2) tyX2 C hI dX2_init_16 rfl inBX2 tyX2_ok nmX2 rfl (by decide) wF_X2_15 rfl rfl (tyX2_ok 2 (by decide)) rfl rfl (Nat.le_of_ble_eq_true rfl) ?_
  refine bw_ald (n := 20) 0 C dX2_init_19 rfl rfl ?_
  refine bw_ald (n := 21) 1 C dX2_init_20 rfl rfl ?_
  refine bw_putF (n := 24) (ci := 2) (k := 0) (T := TX2) (N := 3) (Cn := RX2) tyX2 C hI dX2_init_21 rfl inBX2 tyX2_ok nmX2 rfl (by decide) wF_X2_18 rfl rfl (tyX2_ok 0 (by decide)) rfl rfl (Nat.le_of_ble_eq_true rfl) ?_
  exact hret 24 _ _ dX2_init_24 ⟨q1, q2, rfl⟩
/-- the world behind X0_init -/
def w_X0 (dA : Nat → ClassId) (h0 t0 q1 q2 q3 q4 : Nat) : va_W := [(h0, .inr (0, [.ref t0, .ref q1, .ref q2, .ref q3, .int 1, .ref q4, .int (-9), .int (-9)])), (q1, aR dA 8 q1), (q1 + 1 + 0, aI dA 81), (q1 + 1 + 1, aI dA 81), (q1 + 1 + 2, aI dA 81), (q1 + 1 + 3, aI dA 81), (q1 + 1 + 4, aI dA 81), (q1 + 1 + 5, aI dA 81), (q1 + 1 + 6, aI dA 81), (q1 + 1 + 7, aI dA 81), (q2, aI dA 81), (q3, aI dA 3), (q4, aI dA 32)]
theorem b_X0 (h0 t0 : Nat) : BM 1 12 772 yX0_init cX0_init 2 [.ref h0, .ref t0] [(h0, .inr (0, [.null, .null, .null, .null, .int 0, .null, .int 0, .int 0]))] (fun dA u => ∃ q1 q2 q3 q4, u = w_X0 dA h0 t0 q1 q2 q3 q4) := by
  refine bm_intro (by decide) rfl (Nat.le_of_ble_eq_true rfl) (fun X C hI hret => ?_)
  show BW X 2 0 0 0 [(0, .ref h0), (1, .ref t0)] [] _
  refine bw_ald (n := 1) 0 C dX0_init_0 rfl rfl ?_
  refine bw_obj (n := 4) C dX0_init_1 rfl wM_X0_3 (by decide) (Nat.le_of_ble_eq_true rfl) ?_
  refine bw_ald (n := 5) 0 C dX0_init_4 rfl rfl ?_
  refine bw_bipush (n := 7) (v := 8) C dX0_init_5 rfl (by decide) ?_
  refine bw_bipush (n := 9) (v := 81) C dX0_init_7 rfl (by decide) ?_
  refine bw_multi (n := 13) (N := 8) (K := 81) (c1 := 9) (s1 := 656) C dX0_init_9 rfl wK_X0_11 (by decide) (by decide) (by decide) (by decide) (by decide) (by decide) rfl rfl (by decide) (by decide) (fun q1 => ?_)
  refine bw_putF (n := 16) (ci := 0) (k := 1) (T := TX0) (N := 8) (Cn := RX0) tyX0 C hI dX0_init_13 rfl inBX0 tyX0_ok nmX0 rfl (by decide) wF_X0_13 rfl rfl (tyX0_ok 1 (by decide)) rfl rfl (Nat.le_of_ble_eq_true rfl) ?_
  refine bw_ald (n := 17) 0 C dX0_init_16 rfl rfl ?_
  refine bw_bipush (n := 19) (v := 81) C dX0_init_17 rfl (by decide) ?_
  refine bw_newi (n := 21) (N := 81) (c1 := 10) (s1 := 737) C dX0_init_19 rfl (by decide) (by decide) (by decide) rfl rfl (by decide) (by decide) (fun q2 => ?_)
  refine bw_putF (n := 24) (ci := 0) (k := 2) (T := TX0) (N := 8) (Cn := RX0) tyX0 C hI dX0_init_21 rfl inBX0 tyX0_ok nmX0 rfl (by decide) wF_X0_16 rfl rfl (tyX0_ok 2 (by decide)) rfl rfl (Nat.le_of_ble_eq_true rfl) ?_
  refine bw_ald (n := 25) 0 C dX0_init_24 rfl rfl ?_
  refine bw_iconst (n := 26) (v := 3) C dX0_init_25 rfl (by decide) ?_
  refine bw_newi (n := 28) (N := 3) (c1 := 11) (s1 := 740) C dX0_init_26 rfl (by decide) (by decide) (by decide) rfl rfl (by decide) (by decide) (fun q3 => ?_)
  refine bw_putF (n := 31) (ci := 0) (k := 3) (T := TX0) (N := 8) (Cn := RX0) tyX0 C hI dX0_init_28 rfl inBX0 tyX0_ok nmX0 rfl (by decide) wF_X0_20 rfl rfl (tyX0_ok 3 (by decide)) rfl rfl (Nat.le_of_ble_eq_true rfl) ?_
  refine bw_ald (n := 32) 0 C dX0_init_31 rfl rfl ?_
  refine bw_iconst (n := 33) (v := 1) C dX0_init_32 rfl (by decide) ?_
  refine bw_put (n := 36) (ci := 0) (k := 4) (T := TX0) (N := 8) (Cn := RX0) tyX0 C dX0_init_33 rfl inBX0 tyX0_ok nmX0 rfl (by decide) wF_X0_23 rfl (tyX0_ok 4 (by decide)) rfl rfl (Nat.le_of_ble_eq_true rfl) ?_
  refine bw_ald (n := 37) 0 C dX0_init_36 rfl rfl ?_
  refine bw_bipush (n := 39) (v := 32) C dX0_init_37 rfl (by decide) ?_
  refine bw_newi (n := 41) (N := 32) (c1 := 12) (s1 := 772) C dX0_init_39 rfl (by decide) (by decide) (by decide) rfl rfl (by decide) (by decide) (fun q4 => ?_)
  refine bw_putF (n := 44) (ci := 0) (k := 5) (T := TX0) (N := 8) (Cn := RX0) tyX0 C hI dX0_init_41 rfl inBX0 tyX0_ok nmX0 rfl (by decide) wF_X0_27 rfl rfl (tyX0_ok 5 (by decide)) rfl rfl (Nat.le_of_ble_eq_true rfl) ?_
  refine bw_ald (n := 45) 0 C dX0_init_44 rfl rfl ?_
  refine bw_bipush (n := 47) (v := (-9)) C dX0_init_45 rfl (by decide) ?_
  refine bw_put (n := 50) (ci := 0) (k := 6) (T := TX0) (N := 8) (Cn := RX0) tyX0 C dX0_init_47 rfl inBX0 tyX0_ok nmX0 rfl (by decide) wF_X0_30 rfl (tyX0_ok 6 (by decide)) rfl rfl (Nat.le_of_ble_eq_true rfl) ?_
  refine bw_ald (n := 51) 0 C dX0_init_50 rfl rfl ?_
  refine bw_bipush (n := 53) (v := (-9)) C dX0_init_51 rfl (by decide) ?_
  refine bw_put (n := 56) (ci := 0) (k := 7) (T := TX0) (N := 8) (Cn := RX0) tyX0 C dX0_init_53 rfl inBX0 tyX0_ok nmX0 rfl (by decide) wF_X0_33 rfl (tyX0_ok 7 (by decide)) rfl rfl (Nat.le_of_ble_eq_true rfl) ?_
  refine bw_ald (n := 57) 0 C dX0_init_56 rfl rfl ?_
  refine bw_ald (n := 58) 1 C dX0_init_57 rfl rfl ?_
  refine bw_putF (n := 61) (ci := 0) (k := 0) (T := TX0) (N := 8) (Cn := RX0) tyX0 C hI dX0_init_58 rfl inBX0 tyX0_ok nmX0 rfl (by decide) wF_X0_36 rfl rfl (tyX0_ok 0 (by decide)) rfl rfl (Nat.le_of_ble_eq_true rfl) ?_
  exact hret 61 _ _ dX0_init_61 ⟨q1, q2, q3, q4, rfl⟩
/-- the world behind X7_init -/
def w_X7 (dA : Nat → ClassId) (h0 q1 q2 q3 q4 q5 q6 q7 q8 q9 q10 q11 q12 q13 q14 q15 q16 q17 q18 q19 q20 : Nat) : va_W := [(h0, .inr (6, [.int 0, .int 0, .ref q1, .ref q2, .ref q3, .int 0, .int 0, .int 0, .int 0, .ref q4, .ref q5, .ref q6, .ref q7, .ref q8, .ref q9, .ref q10, .int 0, .int 0, .int 0, .ref q11, .ref q12, .ref q13, .ref q14, .ref q15, .ref q16, .ref q17, .int 0, .ref q18, .ref q19, .ref q20])), (q1, .inl (dA 0, 4, .inl (upd (upd (upd (upd (fun _ => 0) 0 (-9)) 1 (-9)) 2 (-9)) 3 (-9)))), (q2, aI dA 4), (q3, aI dA 240), (q4, aI dA 3), (q5, aZ dA 8), (q6, aI dA 8), (q7, aI dA 8), (q8, aI dA 4), (q9, aI dA 4), (q10, aI dA 4), (q11, aI dA 3), (q12, aZ dA 8), (q13, aI dA 12), (q14, aI dA 4), (q15, aI dA 32), (q16, aI dA 729), (q17, aI dA 4), (q18, aI dA 8), (q19, aI dA 8), (q20, aI dA 8)]
theorem b_X7 (h0 : Nat) : BM 1 20 1103 yX7_init cX7_init 1 [.ref h0] [(h0, .inr (6, [.int 0, .int 0, .null, .null, .null, .int 0, .int 0, .int 0, .int 0, .null, .null, .null, .null, .null, .null, .null, .int 0, .int 0, .int 0, .null, .null, .null, .null, .null, .null, .null, .int 0, .null, .null, .null]))] (fun dA u => ∃ q1 q2 q3 q4 q5 q6 q7 q8 q9 q10 q11 q12 q13 q14 q15 q16 q17 q18 q19 q20, u = w_X7 dA h0 q1 q2 q3 q4 q5 q6 q7 q8 q9 q10 q11 q12 q13 q14 q15 q16 q17 q18 q19 q20) := by
  refine bm_intro (by decide) rfl (Nat.le_of_ble_eq_true rfl) (fun X C hI hret => ?_)
  show BW X 1 0 0 0 [(0, .ref h0)] [] _
  refine bw_ald (n := 1) 0 C dX7_init_0 rfl rfl ?_
  refine bw_obj (n := 4) C dX7_init_1 rfl wM_X7_1 (by decide) (Nat.le_of_ble_eq_true rfl) ?_
  refine bw_ald (n := 5) 0 C dX7_init_4 rfl rfl ?_
  refine bw_iconst (n := 6) (v := 4) C dX7_init_5 rfl (by decide) ?_
  refine bw_newi (n := 8) (N := 4) (c1 := 1) (s1 := 4) C dX7_init_6 rfl (by decide) (by decide) (by decide) rfl rfl (by decide) (by decide) (fun q1 => ?_)
  show BW X 1 8 1 4 [(0, .ref h0)] [.ref q1, .ref h0] ((h0, .inr (6, [.int 0, .int 0, .null, .null, .null, .int 0, .int 0, .int 0, .int 0, .null, .null, .null, .null, .null, .null, .null, .int 0, .int 0, .int 0, .null, .null, .null, .null, .null, .null, .null, .int 0, .null, .null, .null])) :: [(q1, .inl ((bdA X) 0, 4, .inl (fun _ => 0)))])
  refine bw_dup (n := 9) C dX7_init_8 rfl rfl ?_
  refine bw_iconst (n := 10) (v := 0) C dX7_init_9 rfl (by decide) ?_
  refine bw_bipush (n := 12) (v := (-9)) C dX7_init_10 rfl (by decide) ?_
  refine bw_iast (n := 13) C dX7_init_12 rfl (by rw [vp_in_iff]; decide) ?_
  show BW X 1 13 1 4 [(0, .ref h0)] [.ref q1, .ref h0] ((h0, .inr (6, [.int 0, .int 0, .null, .null, .null, .int 0, .int 0, .int 0, .int 0, .null, .null, .null, .null, .null, .null, .null, .int 0, .int 0, .int 0, .null, .null, .null, .null, .null, .null, .null, .int 0, .null, .null, .null])) :: [(q1, .inl ((bdA X) 0, 4, .inl (upd (fun _ => 0) 0 (-9))))])
  refine bw_dup (n := 14) C dX7_init_13 rfl rfl ?_
  refine bw_iconst (n := 15) (v := 1) C dX7_init_14 rfl (by decide) ?_
  refine bw_bipush (n := 17) (v := (-9)) C dX7_init_15 rfl (by decide) ?_
  refine bw_iast (n := 18) C dX7_init_17 rfl (by rw [vp_in_iff]; decide) ?_
  show BW X 1 18 1 4 [(0, .ref h0)] [.ref q1, .ref h0] ((h0, .inr (6, [.int 0, .int 0, .null, .null, .null, .int 0, .int 0, .int 0, .int 0, .null, .null, .null, .null, .null, .null, .null, .int 0, .int 0, .int 0, .null, .null, .null, .null, .null, .null, .null, .int 0, .null, .null, .null])) :: [(q1, .inl ((bdA X) 0, 4, .inl (upd (upd (fun _ => 0) 0 (-9)) 1 (-9))))])
  refine bw_dup (n := 19) C dX7_init_18 rfl rfl ?_
  refine bw_iconst (n := 20) (v := 2) C dX7_init_19 rfl (by decide) ?_
  refine bw_bipush (n := 22) (v := (-9)) C dX7_init_20 rfl (by decide) ?_
  refine bw_iast (n := 23) C dX7_init_22 rfl (by rw [vp_in_iff]; decide) ?_
  show BW X 1 23 1 4 [(0, .ref h0)] [.ref q1, .ref h0] ((h0, .inr (6, [.int 0, .int 0, .null, .null, .null, .int 0, .int 0, .int 0, .int 0, .null, .null, .null, .null, .null, .null, .null, .int 0, .int 0, .int 0, .null, .null, .null, .null, .null, .null, .null, .int 0, .null, .null, .null])) :: [(q1, .inl ((bdA X) 0, 4, .inl (upd (upd (upd (fun _ => 0) 0 (-9)) 1 (-9)) 2 (-9))))])
  refine bw_dup (n := 24) C dX7_init_23 rfl rfl ?_
  refine bw_iconst (n := 25) (v := 3) C dX7_init_24 rfl (by decide) ?_
  refine bw_bipush (n := 27) (v := (-9)) C dX7_init_25 rfl (by decide) ?_
  refine bw_iast (n := 28) C dX7_init_27 rfl (by rw [vp_in_iff]; decide) ?_
  show BW X 1 28 1 4 [(0, .ref h0)] [.ref q1, .ref h0] ((h0, .inr (6, [.int 0, .int 0, .null, .null, .null, .int 0, .int 0, .int 0, .int 0, .null, .null, .null, .null, .null, .null, .null, .int 0, .int 0, .int 0, .null, .null, .null, .null, .null, .null, .null, .int 0, .null, .null, .null])) :: [(q1, .inl ((bdA X) 0, 4, .inl (upd (upd (upd (upd (fun _ => 0) 0 (-9)) 1 (-9)) 2 (-9)) 3 (-9))))])
  refine bw_putF (n := 31) (ci := 6) (k := 2) (T := TX7) (N := 30) (Cn := RX7) tyX7 C hI dX7_init_28 rfl inBX7 tyX7_ok nmX7 rfl (by decide) wF_X7_9 rfl rfl (tyX7_ok 2 (by decide)) rfl rfl (Nat.le_of_ble_eq_true rfl) ?_
  show BW X 1 31 1 4 [(0, .ref h0)] [] ((h0, .inr (6, [.int 0, .int 0, .ref q1, .null, .null, .int 0, .int 0, .int 0, .int 0, .null, .null, .null, .null, .null, .null, .null, .int 0, .int 0, .int 0, .null, .null, .null, .null, .null, .null, .null, .int 0, .null, .null, .null])) :: [(q1, .inl ((bdA X) 0, 4, .inl (upd (upd (upd (upd (fun _ => 0) 0 (-9)) 1 (-9)) 2 (-9)) 3 (-9))))])
  refine bw_ald (n := 32) 0 C dX7_init_31 rfl rfl ?_
  refine bw_iconst (n := 33) (v := 4) C dX7_init_32 rfl (by decide) ?_
  refine bw_newi (n := 35) (N := 4) (c1 := 2) (s1 := 8) C dX7_init_33 rfl (by decide) (by decide) (by decide) rfl rfl (by decide) (by decide) (fun q2 => ?_)
  show BW X 1 35 2 8 [(0, .ref h0)] [.ref q2, .ref h0] ((h0, .inr (6, [.int 0, .int 0, .ref q1, .null, .null, .int 0, .int 0, .int 0, .int 0, .null, .null, .null, .null, .null, .null, .null, .int 0, .int 0, .int 0, .null, .null, .null, .null, .null, .null, .null, .int 0, .null, .null, .null])) :: [(q1, .inl ((bdA X) 0, 4, .inl (upd (upd (upd (upd (fun _ => 0) 0 (-9)) 1 (-9)) 2 (-9)) 3 (-9)))), (q2, aI (bdA X) 4)])
  refine bw_putF (n := 38) (ci := 6) (k := 3) (T := TX7) (N := 30) (Cn := RX7) tyX7 C hI dX7_init_35 rfl inBX7 tyX7_ok nmX7 rfl (by decide) wF_X7_13 rfl rfl (tyX7_ok 3 (by decide)) rfl rfl (Nat.le_of_ble_eq_true rfl) ?_
  show BW X 1 38 2 8 [(0, .ref h0)] [] ((h0, .inr (6, [.int 0, .int 0, .ref q1, .ref q2, .null, .int 0, .int 0, .int 0, .int 0, .null, .null, .null, .null, .null, .null, .null, .int 0, .int 0, .int 0, .null, .null, .null, .null, .null, .null, .null, .int 0, .null, .null, .null])) :: [(q1, .inl ((bdA X) 0, 4, .inl (upd (upd (upd (upd (fun _ => 0) 0 (-9)) 1 (-9)) 2 (-9)) 3 (-9)))), (q2, aI (bdA X) 4)])
  refine bw_ald (n := 39) 0 C dX7_init_38 rfl rfl ?_
  refine bw_sipush (n := 42) (v := 240) C dX7_init_39 rfl (by decide) ?_
  refine bw_newi (n := 44) (N := 240) (c1 := 3) (s1 := 248) C dX7_init_42 rfl (by decide) (by decide) (by decide) rfl rfl (by decide) (by decide) (fun q3 => ?_)
  show BW X 1 44 3 248 [(0, .ref h0)] [.ref q3, .ref h0] ((h0, .inr (6, [.int 0, .int 0, .ref q1, .ref q2, .null, .int 0, .int 0, .int 0, .int 0, .null, .null, .null, .null, .null, .null, .null, .int 0, .int 0, .int 0, .null, .null, .null, .null, .null, .null, .null, .int 0, .null, .null, .null])) :: [(q1, .inl ((bdA X) 0, 4, .inl (upd (upd (upd (upd (fun _ => 0) 0 (-9)) 1 (-9)) 2 (-9)) 3 (-9)))), (q2, aI (bdA X) 4), (q3, aI (bdA X) 240)])
  refine bw_putF (n := 47) (ci := 6) (k := 4) (T := TX7) (N := 30) (Cn := RX7) tyX7 C hI dX7_init_44 rfl inBX7 tyX7_ok nmX7 rfl (by decide) wF_X7_16 rfl rfl (tyX7_ok 4 (by decide)) rfl rfl (Nat.le_of_ble_eq_true rfl) ?_
  show BW X 1 47 3 248 [(0, .ref h0)] [] ((h0, .inr (6, [.int 0, .int 0, .ref q1, .ref q2, .ref q3, .int 0, .int 0, .int 0, .int 0, .null, .null, .null, .null, .null, .null, .null, .int 0, .int 0, .int 0, .null, .null, .null, .null, .null, .null, .null, .int 0, .null, .null, .null])) :: [(q1, .inl ((bdA X) 0, 4, .inl (upd (upd (upd (upd (fun _ => 0) 0 (-9)) 1 (-9)) 2 (-9)) 3 (-9)))), (q2, aI (bdA X) 4), (q3, aI (bdA X) 240)])
  refine bw_ald (n := 48) 0 C dX7_init_47 rfl rfl ?_
  refine bw_iconst (n := 49) (v := 3) C dX7_init_48 rfl (by decide) ?_
  refine bw_newi (n := 51) (N := 3) (c1 := 4) (s1 := 251) C dX7_init_49 rfl (by decide) (by decide) (by decide) rfl rfl (by decide) (by decide) (fun q4 => ?_)
  show BW X 1 51 4 251 [(0, .ref h0)] [.ref q4, .ref h0] ((h0, .inr (6, [.int 0, .int 0, .ref q1, .ref q2, .ref q3, .int 0, .int 0, .int 0, .int 0, .null, .null, .null, .null, .null, .null, .null, .int 0, .int 0, .int 0, .null, .null, .null, .null, .null, .null, .null, .int 0, .null, .null, .null])) :: [(q1, .inl ((bdA X) 0, 4, .inl (upd (upd (upd (upd (fun _ => 0) 0 (-9)) 1 (-9)) 2 (-9)) 3 (-9)))), (q2, aI (bdA X) 4), (q3, aI (bdA X) 240), (q4, aI (bdA X) 3)])
  refine bw_putF (n := 54) (ci := 6) (k := 9) (T := TX7) (N := 30) (Cn := RX7) tyX7 C hI dX7_init_51 rfl inBX7 tyX7_ok nmX7 rfl (by decide) wF_X7_19 rfl rfl (tyX7_ok 9 (by decide)) rfl rfl (Nat.le_of_ble_eq_true rfl) ?_
  show BW X 1 54 4 251 [(0, .ref h0)] [] ((h0, .inr (6, [.int 0, .int 0, .ref q1, .ref q2, .ref q3, .int 0, .int 0, .int 0, .int 0, .ref q4, .null, .null, .null, .null, .null, .null, .int 0, .int 0, .int 0, .null, .null, .null, .null, .null, .null, .null, .int 0, .null, .null, .null])) :: [(q1, .inl ((bdA X) 0, 4, .inl (upd (upd (upd (upd (fun _ => 0) 0 (-9)) 1 (-9)) 2 (-9)) 3 (-9)))), (q2, aI (bdA X) 4), (q3, aI (bdA X) 240), (q4, aI (bdA X) 3)])
  refine bw_ald (n := 55) 0 C dX7_init_54 rfl rfl ?_
  refine bw_bipush (n := 57) (v := 8) C dX7_init_55 rfl (by decide) ?_
  refine bw_newz (n := 59) (N := 8) (c1 := 5) (s1 := 259) C dX7_init_57 rfl (by decide) (by decide) (by decide) rfl rfl (by decide) (by decide) (fun q5 => ?_)
  show BW X 1 59 5 259 [(0, .ref h0)] [.ref q5, .ref h0] ((h0, .inr (6, [.int 0, .int 0, .ref q1, .ref q2, .ref q3, .int 0, .int 0, .int 0, .int 0, .ref q4, .null, .null, .null, .null, .null, .null, .int 0, .int 0, .int 0, .null, .null, .null, .null, .null, .null, .null, .int 0, .null, .null, .null])) :: [(q1, .inl ((bdA X) 0, 4, .inl (upd (upd (upd (upd (fun _ => 0) 0 (-9)) 1 (-9)) 2 (-9)) 3 (-9)))), (q2, aI (bdA X) 4), (q3, aI (bdA X) 240), (q4, aI (bdA X) 3), (q5, aZ (bdA X) 8)])
  refine bw_putF (n := 62) (ci := 6) (k := 10) (T := TX7) (N := 30) (Cn := RX7) tyX7 C hI dX7_init_59 rfl inBX7 tyX7_ok nmX7 rfl (by decide) wF_X7_22 rfl rfl (tyX7_ok 10 (by decide)) rfl rfl (Nat.le_of_ble_eq_true rfl) ?_
  show BW X 1 62 5 259 [(0, .ref h0)] [] ((h0, .inr (6, [.int 0, .int 0, .ref q1, .ref q2, .ref q3, .int 0, .int 0, .int 0, .int 0, .ref q4, .ref q5, .null, .null, .null, .null, .null, .int 0, .int 0, .int 0, .null, .null, .null, .null, .null, .null, .null, .int 0, .null, .null, .null])) :: [(q1, .inl ((bdA X) 0, 4, .inl (upd (upd (upd (upd (fun _ => 0) 0 (-9)) 1 (-9)) 2 (-9)) 3 (-9)))), (q2, aI (bdA X) 4), (q3, aI (bdA X) 240), (q4, aI (bdA X) 3), (q5, aZ (bdA X) 8)])
  refine bw_ald (n := 63) 0 C dX7_init_62 rfl rfl ?_
  refine bw_bipush (n := 65) (v := 8) C dX7_init_63 rfl (by decide) ?_
  refine bw_newi (n := 67) (N := 8) (c1 := 6) (s1 := 267) C dX7_init_65 rfl (by decide) (by decide) (by decide) rfl rfl (by decide) (by decide) (fun q6 => ?_)
  show BW X 1 67 6 267 [(0, .ref h0)] [.ref q6, .ref h0] ((h0, .inr (6, [.int 0, .int 0, .ref q1, .ref q2, .ref q3, .int 0, .int 0, .int 0, .int 0, .ref q4, .ref q5, .null, .null, .null, .null, .null, .int 0, .int 0, .int 0, .null, .null, .null, .null, .null, .null, .null, .int 0, .null, .null, .null])) :: [(q1, .inl ((bdA X) 0, 4, .inl (upd (upd (upd (upd (fun _ => 0) 0 (-9)) 1 (-9)) 2 (-9)) 3 (-9)))), (q2, aI (bdA X) 4), (q3, aI (bdA X) 240), (q4, aI (bdA X) 3), (q5, aZ (bdA X) 8), (q6, aI (bdA X) 8)])
  refine bw_putF (n := 70) (ci := 6) (k := 11) (T := TX7) (N := 30) (Cn := RX7) tyX7 C hI dX7_init_67 rfl inBX7 tyX7_ok nmX7 rfl (by decide) wF_X7_26 rfl rfl (tyX7_ok 11 (by decide)) rfl rfl (Nat.le_of_ble_eq_true rfl) ?_
  show BW X 1 70 6 267 [(0, .ref h0)] [] ((h0, .inr (6, [.int 0, .int 0, .ref q1, .ref q2, .ref q3, .int 0, .int 0, .int 0, .int 0, .ref q4, .ref q5, .ref q6, .null, .null, .null, .null, .int 0, .int 0, .int 0, .null, .null, .null, .null, .null, .null, .null, .int 0, .null, .null, .null])) :: [(q1, .inl ((bdA X) 0, 4, .inl (upd (upd (upd (upd (fun _ => 0) 0 (-9)) 1 (-9)) 2 (-9)) 3 (-9)))), (q2, aI (bdA X) 4), (q3, aI (bdA X) 240), (q4, aI (bdA X) 3), (q5, aZ (bdA X) 8), (q6, aI (bdA X) 8)])
  refine bw_ald (n := 71) 0 C dX7_init_70 rfl rfl ?_
  refine bw_bipush (n := 73) (v := 8) C dX7_init_71 rfl (by decide) ?_
  refine bw_newi (n := 75) (N := 8) (c1 := 7) (s1 := 275) C dX7_init_73 rfl (by decide) (by decide) (by decide) rfl rfl (by decide) (by decide) (fun q7 => ?_)
  show BW X 1 75 7 275 [(0, .ref h0)] [.ref q7, .ref h0] ((h0, .inr (6, [.int 0, .int 0, .ref q1, .ref q2, .ref q3, .int 0, .int 0, .int 0, .int 0, .ref q4, .ref q5, .ref q6, .null, .null, .null, .null, .int 0, .int 0, .int 0, .null, .null, .null, .null, .null, .null, .null, .int 0, .null, .null, .null])) :: [(q1, .inl ((bdA X) 0, 4, .inl (upd (upd (upd (upd (fun _ => 0) 0 (-9)) 1 (-9)) 2 (-9)) 3 (-9)))), (q2, aI (bdA X) 4), (q3, aI (bdA X) 240), (q4, aI (bdA X) 3), (q5, aZ (bdA X) 8), (q6, aI (bdA X) 8), (q7, aI (bdA X) 8)])
  refine bw_putF (n := 78) (ci := 6) (k := 12) (T := TX7) (N := 30) (Cn := RX7) tyX7 C hI dX7_init_75 rfl inBX7 tyX7_ok nmX7 rfl (by decide) wF_X7_29 rfl rfl (tyX7_ok 12 (by decide)) rfl rfl (Nat.le_of_ble_eq_true rfl) ?_
  show BW X 1 78 7 275 [(0, .ref h0)] [] ((h0, .inr (6, [.int 0, .int 0, .ref q1, .ref q2, .ref q3, .int 0, .int 0, .int 0, .int 0, .ref q4, .ref q5, .ref q6, .ref q7, .null, .null, .null, .int 0, .int 0, .int 0, .null, .null, .null, .null, .null, .null, .null, .int 0, .null, .null, .null])) :: [(q1, .inl ((bdA X) 0, 4, .inl (upd (upd (upd (upd (fun _ => 0) 0 (-9)) 1 (-9)) 2 (-9)) 3 (-9)))), (q2, aI (bdA X) 4), (q3, aI (bdA X) 240), (q4, aI (bdA X) 3), (q5, aZ (bdA X) 8), (q6, aI (bdA X) 8), (q7, aI (bdA X) 8)])
  refine bw_ald (n := 79) 0 C dX7_init_78 rfl rfl ?_
  refine bw_iconst (n := 80) (v := 4) C dX7_init_79 rfl (by decide) ?_
  refine bw_newi (n := 82) (N := 4) (c1 := 8) (s1 := 279) C dX7_init_80 rfl (by decide) (by decide) (by decide) rfl rfl (by decide) (by decide) (fun q8 => ?_)
  show BW X 1 82 8 279 [(0, .ref h0)] [.ref q8, .ref h0] ((h0, .inr (6, [.int 0, .int 0, .ref q1, .ref q2, .ref q3, .int 0, .int 0, .int 0, .int 0, .ref q4, .ref q5, .ref q6, .ref q7, .null, .null, .null, .int 0, .int 0, .int 0, .null, .null, .null, .null, .null, .null, .null, .int 0, .null, .null, .null])) :: [(q1, .inl ((bdA X) 0, 4, .inl (upd (upd (upd (upd (fun _ => 0) 0 (-9)) 1 (-9)) 2 (-9)) 3 (-9)))), (q2, aI (bdA X) 4), (q3, aI (bdA X) 240), (q4, aI (bdA X) 3), (q5, aZ (bdA X) 8), (q6, aI (bdA X) 8), (q7, aI (bdA X) 8), (q8, aI (bdA X) 4)])
  refine bw_putF (n := 85) (ci := 6) (k := 13) (T := TX7) (N := 30) (Cn := RX7) tyX7 C hI dX7_init_82 rfl inBX7 tyX7_ok nmX7 rfl (by decide) wF_X7_32 rfl rfl (tyX7_ok 13 (by decide)) rfl rfl (Nat.le_of_ble_eq_true rfl) ?_
  show BW X 1 85 8 279 [(0, .ref h0)] [] ((h0, .inr (6, [.int 0, .int 0, .ref q1, .ref q2, .ref q3, .int 0, .int 0, .int 0, .int 0, .ref q4, .ref q5, .ref q6, .ref q7, .ref q8, .null, .null, .int 0, .int 0, .int 0, .null, .null, .null, .null, .null, .null, .null, .int 0, .null, .null, .null])) :: [(q1, .inl ((bdA X) 0, 4, .inl (upd (upd (upd (upd (fun _ => 0) 0 (-9)) 1 (-9)) 2 (-9)) 3 (-9)))), (q2, aI (bdA X) 4), (q3, aI (bdA X) 240), (q4, aI (bdA X) 3), (q5, aZ (bdA X) 8), (q6, aI (bdA X) 8), (q7, aI (bdA X) 8), (q8, aI (bdA X) 4)])
  refine bw_ald (n := 86) 0 C dX7_init_85 rfl rfl ?_
  refine bw_iconst (n := 87) (v := 4) C dX7_init_86 rfl (by decide) ?_
  refine bw_newi (n := 89) (N := 4) (c1 := 9) (s1 := 283) C dX7_init_87 rfl (by decide) (by decide) (by decide) rfl rfl (by decide) (by decide) (fun q9 => ?_)
  show BW X 1 89 9 283 [(0, .ref h0)] [.ref q9, .ref h0] ((h0, .inr (6, [.int 0, .int 0, .ref q1, .ref q2, .ref q3, .int 0, .int 0, .int 0, .int 0, .ref q4, .ref q5, .ref q6, .ref q7, .ref q8, .null, .null, .int 0, .int 0, .int 0, .null, .null, .null, .null, .null, .null, .null, .int 0, .null, .null, .null])) :: [(q1, .inl ((bdA X) 0, 4, .inl (upd (upd (upd (upd (fun _ => 0) 0 (-9)) 1 (-9)) 2 (-9)) 3 (-9)))), (q2, aI (bdA X) 4), (q3, aI (bdA X) 240), (q4, aI (bdA X) 3), (q5, aZ (bdA X) 8), (q6, aI (bdA X) 8), (q7, aI (bdA X) 8), (q8, aI (bdA X) 4), (q9, aI (bdA X) 4)])
  refine bw_putF (n := 92) (ci := 6) (k := 14) (T := TX7) (N := 30) (Cn := RX7) tyX7 C hI dX7_init_89 rfl inBX7 tyX7_ok nmX7 rfl (by decide) wF_X7_35 rfl rfl (tyX7_ok 14 (by decide)) rfl rfl (Nat.le_of_ble_eq_true rfl) ?_
  show BW X 1 92 9 283 [(0, .ref h0)] [] ((h0, .inr (6, [.int 0, .int 0, .ref q1, .ref q2, .ref q3, .int 0, .int 0, .int 0, .int 0, .ref q4, .ref q5, .ref q6, .ref q7, .ref q8, .ref q9, .null, .int 0, .int 0, .int 0, .null, .null, .null, .null, .null, .null, .null, .int 0, .null, .null, .null])) :: [(q1, .inl ((bdA X) 0, 4, .inl (upd (upd (upd (upd (fun _ => 0) 0 (-9)) 1 (-9)) 2 (-9)) 3 (-9)))), (q2, aI (bdA X) 4), (q3, aI (bdA X) 240), (q4, aI (bdA X) 3), (q5, aZ (bdA X) 8), (q6, aI (bdA X) 8), (q7, aI (bdA X) 8), (q8, aI (bdA X) 4), (q9, aI (bdA X) 4)])
  refine bw_ald (n := 93) 0 C dX7_init_92 rfl rfl ?_
  refine bw_iconst (n := 94) (v := 4) C dX7_init_93 rfl (by decide) ?_
  refine bw_newi (n := 96) (N := 4) (c1 := 10) (s1 := 287) C dX7_init_94 rfl (by decide) (by decide) (by decide) rfl rfl (by decide) (by decide) (fun q10 => ?_)
  show BW X 1 96 10 287 [(0, .ref h0)] [.ref q10, .ref h0] ((h0, .inr (6, [.int 0, .int 0, .ref q1, .ref q2, .ref q3, .int 0, .int 0, .int 0, .int 0, .ref q4, .ref q5, .ref q6, .ref q7, .ref q8, .ref q9, .null, .int 0, .int 0, .int 0, .null, .null, .null, .null, .null, .null, .null, .int 0, .null, .null, .null])) :: [(q1, .inl ((bdA X) 0, 4, .inl (upd (upd (upd (upd (fun _ => 0) 0 (-9)) 1 (-9)) 2 (-9)) 3 (-9)))), (q2, aI (bdA X) 4), (q3, aI (bdA X) 240), (q4, aI (bdA X) 3), (q5, aZ (bdA X) 8), (q6, aI (bdA X) 8), (q7, aI (bdA X) 8), (q8, aI (bdA X) 4), (q9, aI (bdA X) 4), (q10, aI (bdA X) 4)])
  refine bw_putF (n := 99) (ci := 6) (k := 15) (T := TX7) (N := 30) (Cn := RX7) tyX7 C hI dX7_init_96 rfl inBX7 tyX7_ok nmX7 rfl (by decide) wF_X7_38 rfl rfl (tyX7_ok 15 (by decide)) rfl rfl (Nat.le_of_ble_eq_true rfl) ?_
  show BW X 1 99 10 287 [(0, .ref h0)] [] ((h0, .inr (6, [.int 0, .int 0, .ref q1, .ref q2, .ref q3, .int 0, .int 0, .int 0, .int 0, .ref q4, .ref q5, .ref q6, .ref q7, .ref q8, .ref q9, .ref q10, .int 0, .int 0, .int 0, .null, .null, .null, .null, .null, .null, .null, .int 0, .null, .null, .null])) :: [(q1, .inl ((bdA X) 0, 4, .inl (upd (upd (upd (upd (fun _ => 0) 0 (-9)) 1 (-9)) 2 (-9)) 3 (-9)))), (q2, aI (bdA X) 4), (q3, aI (bdA X) 240), (q4, aI (bdA X) 3), (q5, aZ (bdA X) 8), (q6, aI (bdA X) 8), (q7, aI (bdA X) 8), (q8, aI (bdA X) 4), (q9, aI (bdA X) 4), (q10, aI (bdA X) 4)])
  refine bw_ald (n := 100) 0 C dX7_init_99 rfl rfl ?_
  refine bw_iconst (n := 101) (v := 3) C dX7_init_100 rfl (by decide) ?_
  refine bw_newi (n := 103) (N := 3) (c1 := 11) (s1 := 290) C dX7_init_101 rfl (by decide) (by decide) (by decide) rfl rfl (by decide) (by decide) (fun q11 => ?_)
  show BW X 1 103 11 290 [(0, .ref h0)] [.ref q11, .ref h0] ((h0, .inr (6, [.int 0, .int 0, .ref q1, .ref q2, .ref q3, .int 0, .int 0, .int 0, .int 0, .ref q4, .ref q5, .ref q6, .ref q7, .ref q8, .ref q9, .ref q10, .int 0, .int 0, .int 0, .null, .null, .null, .null, .null, .null, .null, .int 0, .null, .null, .null])) :: [(q1, .inl ((bdA X) 0, 4, .inl (upd (upd (upd (upd (fun _ => 0) 0 (-9)) 1 (-9)) 2 (-9)) 3 (-9)))), (q2, aI (bdA X) 4), (q3, aI (bdA X) 240), (q4, aI (bdA X) 3), (q5, aZ (bdA X) 8), (q6, aI (bdA X) 8), (q7, aI (bdA X) 8), (q8, aI (bdA X) 4), (q9, aI (bdA X) 4), (q10, aI (bdA X) 4), (q11, aI (bdA X) 3)])
  refine bw_putF (n := 106) (ci := 6) (k := 19) (T := TX7) (N := 30) (Cn := RX7) tyX7 C hI dX7_init_103 rfl inBX7 tyX7_ok nmX7 rfl (by decide) wF_X7_41 rfl rfl (tyX7_ok 19 (by decide)) rfl rfl (Nat.le_of_ble_eq_true rfl) ?_
  show BW X 1 106 11 290 [(0, .ref h0)] [] ((h0, .inr (6, [.int 0, .int 0, .ref q1, .ref q2, .ref q3, .int 0, .int 0, .int 0, .int 0, .ref q4, .ref q5, .ref q6, .ref q7, .ref q8, .ref q9, .ref q10, .int 0, .int 0, .int 0, .ref q11, .null, .null, .null, .null, .null, .null, .int 0, .null, .null, .null])) :: [(q1, .inl ((bdA X) 0, 4, .inl (upd (upd (upd (upd (fun _ => 0) 0 (-9)) 1 (-9)) 2 (-9)) 3 (-9)))), (q2, aI (bdA X) 4), (q3, aI (bdA X) 240), (q4, aI (bdA X) 3), (q5, aZ (bdA X) 8), (q6, aI (bdA X) 8), (q7, aI (bdA X) 8), (q8, aI (bdA X) 4), (q9, aI (bdA X) 4), (q10, aI (bdA X) 4), (q11, aI (bdA X) 3)])
  refine bw_ald (n := 107) 0 C dX7_init_106 rfl rfl ?_
  refine bw_bipush (n := 109) (v := 8) C dX7_init_107 rfl (by decide) ?_
  refine bw_newz (n := 111) (N := 8) (c1 := 12) (s1 := 298) C dX7_init_109 rfl (by decide) (by decide) (by decide) rfl rfl (by decide) (by decide) (fun q12 => ?_)
  show BW X 1 111 12 298 [(0, .ref h0)] [.ref q12, .ref h0] ((h0, .inr (6, [.int 0, .int 0, .ref q1, .ref q2, .ref q3, .int 0, .int 0, .int 0, .int 0, .ref q4, .ref q5, .ref q6, .ref q7, .ref q8, .ref q9, .ref q10, .int 0, .int 0, .int 0, .ref q11, .null, .null, .null, .null, .null, .null, .int 0, .null, .null, .null])) :: [(q1, .inl ((bdA X) 0, 4, .inl (upd (upd (upd (upd (fun _ => 0) 0 (-9)) 1 (-9)) 2 (-9)) 3 (-9)))), (q2, aI (bdA X) 4), (q3, aI (bdA X) 240), (q4, aI (bdA X) 3), (q5, aZ (bdA X) 8), (q6, aI (bdA X) 8), (q7, aI (bdA X) 8), (q8, aI (bdA X) 4), (q9, aI (bdA X) 4), (q10, aI (bdA X) 4), (q11, aI (bdA X) 3), (q12, aZ (bdA X) 8)])
  refine bw_putF (n := 114) (ci := 6) (k := 20) (T := TX7) (N := 30) (Cn := RX7) tyX7 C hI dX7_init_111 rfl inBX7 tyX7_ok nmX7 rfl (by decide) wF_X7_44 rfl rfl (tyX7_ok 20 (by decide)) rfl rfl (Nat.le_of_ble_eq_true rfl) ?_
  show BW X 1 114 12 298 [(0, .ref h0)] [] ((h0, .inr (6, [.int 0, .int 0, .ref q1, .ref q2, .ref q3, .int 0, .int 0, .int 0, .int 0, .ref q4, .ref q5, .ref q6, .ref q7, .ref q8, .ref q9, .ref q10, .int 0, .int 0, .int 0, .ref q11, .ref q12, .null, .null, .null, .null, .null, .int 0, .null, .null, .null])) :: [(q1, .inl ((bdA X) 0, 4, .inl (upd (upd (upd (upd (fun _ => 0) 0 (-9)) 1 (-9)) 2 (-9)) 3 (-9)))), (q2, aI (bdA X) 4), (q3, aI (bdA X) 240), (q4, aI (bdA X) 3), (q5, aZ (bdA X) 8), (q6, aI (bdA X) 8), (q7, aI (bdA X) 8), (q8, aI (bdA X) 4), (q9, aI (bdA X) 4), (q10, aI (bdA X) 4), (q11, aI (bdA X) 3), (q12, aZ (bdA X) 8)])
  refine bw_ald (n := 115) 0 C dX7_init_114 rfl rfl ?_
  refine bw_bipush (n := 117) (v := 12) C dX7_init_115 rfl (by decide) ?_
  refine bw_newi (n := 119) (N := 12) (c1 := 13) (s1 := 310) C dX7_init_117 rfl (by decide) (by decide) (by decide) rfl rfl (by decide) (by decide) (fun q13 => ?_)
  show BW X 1 119 13 310 [(0, .ref h0)] [.ref q13, .ref h0] ((h0, .inr (6, [.int 0, .int 0, .ref q1, .ref q2, .ref q3, .int 0, .int 0, .int 0, .int 0, .ref q4, .ref q5, .ref q6, .ref q7, .ref q8, .ref q9, .ref q10, .int 0, .int 0, .int 0, .ref q11, .ref q12, .null, .null, .null, .null, .null, .int 0, .null, .null, .null])) :: [(q1, .inl ((bdA X) 0, 4, .inl (upd (upd (upd (upd (fun _ => 0) 0 (-9)) 1 (-9)) 2 (-9)) 3 (-9)))), (q2, aI (bdA X) 4), (q3, aI (bdA X) 240), (q4, aI (bdA X) 3), (q5, aZ (bdA X) 8), (q6, aI (bdA X) 8), (q7, aI (bdA X) 8), (q8, aI (bdA X) 4), (q9, aI (bdA X) 4), (q10, aI (bdA X) 4), (q11, aI (bdA X) 3), (q12, aZ (bdA X) 8), (q13, aI (bdA X) 12)])
  refine bw_putF (n := 122) (ci := 6) (k := 21) (T := TX7) (N := 30) (Cn := RX7) tyX7 C hI dX7_init_119 rfl inBX7 tyX7_ok nmX7 rfl (by decide) wF_X7_47 rfl rfl (tyX7_ok 21 (by decide)) rfl rfl (Nat.le_of_ble_eq_true rfl) ?_
  show BW X 1 122 13 310 [(0, .ref h0)] [] ((h0, .inr (6, [.int 0, .int 0, .ref q1, .ref q2, .ref q3, .int 0, .int 0, .int 0, .int 0, .ref q4, .ref q5, .ref q6, .ref q7, .ref q8, .ref q9, .ref q10, .int 0, .int 0, .int 0, .ref q11, .ref q12, .ref q13, .null, .null, .null, .null, .int 0, .null, .null, .null])) :: [(q1, .inl ((bdA X) 0, 4, .inl (upd (upd (upd (upd (fun _ => 0) 0 (-9)) 1 (-9)) 2 (-9)) 3 (-9)))), (q2, aI (bdA X) 4), (q3, aI (bdA X) 240), (q4, aI (bdA X) 3), (q5, aZ (bdA X) 8), (q6, aI (bdA X) 8), (q7, aI (bdA X) 8), (q8, aI (bdA X) 4), (q9, aI (bdA X) 4), (q10, aI (bdA X) 4), (q11, aI (bdA X) 3), (q12, aZ (bdA X) 8), (q13, aI (bdA X) 12)])
  refine bw_ald (n := 123) 0 C dX7_init_122 rfl rfl ?_
  refine bw_iconst (n := 124) (v := 4) C dX7_init_123 rfl (by decide) ?_
  refine bw_newi (n := 126) (N := 4) (c1 := 14) (s1 := 314) C dX7_init_124 rfl (by decide) (by decide) (by decide) rfl rfl (by decide) (by decide) (fun q14 => ?_)
  show BW X 1 126 14 314 [(0, .ref h0)] [.ref q14, .ref h0] ((h0, .inr (6, [.int 0, .int 0, .ref q1, .ref q2, .ref q3, .int 0, .int 0, .int 0, .int 0, .ref q4, .ref q5, .ref q6, .ref q7, .ref q8, .ref q9, .ref q10, .int 0, .int 0, .int 0, .ref q11, .ref q12, .ref q13, .null, .null, .null, .null, .int 0, .null, .null, .null])) :: [(q1, .inl ((bdA X) 0, 4, .inl (upd (upd (upd (upd (fun _ => 0) 0 (-9)) 1 (-9)) 2 (-9)) 3 (-9)))), (q2, aI (bdA X) 4), (q3, aI (bdA X) 240), (q4, aI (bdA X) 3), (q5, aZ (bdA X) 8), (q6, aI (bdA X) 8), (q7, aI (bdA X) 8), (q8, aI (bdA X) 4), (q9, aI (bdA X) 4), (q10, aI (bdA X) 4), (q11, aI (bdA X) 3), (q12, aZ (bdA X) 8), (q13, aI (bdA X) 12), (q14, aI (bdA X) 4)])
  refine bw_putF (n := 129) (ci := 6) (k := 22) (T := TX7) (N := 30) (Cn := RX7) tyX7 C hI dX7_init_126 rfl inBX7 tyX7_ok nmX7 rfl (by decide) wF_X7_50 rfl rfl (tyX7_ok 22 (by decide)) rfl rfl (Nat.le_of_ble_eq_true rfl) ?_
  show BW X 1 129 14 314 [(0, .ref h0)] [] ((h0, .inr (6, [.int 0, .int 0, .ref q1, .ref q2, .ref q3, .int 0, .int 0, .int 0, .int 0, .ref q4, .ref q5, .ref q6, .ref q7, .ref q8, .ref q9, .ref q10, .int 0, .int 0, .int 0, .ref q11, .ref q12, .ref q13, .ref q14, .null, .null, .null, .int 0, .null, .null, .null])) :: [(q1, .inl ((bdA X) 0, 4, .inl (upd (upd (upd (upd (fun _ => 0) 0 (-9)) 1 (-9)) 2 (-9)) 3 (-9)))), (q2, aI (bdA X) 4), (q3, aI (bdA X) 240), (q4, aI (bdA X) 3), (q5, aZ (bdA X) 8), (q6, aI (bdA X) 8), (q7, aI (bdA X) 8), (q8, aI (bdA X) 4), (q9, aI (bdA X) 4), (q10, aI (bdA X) 4), (q11, aI (bdA X) 3), (q12, aZ (bdA X) 8), (q13, aI (bdA X) 12), (q14, aI (bdA X) 4)])
  refine bw_ald (n := 130) 0 C dX7_init_129 rfl rfl ?_
  refine bw_bipush (n := 132) (v := 32) C dX7_init_130 rfl (by decide) ?_
  refine bw_newi (n := 134) (N := 32) (c1 := 15) (s1 := 346) C dX7_init_132 rfl (by decide) (by decide) (by decide) rfl rfl (by decide) (by decide) (fun q15 => ?_)
  show BW X 1 134 15 346 [(0, .ref h0)] [.ref q15, .ref h0] ((h0, .inr (6, [.int 0, .int 0, .ref q1, .ref q2, .ref q3, .int 0, .int 0, .int 0, .int 0, .ref q4, .ref q5, .ref q6, .ref q7, .ref q8, .ref q9, .ref q10, .int 0, .int 0, .int 0, .ref q11, .ref q12, .ref q13, .ref q14, .null, .null, .null, .int 0, .null, .null, .null])) :: [(q1, .inl ((bdA X) 0, 4, .inl (upd (upd (upd (upd (fun _ => 0) 0 (-9)) 1 (-9)) 2 (-9)) 3 (-9)))), (q2, aI (bdA X) 4), (q3, aI (bdA X) 240), (q4, aI (bdA X) 3), (q5, aZ (bdA X) 8), (q6, aI (bdA X) 8), (q7, aI (bdA X) 8), (q8, aI (bdA X) 4), (q9, aI (bdA X) 4), (q10, aI (bdA X) 4), (q11, aI (bdA X) 3), (q12, aZ (bdA X) 8), (q13, aI (bdA X) 12), (q14, aI (bdA X) 4), (q15, aI (bdA X) 32)])
  refine bw_putF (n := 137) (ci := 6) (k := 23) (T := TX7) (N := 30) (Cn := RX7) tyX7 C hI dX7_init_134 rfl inBX7 tyX7_ok nmX7 rfl (by decide) wF_X7_53 rfl rfl (tyX7_ok 23 (by decide)) rfl rfl (Nat.le_of_ble_eq_true rfl) ?_
  show BW X 1 137 15 346 [(0, .ref h0)] [] ((h0, .inr (6, [.int 0, .int 0, .ref q1, .ref q2, .ref q3, .int 0, .int 0, .int 0, .int 0, .ref q4, .ref q5, .ref q6, .ref q7, .ref q8, .ref q9, .ref q10, .int 0, .int 0, .int 0, .ref q11, .ref q12, .ref q13, .ref q14, .ref q15, .null, .null, .int 0, .null, .null, .null])) :: [(q1, .inl ((bdA X) 0, 4, .inl (upd (upd (upd (upd (fun _ => 0) 0 (-9)) 1 (-9)) 2 (-9)) 3 (-9)))), (q2, aI (bdA X) 4), (q3, aI (bdA X) 240), (q4, aI (bdA X) 3), (q5, aZ (bdA X) 8), (q6, aI (bdA X) 8), (q7, aI (bdA X) 8), (q8, aI (bdA X) 4), (q9, aI (bdA X) 4), (q10, aI (bdA X) 4), (q11, aI (bdA X) 3), (q12, aZ (bdA X) 8), (q13, aI (bdA X) 12), (q14, aI (bdA X) 4), (q15, aI (bdA X) 32)])
  refine bw_ald (n := 138) 0 C dX7_init_137 rfl rfl ?_
  refine bw_sipush (n := 141) (v := 729) C dX7_init_138 rfl (by decide) ?_
  refine bw_newi (n := 143) (N := 729) (c1 := 16) (s1 := 1075) C dX7_init_141 rfl (by decide) (by decide) (by decide) rfl rfl (by decide) (by decide) (fun q16 => ?_)
  show BW X 1 143 16 1075 [(0, .ref h0)] [.ref q16, .ref h0] ((h0, .inr (6, [.int 0, .int 0, .ref q1, .ref q2, .ref q3, .int 0, .int 0, .int 0, .int 0, .ref q4, .ref q5, .ref q6, .ref q7, .ref q8, .ref q9, .ref q10, .int 0, .int 0, .int 0, .ref q11, .ref q12, .ref q13, .ref q14, .ref q15, .null, .null, .int 0, .null, .null, .null])) :: [(q1, .inl ((bdA X) 0, 4, .inl (upd (upd (upd (upd (fun _ => 0) 0 (-9)) 1 (-9)) 2 (-9)) 3 (-9)))), (q2, aI (bdA X) 4), (q3, aI (bdA X) 240), (q4, aI (bdA X) 3), (q5, aZ (bdA X) 8), (q6, aI (bdA X) 8), (q7, aI (bdA X) 8), (q8, aI (bdA X) 4), (q9, aI (bdA X) 4), (q10, aI (bdA X) 4), (q11, aI (bdA X) 3), (q12, aZ (bdA X) 8), (q13, aI (bdA X) 12), (q14, aI (bdA X) 4), (q15, aI (bdA X) 32), (q16, aI (bdA X) 729)])
  refine bw_putF (n := 146) (ci := 6) (k := 24) (T := TX7) (N := 30) (Cn := RX7) tyX7 C hI dX7_init_143 rfl inBX7 tyX7_ok nmX7 rfl (by decide) wF_X7_56 rfl rfl (tyX7_ok 24 (by decide)) rfl rfl (Nat.le_of_ble_eq_true rfl) ?_
  show BW X 1 146 16 1075 [(0, .ref h0)] [] ((h0, .inr (6, [.int 0, .int 0, .ref q1, .ref q2, .ref q3, .int 0, .int 0, .int 0, .int 0, .ref q4, .ref q5, .ref q6, .ref q7, .ref q8, .ref q9, .ref q10, .int 0, .int 0, .int 0, .ref q11, .ref q12, .ref q13, .ref q14, .ref q15, .ref q16, .null, .int 0, .null, .null, .null])) :: [(q1, .inl ((bdA X) 0, 4, .inl (upd (upd (upd (upd (fun _ => 0) 0 (-9)) 1 (-9)) 2 (-9)) 3 (-9)))), (q2, aI (bdA X) 4), (q3, aI (bdA X) 240), (q4, aI (bdA X) 3), (q5, aZ (bdA X) 8), (q6, aI (bdA X) 8), (q7, aI (bdA X) 8), (q8, aI (bdA X) 4), (q9, aI (bdA X) 4), (q10, aI (bdA X) 4), (q11, aI (bdA X) 3), (q12, aZ (bdA X) 8), (q13, aI (bdA X) 12), (q14, aI (bdA X) 4), (q15, aI (bdA X) 32), (q16, aI (bdA X) 729)])
  refine bw_ald (n := 147) 0 C dX7_init_146 rfl rfl ?_
  refine bw_iconst (n := 148) (v := 4) C dX7_init_147 rfl (by decide) ?_
  refine bw_newi (n := 150) (N := 4) (c1 := 17) (s1 := 1079) C dX7_init_148 rfl (by decide) (by decide) (by decide) rfl rfl (by decide) (by decide) (fun q17 => ?_)
  show BW X 1 150 17 1079 [(0, .ref h0)] [.ref q17, .ref h0] ((h0, .inr (6, [.int 0, .int 0, .ref q1, .ref q2, .ref q3, .int 0, .int 0, .int 0, .int 0, .ref q4, .ref q5, .ref q6, .ref q7, .ref q8, .ref q9, .ref q10, .int 0, .int 0, .int 0, .ref q11, .ref q12, .ref q13, .ref q14, .ref q15, .ref q16, .null, .int 0, .null, .null, .null])) :: [(q1, .inl ((bdA X) 0, 4, .inl (upd (upd (upd (upd (fun _ => 0) 0 (-9)) 1 (-9)) 2 (-9)) 3 (-9)))), (q2, aI (bdA X) 4), (q3, aI (bdA X) 240), (q4, aI (bdA X) 3), (q5, aZ (bdA X) 8), (q6, aI (bdA X) 8), (q7, aI (bdA X) 8), (q8, aI (bdA X) 4), (q9, aI (bdA X) 4), (q10, aI (bdA X) 4), (q11, aI (bdA X) 3), (q12, aZ (bdA X) 8), (q13, aI (bdA X) 12), (q14, aI (bdA X) 4), (q15, aI (bdA X) 32), (q16, aI (bdA X) 729), (q17, aI (bdA X) 4)])
  refine bw_putF (n := 153) (ci := 6) (k := 25) (T := TX7) (N := 30) (Cn := RX7) tyX7 C hI dX7_init_150 rfl inBX7 tyX7_ok nmX7 rfl (by decide) wF_X7_59 rfl rfl (tyX7_ok 25 (by decide)) rfl rfl (Nat.le_of_ble_eq_true rfl) ?_
  show BW X 1 153 17 1079 [(0, .ref h0)] [] ((h0, .inr (6, [.int 0, .int 0, .ref q1, .ref q2, .ref q3, .int 0, .int 0, .int 0, .int 0, .ref q4, .ref q5, .ref q6, .ref q7, .ref q8, .ref q9, .ref q10, .int 0, .int 0, .int 0, .ref q11, .ref q12, .ref q13, .ref q14, .ref q15, .ref q16, .ref q17, .int 0, .null, .null, .null])) :: [(q1, .inl ((bdA X) 0, 4, .inl (upd (upd (upd (upd (fun _ => 0) 0 (-9)) 1 (-9)) 2 (-9)) 3 (-9)))), (q2, aI (bdA X) 4), (q3, aI (bdA X) 240), (q4, aI (bdA X) 3), (q5, aZ (bdA X) 8), (q6, aI (bdA X) 8), (q7, aI (bdA X) 8), (q8, aI (bdA X) 4), (q9, aI (bdA X) 4), (q10, aI (bdA X) 4), (q11, aI (bdA X) 3), (q12, aZ (bdA X) 8), (q13, aI (bdA X) 12), (q14, aI (bdA X) 4), (q15, aI (bdA X) 32), (q16, aI (bdA X) 729), (q17, aI (bdA X) 4)])
  refine bw_ald (n := 154) 0 C dX7_init_153 rfl rfl ?_
  refine bw_bipush (n := 156) (v := 8) C dX7_init_154 rfl (by decide) ?_
  refine bw_newi (n := 158) (N := 8) (c1 := 18) (s1 := 1087) C dX7_init_156 rfl (by decide) (by decide) (by decide) rfl rfl (by decide) (by decide) (fun q18 => ?_)
  show BW X 1 158 18 1087 [(0, .ref h0)] [.ref q18, .ref h0] ((h0, .inr (6, [.int 0, .int 0, .ref q1, .ref q2, .ref q3, .int 0, .int 0, .int 0, .int 0, .ref q4, .ref q5, .ref q6, .ref q7, .ref q8, .ref q9, .ref q10, .int 0, .int 0, .int 0, .ref q11, .ref q12, .ref q13, .ref q14, .ref q15, .ref q16, .ref q17, .int 0, .null, .null, .null])) :: [(q1, .inl ((bdA X) 0, 4, .inl (upd (upd (upd (upd (fun _ => 0) 0 (-9)) 1 (-9)) 2 (-9)) 3 (-9)))), (q2, aI (bdA X) 4), (q3, aI (bdA X) 240), (q4, aI (bdA X) 3), (q5, aZ (bdA X) 8), (q6, aI (bdA X) 8), (q7, aI (bdA X) 8), (q8, aI (bdA X) 4), (q9, aI (bdA X) 4), (q10, aI (bdA X) 4), (q11, aI (bdA X) 3), (q12, aZ (bdA X) 8), (q13, aI (bdA X) 12), (q14, aI (bdA X) 4), (q15, aI (bdA X) 32), (q16, aI (bdA X) 729), (q17, aI (bdA X) 4), (q18, aI (bdA X) 8)])
  refine bw_putF (n := 161) (ci := 6) (k := 27) (T := TX7) (N := 30) (Cn := RX7) tyX7 C hI dX7_init_158 rfl inBX7 tyX7_ok nmX7 rfl (by decide) wF_X7_62 rfl rfl (tyX7_ok 27 (by decide)) rfl rfl (Nat.le_of_ble_eq_true rfl) ?_
  show BW X 1 161 18 1087 [(0, .ref h0)] [] ((h0, .inr (6, [.int 0, .int 0, .ref q1, .ref q2, .ref q3, .int 0, .int 0, .int 0, .int 0, .ref q4, .ref q5, .ref q6, .ref q7, .ref q8, .ref q9, .ref q10, .int 0, .int 0, .int 0, .ref q11, .ref q12, .ref q13, .ref q14, .ref q15, .ref q16, .ref q17, .int 0, .ref q18, .null, .null])) :: [(q1, .inl ((bdA X) 0, 4, .inl (upd (upd (upd (upd (fun _ => 0) 0 (-9)) 1 (-9)) 2 (-9)) 3 (-9)))), (q2, aI (bdA X) 4), (q3, aI (bdA X) 240), (q4, aI (bdA X) 3), (q5, aZ (bdA X) 8), (q6, aI (bdA X) 8), (q7, aI (bdA X) 8), (q8, aI (bdA X) 4), (q9, aI (bdA X) 4), (q10, aI (bdA X) 4), (q11, aI (bdA X) 3), (q12, aZ (bdA X) 8), (q13, aI (bdA X) 12), (q14, aI (bdA X) 4), (q15, aI (bdA X) 32), (q16, aI (bdA X) 729), (q17, aI (bdA X) 4), (q18, aI (bdA X) 8)])
  refine bw_ald (n := 162) 0 C dX7_init_161 rfl rfl ?_
  refine bw_bipush (n := 164) (v := 8) C dX7_init_162 rfl (by decide) ?_
  refine bw_newi (n := 166) (N := 8) (c1 := 19) (s1 := 1095) C dX7_init_164 rfl (by decide) (by decide) (by decide) rfl rfl (by decide) (by decide) (fun q19 => ?_)
  show BW X 1 166 19 1095 [(0, .ref h0)] [.ref q19, .ref h0] ((h0, .inr (6, [.int 0, .int 0, .ref q1, .ref q2, .ref q3, .int 0, .int 0, .int 0, .int 0, .ref q4, .ref q5, .ref q6, .ref q7, .ref q8, .ref q9, .ref q10, .int 0, .int 0, .int 0, .ref q11, .ref q12, .ref q13, .ref q14, .ref q15, .ref q16, .ref q17, .int 0, .ref q18, .null, .null])) :: [(q1, .inl ((bdA X) 0, 4, .inl (upd (upd (upd (upd (fun _ => 0) 0 (-9)) 1 (-9)) 2 (-9)) 3 (-9)))), (q2, aI (bdA X) 4), (q3, aI (bdA X) 240), (q4, aI (bdA X) 3), (q5, aZ (bdA X) 8), (q6, aI (bdA X) 8), (q7, aI (bdA X) 8), (q8, aI (bdA X) 4), (q9, aI (bdA X) 4), (q10, aI (bdA X) 4), (q11, aI (bdA X) 3), (q12, aZ (bdA X) 8), (q13, aI (bdA X) 12), (q14, aI (bdA X) 4), (q15, aI (bdA X) 32), (q16, aI (bdA X) 729), (q17, aI (bdA X) 4), (q18, aI (bdA X) 8), (q19, aI (bdA X) 8)])
  refine bw_putF (n := 169) (ci := 6) (k := 28) (T := TX7) (N := 30) (Cn := RX7) tyX7 C hI dX7_init_166 rfl inBX7 tyX7_ok nmX7 rfl (by decide) wF_X7_65 rfl rfl (tyX7_ok 28 (by decide)) rfl rfl (Nat.le_of_ble_eq_true rfl) ?_
  show BW X 1 169 19 1095 [(0, .ref h0)] [] ((h0, .inr (6, [.int 0, .int 0, .ref q1, .ref q2, .ref q3, .int 0, .int 0, .int 0, .int 0, .ref q4, .ref q5, .ref q6, .ref q7, .ref q8, .ref q9, .ref q10, .int 0, .int 0, .int 0, .ref q11, .ref q12, .ref q13, .ref q14, .ref q15, .ref q16, .ref q17, .int 0, .ref q18, .ref q19, .null])) :: [(q1, .inl ((bdA X) 0, 4, .inl (upd (upd (upd (upd (fun _ => 0) 0 (-9)) 1 (-9)) 2 (-9)) 3 (-9)))), (q2, aI (bdA X) 4), (q3, aI (bdA X) 240), (q4, aI (bdA X) 3), (q5, aZ (bdA X) 8), (q6, aI (bdA X) 8), (q7, aI (bdA X) 8), (q8, aI (bdA X) 4), (q9, aI (bdA X) 4), (q10, aI (bdA X) 4), (q11, aI (bdA X) 3), (q12, aZ (bdA X) 8), (q13, aI (bdA X) 12), (q14, aI (bdA X) 4), (q15, aI (bdA X) 32), (q16, aI (bdA X) 729), (q17, aI (bdA X) 4), (q18, aI (bdA X) 8), (q19, aI (bdA X) 8)])
  refine bw_ald (n := 170) 0 C dX7_init_169 rfl rfl ?_
  refine bw_bipush (n := 172) (v := 8) C dX7_init_170 rfl (by decide) ?_
  refine bw_newi (n := 174) (N := 8) (c1 := 20) (s1 := 1103) C dX7_init_172 rfl (by decide) (by decide) (by decide) rfl rfl (by decide) (by decide) (fun q20 => ?_)
  show BW X 1 174 20 1103 [(0, .ref h0)] [.ref q20, .ref h0] ((h0, .inr (6, [.int 0, .int 0, .ref q1, .ref q2, .ref q3, .int 0, .int 0, .int 0, .int 0, .ref q4, .ref q5, .ref q6, .ref q7, .ref q8, .ref q9, .ref q10, .int 0, .int 0, .int 0, .ref q11, .ref q12, .ref q13, .ref q14, .ref q15, .ref q16, .ref q17, .int 0, .ref q18, .ref q19, .null])) :: [(q1, .inl ((bdA X) 0, 4, .inl (upd (upd (upd (upd (fun _ => 0) 0 (-9)) 1 (-9)) 2 (-9)) 3 (-9)))), (q2, aI (bdA X) 4), (q3, aI (bdA X) 240), (q4, aI (bdA X) 3), (q5, aZ (bdA X) 8), (q6, aI (bdA X) 8), (q7, aI (bdA X) 8), (q8, aI (bdA X) 4), (q9, aI (bdA X) 4), (q10, aI (bdA X) 4), (q11, aI (bdA X) 3), (q12, aZ (bdA X) 8), (q13, aI (bdA X) 12), (q14, aI (bdA X) 4), (q15, aI (bdA X) 32), (q16, aI (bdA X) 729), (q17, aI (bdA X) 4), (q18, aI (bdA X) 8), (q19, aI (bdA X) 8), (q20, aI (bdA X) 8)])
  refine bw_putF (n := 177) (ci := 6) (k := 29) (T := TX7) (N := 30) (Cn := RX7) tyX7 C hI dX7_init_174 rfl inBX7 tyX7_ok nmX7 rfl (by decide) wF_X7_68 rfl rfl (tyX7_ok 29 (by decide)) rfl rfl (Nat.le_of_ble_eq_true rfl) ?_
  show BW X 1 177 20 1103 [(0, .ref h0)] [] ((h0, .inr (6, [.int 0, .int 0, .ref q1, .ref q2, .ref q3, .int 0, .int 0, .int 0, .int 0, .ref q4, .ref q5, .ref q6, .ref q7, .ref q8, .ref q9, .ref q10, .int 0, .int 0, .int 0, .ref q11, .ref q12, .ref q13, .ref q14, .ref q15, .ref q16, .ref q17, .int 0, .ref q18, .ref q19, .ref q20])) :: [(q1, .inl ((bdA X) 0, 4, .inl (upd (upd (upd (upd (fun _ => 0) 0 (-9)) 1 (-9)) 2 (-9)) 3 (-9)))), (q2, aI (bdA X) 4), (q3, aI (bdA X) 240), (q4, aI (bdA X) 3), (q5, aZ (bdA X) 8), (q6, aI (bdA X) 8), (q7, aI (bdA X) 8), (q8, aI (bdA X) 4), (q9, aI (bdA X) 4), (q10, aI (bdA X) 4), (q11, aI (bdA X) 3), (q12, aZ (bdA X) 8), (q13, aI (bdA X) 12), (q14, aI (bdA X) 4), (q15, aI (bdA X) 32), (q16, aI (bdA X) 729), (q17, aI (bdA X) 4), (q18, aI (bdA X) 8), (q19, aI (bdA X) 8), (q20, aI (bdA X) 8)])
  exact hret 177 _ _ dX7_init_177 ⟨q1, q2, q3, q4, q5, q6, q7, q8, q9, q10, q11, q12, q13, q14, q15, q16, q17, q18, q19, q20, rfl⟩
