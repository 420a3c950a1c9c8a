/-! the constructor of the class -/
def w_X6 (dA : Nat → ClassId) (h0 q1 q2 q2_q1 q3 q3_q1 q4 q4_q1 q5 q5_q1 q6 q6_q1 q6_q2 q6_q3 q6_q4 q6_q5 q6_q6 q6_q7 q6_q8 q7 q7_q1 q7_q2 q7_q3 q7_q4 q7_q5 q7_q6 q7_q7 q7_q8 q8 q8_q1 q8_q2 q8_q3 q9 q9_q1 q9_q2 q10 q10_q1 q10_q2 q10_q3 q10_q4 : Nat) : va_W := (h0, .inr (5, [.ref q1, .ref q6, .ref q7, .ref q8, .ref q9, .ref q10, .int 0, .int 0, .int 0])) :: (q1, .inl (dA 2, 4, .inr (.inr (.inr (.inr (va_up (va_up (va_up (va_up (fun _ => none) 0 (some q2)) 1 (some q3)) 2 (some q4)) 3 (some q5))))))) :: (w_X3 dA q2 q2_q1 ++ w_X3 dA q3 q3_q1 ++ w_X3 dA q4 q4_q1 ++ w_X3 dA q5 q5_q1 ++ w_X5 dA q6 q6_q1 q6_q2 q6_q3 q6_q4 q6_q5 q6_q6 q6_q7 q6_q8 ++ w_X5 dA q7 q7_q1 q7_q2 q7_q3 q7_q4 q7_q5 q7_q6 q7_q7 q7_q8 ++ w_X1 dA q8 q8_q1 q8_q2 q8_q3 ++ w_X2 dA q9 q6 q9_q1 q9_q2 ++ w_X0 dA q10 q6 q10_q1 q10_q2 q10_q3 q10_q4)
theorem b_X6 (h0 : Nat) : BM 3 65 1294 yX6_init cX6_init 2 [.ref h0] [(h0, .inr (5, [.null, .null, .null, .null, .null, .null, .int 0, .int 0, .int 0]))] (fun dA u => ∃ q1 q2 q2_q1 q3 q3_q1 q4 q4_q1 q5 q5_q1 q6 q6_q1 q6_q2 q6_q3 q6_q4 q6_q5 q6_q6 q6_q7 q6_q8 q7 q7_q1 q7_q2 q7_q3 q7_q4 q7_q5 q7_q6 q7_q7 q7_q8 q8 q8_q1 q8_q2 q8_q3 q9 q9_q1 q9_q2 q10 q10_q1 q10_q2 q10_q3 q10_q4, u = w_X6 dA h0 q1 q2 q2_q1 q3 q3_q1 q4 q4_q1 q5 q5_q1 q6 q6_q1 q6_q2 q6_q3 q6_q4 q6_q5 q6_q6 q6_q7 q6_q8 q7 q7_q1 q7_q2 q7_q3 q7_q4 q7_q5 q7_q6 q7_q7 q7_q8 q8 q8_q1 q8_q2 q8_q3 q9 q9_q1 q9_q2 q10 q10_q1 q10_q2 q10_q3 q10_q4) := by
  refine bm_intro (by decide) rfl (Nat.le_of_ble_eq_true rfl) (fun X C hI hret => ?_)
  show BW X 2 0 0 0 [(0, .ref h0)] [] _
  refine bw_ald (n := 1) 0 C dX6_init_0 rfl rfl ?_
  refine bw_obj (n := 4) C dX6_init_1 rfl wM_X6_3 (by decide) (Nat.le_of_ble_eq_true rfl) ?_
  refine bw_ald (n := 5) 0 C dX6_init_4 rfl rfl ?_
  refine bw_iconst (n := 6) (v := 4) C dX6_init_5 rfl (by decide) ?_
  refine bw_anew (n := 9) (N := 4) (c1 := 1) (s1 := 4) C dX6_init_6 rfl wK_X6_11 (by decide) (by decide) (by decide) rfl rfl (by decide) (by decide) (fun q1 => ?_)
  show BW X 2 9 1 4 [(0, .ref h0)] [.ref q1, .ref h0] ((h0, .inr (5, [.null, .null, .null, .null, .null, .null, .int 0, .int 0, .int 0])) :: (q1, .inl (bdA X 2, 4, .inr (.inr (.inr (.inr (fun _ => none)))))) :: ([]))
  refine bw_putF (n := 12) (ci := 5) (k := 0) (T := TX6) (N := 9) (Cn := RX6) tyX6 C hI dX6_init_9 rfl inBX6 tyX6_ok nmX6 rfl (by decide) wF_X6_13 rfl rfl (tyX6_ok 0 (by decide)) rfl rfl (Nat.le_of_ble_eq_true rfl) ?_
  show BW X 2 12 1 4 [(0, .ref h0)] [] ((h0, .inr (5, [.ref q1, .null, .null, .null, .null, .null, .int 0, .int 0, .int 0])) :: (q1, .inl (bdA X 2, 4, .inr (.inr (.inr (.inr (fun _ => none)))))) :: ([]))
  refine bw_iconst (n := 13) (v := 0) C dX6_init_12 rfl (by decide) ?_
  refine bw_ist (n := 14) (lv' := [(1, .int 0), (0, .ref h0)]) C dX6_init_13 rfl (by decide) rfl ?_
  refine bw_ild (n := 15) 0 C dX6_init_14 rfl rfl ?_
  refine bw_iconst (n := 16) (v := 4) C dX6_init_15 rfl (by decide) ?_
  refine bw_geF (tgt := 38) (n := 19) C dX6_init_16 rfl rfl (by decide) ?_
  refine bw_ald (n := 20) 1 C dX6_init_19 rfl rfl ?_
  refine bw_get (n := 23) (ci := 5) (k := 0) (T := TX6) (N := 9) (Cn := RX6) C dX6_init_20 rfl inBX6 rfl (by decide) wF_X6_13 rfl ?_
  refine bw_ild (n := 24) 0 C dX6_init_23 rfl rfl ?_
  refine bw_new (n := 27) (ci := 3) (N := 3) (Cn := RX3) (T := TX3) (fs := [.null, .int 0, .int 0]) (c1 := 2) (s1 := 7) tyX3 C dX6_init_24 rfl wK_X6_11 wTB_X3 wI_X3 inBX3 tyX3_ok rfl df_X3 rfl rfl (by decide) (by decide) (fun q2 => ?_)
  refine bw_dup (n := 28) C dX6_init_27 rfl rfl ?_
  refine bw_cN (n := 31) (As := []) (ws := ((h0, .inr (5, [.ref q1, .null, .null, .null, .null, .null, .int 0, .int 0, .int 0])) :: (q1, .inl (bdA X 2, 4, .inr (.inr (.inr (.inr (fun _ => none)))))) :: ([]))) (c1 := 3) (s1 := 67) C dX6_init_28 rfl rfl rfl yy_X3 nx_X3 (Nat.le_of_ble_eq_true rfl) (b_X3 q2) (by decide) rfl rfl (by decide) (by decide) (fun uq2 huq2 => ?_)
  obtain ⟨q2_q1, rfl⟩ := huq2
  refine bw_aast (n := 32) 2 C dX6_init_31 rfl (by rw [vp_in_iff]; decide) rfl ?_
  show BW X 2 32 3 67 [(1, .int 0), (0, .ref h0)] [] ((h0, .inr (5, [.ref q1, .null, .null, .null, .null, .null, .int 0, .int 0, .int 0])) :: (q1, .inl (bdA X 2, 4, .inr (.inr (.inr (.inr (va_up (fun _ => none) 0 (some q2))))))) :: (w_X3 (bdA X) q2 q2_q1))
  refine bw_iinc (n := 35) (b := 1) (lv' := [(1, .int 1), (0, .ref h0)]) 0 C dX6_init_32 rfl rfl (by decide) (by decide) rfl ?_
  refine bw_goto (tgt := 14) C dX6_init_35 rfl ?_
  refine bw_ild (n := 15) 0 C dX6_init_14 rfl rfl ?_
  refine bw_iconst (n := 16) (v := 4) C dX6_init_15 rfl (by decide) ?_
  refine bw_geF (tgt := 38) (n := 19) C dX6_init_16 rfl rfl (by decide) ?_
  refine bw_ald (n := 20) 1 C dX6_init_19 rfl rfl ?_
  refine bw_get (n := 23) (ci := 5) (k := 0) (T := TX6) (N := 9) (Cn := RX6) C dX6_init_20 rfl inBX6 rfl (by decide) wF_X6_13 rfl ?_
  refine bw_ild (n := 24) 0 C dX6_init_23 rfl rfl ?_
  refine bw_new (n := 27) (ci := 3) (N := 3) (Cn := RX3) (T := TX3) (fs := [.null, .int 0, .int 0]) (c1 := 4) (s1 := 70) tyX3 C dX6_init_24 rfl wK_X6_11 wTB_X3 wI_X3 inBX3 tyX3_ok rfl df_X3 rfl rfl (by decide) (by decide) (fun q3 => ?_)
  refine bw_dup (n := 28) C dX6_init_27 rfl rfl ?_
  refine bw_cN (n := 31) (As := []) (ws := ((h0, .inr (5, [.ref q1, .null, .null, .null, .null, .null, .int 0, .int 0, .int 0])) :: (q1, .inl (bdA X 2, 4, .inr (.inr (.inr (.inr (va_up (fun _ => none) 0 (some q2))))))) :: (w_X3 (bdA X) q2 q2_q1))) (c1 := 5) (s1 := 130) C dX6_init_28 rfl rfl rfl yy_X3 nx_X3 (Nat.le_of_ble_eq_true rfl) (b_X3 q3) (by decide) rfl rfl (by decide) (by decide) (fun uq3 huq3 => ?_)
  obtain ⟨q3_q1, rfl⟩ := huq3
  refine bw_aast (n := 32) 4 C dX6_init_31 rfl (by rw [vp_in_iff]; decide) rfl ?_
  show BW X 2 32 5 130 [(1, .int 1), (0, .ref h0)] [] ((h0, .inr (5, [.ref q1, .null, .null, .null, .null, .null, .int 0, .int 0, .int 0])) :: (q1, .inl (bdA X 2, 4, .inr (.inr (.inr (.inr (va_up (va_up (fun _ => none) 0 (some q2)) 1 (some q3))))))) :: (w_X3 (bdA X) q2 q2_q1 ++ w_X3 (bdA X) q3 q3_q1))
  refine bw_iinc (n := 35) (b := 2) (lv' := [(1, .int 2), (0, .ref h0)]) 0 C dX6_init_32 rfl rfl (by decide) (by decide) rfl ?_
  refine bw_goto (tgt := 14) C dX6_init_35 rfl ?_
  refine bw_ild (n := 15) 0 C dX6_init_14 rfl rfl ?_
  refine bw_iconst (n := 16) (v := 4) C dX6_init_15 rfl (by decide) ?_
  refine bw_geF (tgt := 38) (n := 19) C dX6_init_16 rfl rfl (by decide) ?_
  refine bw_ald (n := 20) 1 C dX6_init_19 rfl rfl ?_
  refine bw_get (n := 23) (ci := 5) (k := 0) (T := TX6) (N := 9) (Cn := RX6) C dX6_init_20 rfl inBX6 rfl (by decide) wF_X6_13 rfl ?_
  refine bw_ild (n := 24) 0 C dX6_init_23 rfl rfl ?_
  refine bw_new (n := 27) (ci := 3) (N := 3) (Cn := RX3) (T := TX3) (fs := [.null, .int 0, .int 0]) (c1 := 6) (s1 := 133) tyX3 C dX6_init_24 rfl wK_X6_11 wTB_X3 wI_X3 inBX3 tyX3_ok rfl df_X3 rfl rfl (by decide) (by decide) (fun q4 => ?_)
  refine bw_dup (n := 28) C dX6_init_27 rfl rfl ?_
  refine bw_cN (n := 31) (As := []) (ws := ((h0, .inr (5, [.ref q1, .null, .null, .null, .null, .null, .int 0, .int 0, .int 0])) :: (q1, .inl (bdA X 2, 4, .inr (.inr (.inr (.inr (va_up (va_up (fun _ => none) 0 (some q2)) 1 (some q3))))))) :: (w_X3 (bdA X) q2 q2_q1 ++ w_X3 (bdA X) q3 q3_q1))) (c1 := 7) (s1 := 193) C dX6_init_28 rfl rfl rfl yy_X3 nx_X3 (Nat.le_of_ble_eq_true rfl) (b_X3 q4) (by decide) rfl rfl (by decide) (by decide) (fun uq4 huq4 => ?_)
  obtain ⟨q4_q1, rfl⟩ := huq4
  refine bw_aast (n := 32) 6 C dX6_init_31 rfl (by rw [vp_in_iff]; decide) rfl ?_
  show BW X 2 32 7 193 [(1, .int 2), (0, .ref h0)] [] ((h0, .inr (5, [.ref q1, .null, .null, .null, .null, .null, .int 0, .int 0, .int 0])) :: (q1, .inl (bdA X 2, 4, .inr (.inr (.inr (.inr (va_up (va_up (va_up (fun _ => none) 0 (some q2)) 1 (some q3)) 2 (some q4))))))) :: (w_X3 (bdA X) q2 q2_q1 ++ w_X3 (bdA X) q3 q3_q1 ++ w_X3 (bdA X) q4 q4_q1))
  refine bw_iinc (n := 35) (b := 3) (lv' := [(1, .int 3), (0, .ref h0)]) 0 C dX6_init_32 rfl rfl (by decide) (by decide) rfl ?_
  refine bw_goto (tgt := 14) C dX6_init_35 rfl ?_
  refine bw_ild (n := 15) 0 C dX6_init_14 rfl rfl ?_
  refine bw_iconst (n := 16) (v := 4) C dX6_init_15 rfl (by decide) ?_
  refine bw_geF (tgt := 38) (n := 19) C dX6_init_16 rfl rfl (by decide) ?_
  refine bw_ald (n := 20) 1 C dX6_init_19 rfl rfl ?_
  refine bw_get (n := 23) (ci := 5) (k := 0) (T := TX6) (N := 9) (Cn := RX6) C dX6_init_20 rfl inBX6 rfl (by decide) wF_X6_13 rfl ?_
  refine bw_ild (n := 24) 0 C dX6_init_23 rfl rfl ?_
  refine bw_new (n := 27) (ci := 3) (N := 3) (Cn := RX3) (T := TX3) (fs := [.null, .int 0, .int 0]) (c1 := 8) (s1 := 196) tyX3 C dX6_init_24 rfl wK_X6_11 wTB_X3 wI_X3 inBX3 tyX3_ok rfl df_X3 rfl rfl (by decide) (by decide) (fun q5 => ?_)
  refine bw_dup (n := 28) C dX6_init_27 rfl rfl ?_
  refine bw_cN (n := 31) (As := []) (ws := ((h0, .inr (5, [.ref q1, .null, .null, .null, .null, .null, .int 0, .int 0, .int 0])) :: (q1, .inl (bdA X 2, 4, .inr (.inr (.inr (.inr (va_up (va_up (va_up (fun _ => none) 0 (some q2)) 1 (some q3)) 2 (some q4))))))) :: (w_X3 (bdA X) q2 q2_q1 ++ w_X3 (bdA X) q3 q3_q1 ++ w_X3 (bdA X) q4 q4_q1))) (c1 := 9) (s1 := 256) C dX6_init_28 rfl rfl rfl yy_X3 nx_X3 (Nat.le_of_ble_eq_true rfl) (b_X3 q5) (by decide) rfl rfl (by decide) (by decide) (fun uq5 huq5 => ?_)
  obtain ⟨q5_q1, rfl⟩ := huq5
  refine bw_aast (n := 32) 8 C dX6_init_31 rfl (by rw [vp_in_iff]; decide) rfl ?_
  show BW X 2 32 9 256 [(1, .int 3), (0, .ref h0)] [] ((h0, .inr (5, [.ref q1, .null, .null, .null, .null, .null, .int 0, .int 0, .int 0])) :: (q1, .inl (bdA X 2, 4, .inr (.inr (.inr (.inr (va_up (va_up (va_up (va_up (fun _ => none) 0 (some q2)) 1 (some q3)) 2 (some q4)) 3 (some q5))))))) :: (w_X3 (bdA X) q2 q2_q1 ++ w_X3 (bdA X) q3 q3_q1 ++ w_X3 (bdA X) q4 q4_q1 ++ w_X3 (bdA X) q5 q5_q1))
  refine bw_iinc (n := 35) (b := 4) (lv' := [(1, .int 4), (0, .ref h0)]) 0 C dX6_init_32 rfl rfl (by decide) (by decide) rfl ?_
  refine bw_goto (tgt := 14) C dX6_init_35 rfl ?_
  refine bw_ild (n := 15) 0 C dX6_init_14 rfl rfl ?_
  refine bw_iconst (n := 16) (v := 4) C dX6_init_15 rfl (by decide) ?_
  refine bw_geT (tgt := 38) C dX6_init_16 rfl (by decide) ?_
  refine bw_ald (n := 39) 1 C dX6_init_38 rfl rfl ?_
  refine bw_new (n := 42) (ci := 4) (N := 12) (Cn := RX5) (T := TX5) (fs := [.null, .null, .null, .null, .null, .null, .null, .null, .int 0, .int 0, .int 0, .int 0]) (c1 := 10) (s1 := 268) tyX5 C dX6_init_39 rfl wK_X6_18 wTB_X5 wI_X5 inBX5 tyX5_ok rfl df_X5 rfl rfl (by decide) (by decide) (fun q6 => ?_)
  refine bw_dup (n := 43) C dX6_init_42 rfl rfl ?_
  refine bw_cN (n := 46) (As := []) (ws := ((h0, .inr (5, [.ref q1, .null, .null, .null, .null, .null, .int 0, .int 0, .int 0])) :: (q1, .inl (bdA X 2, 4, .inr (.inr (.inr (.inr (va_up (va_up (va_up (va_up (fun _ => none) 0 (some q2)) 1 (some q3)) 2 (some q4)) 3 (some q5))))))) :: (w_X3 (bdA X) q2 q2_q1 ++ w_X3 (bdA X) q3 q3_q1 ++ w_X3 (bdA X) q4 q4_q1 ++ w_X3 (bdA X) q5 q5_q1))) (c1 := 27) (s1 := 352) C dX6_init_43 rfl rfl rfl yy_X5 nx_X5 (Nat.le_of_ble_eq_true rfl) (b_X5 q6) (by decide) rfl rfl (by decide) (by decide) (fun uq6 huq6 => ?_)
  obtain ⟨q6_q1, q6_q2, q6_q3, q6_q4, q6_q5, q6_q6, q6_q7, q6_q8, rfl⟩ := huq6
  refine bw_putF (n := 49) (ci := 5) (k := 1) (T := TX6) (N := 9) (Cn := RX6) tyX6 C hI dX6_init_46 rfl inBX6 tyX6_ok nmX6 rfl (by decide) wF_X6_21 rfl rfl (tyX6_ok 1 (by decide)) rfl rfl (Nat.le_of_ble_eq_true rfl) ?_
  show BW X 2 49 27 352 [(1, .int 4), (0, .ref h0)] [] ((h0, .inr (5, [.ref q1, .ref q6, .null, .null, .null, .null, .int 0, .int 0, .int 0])) :: (q1, .inl (bdA X 2, 4, .inr (.inr (.inr (.inr (va_up (va_up (va_up (va_up (fun _ => none) 0 (some q2)) 1 (some q3)) 2 (some q4)) 3 (some q5))))))) :: (w_X3 (bdA X) q2 q2_q1 ++ w_X3 (bdA X) q3 q3_q1 ++ w_X3 (bdA X) q4 q4_q1 ++ w_X3 (bdA X) q5 q5_q1 ++ w_X5 (bdA X) q6 q6_q1 q6_q2 q6_q3 q6_q4 q6_q5 q6_q6 q6_q7 q6_q8))
  refine bw_ald (n := 50) 1 C dX6_init_49 rfl rfl ?_
  refine bw_new (n := 53) (ci := 4) (N := 12) (Cn := RX5) (T := TX5) (fs := [.null, .null, .null, .null, .null, .null, .null, .null, .int 0, .int 0, .int 0, .int 0]) (c1 := 28) (s1 := 364) tyX5 C dX6_init_50 rfl wK_X6_18 wTB_X5 wI_X5 inBX5 tyX5_ok rfl df_X5 rfl rfl (by decide) (by decide) (fun q7 => ?_)
  refine bw_dup (n := 54) C dX6_init_53 rfl rfl ?_
  refine bw_cN (n := 57) (As := []) (ws := ((h0, .inr (5, [.ref q1, .ref q6, .null, .null, .null, .null, .int 0, .int 0, .int 0])) :: (q1, .inl (bdA X 2, 4, .inr (.inr (.inr (.inr (va_up (va_up (va_up (va_up (fun _ => none) 0 (some q2)) 1 (some q3)) 2 (some q4)) 3 (some q5))))))) :: (w_X3 (bdA X) q2 q2_q1 ++ w_X3 (bdA X) q3 q3_q1 ++ w_X3 (bdA X) q4 q4_q1 ++ w_X3 (bdA X) q5 q5_q1 ++ w_X5 (bdA X) q6 q6_q1 q6_q2 q6_q3 q6_q4 q6_q5 q6_q6 q6_q7 q6_q8))) (c1 := 45) (s1 := 448) C dX6_init_54 rfl rfl rfl yy_X5 nx_X5 (Nat.le_of_ble_eq_true rfl) (b_X5 q7) (by decide) rfl rfl (by decide) (by decide) (fun uq7 huq7 => ?_)
  obtain ⟨q7_q1, q7_q2, q7_q3, q7_q4, q7_q5, q7_q6, q7_q7, q7_q8, rfl⟩ := huq7
  refine bw_putF (n := 60) (ci := 5) (k := 2) (T := TX6) (N := 9) (Cn := RX6) tyX6 C hI dX6_init_57 rfl inBX6 tyX6_ok nmX6 rfl (by decide) wF_X6_25 rfl rfl (tyX6_ok 2 (by decide)) rfl rfl (Nat.le_of_ble_eq_true rfl) ?_
  show BW X 2 60 45 448 [(1, .int 4), (0, .ref h0)] [] ((h0, .inr (5, [.ref q1, .ref q6, .ref q7, .null, .null, .null, .int 0, .int 0, .int 0])) :: (q1, .inl (bdA X 2, 4, .inr (.inr (.inr (.inr (va_up (va_up (va_up (va_up (fun _ => none) 0 (some q2)) 1 (some q3)) 2 (some q4)) 3 (some q5))))))) :: (w_X3 (bdA X) q2 q2_q1 ++ w_X3 (bdA X) q3 q3_q1 ++ w_X3 (bdA X) q4 q4_q1 ++ w_X3 (bdA X) q5 q5_q1 ++ w_X5 (bdA X) q6 q6_q1 q6_q2 q6_q3 q6_q4 q6_q5 q6_q6 q6_q7 q6_q8 ++ w_X5 (bdA X) q7 q7_q1 q7_q2 q7_q3 q7_q4 q7_q5 q7_q6 q7_q7 q7_q8))
  refine bw_ald (n := 61) 1 C dX6_init_60 rfl rfl ?_
  refine bw_new (n := 64) (ci := 1) (N := 4) (Cn := RX1) (T := TX1) (fs := [.null, .null, .null, .int 0]) (c1 := 46) (s1 := 452) tyX1 C dX6_init_61 rfl wK_X6_28 wTB_X1 wI_X1 inBX1 tyX1_ok rfl df_X1 rfl rfl (by decide) (by decide) (fun q8 => ?_)
  refine bw_dup (n := 65) C dX6_init_64 rfl rfl ?_
  refine bw_cN (n := 68) (As := []) (ws := ((h0, .inr (5, [.ref q1, .ref q6, .ref q7, .null, .null, .null, .int 0, .int 0, .int 0])) :: (q1, .inl (bdA X 2, 4, .inr (.inr (.inr (.inr (va_up (va_up (va_up (va_up (fun _ => none) 0 (some q2)) 1 (some q3)) 2 (some q4)) 3 (some q5))))))) :: (w_X3 (bdA X) q2 q2_q1 ++ w_X3 (bdA X) q3 q3_q1 ++ w_X3 (bdA X) q4 q4_q1 ++ w_X3 (bdA X) q5 q5_q1 ++ w_X5 (bdA X) q6 q6_q1 q6_q2 q6_q3 q6_q4 q6_q5 q6_q6 q6_q7 q6_q8 ++ w_X5 (bdA X) q7 q7_q1 q7_q2 q7_q3 q7_q4 q7_q5 q7_q6 q7_q7 q7_q8))) (c1 := 49) (s1 := 476) C dX6_init_65 rfl rfl rfl yy_X1 nx_X1 (Nat.le_of_ble_eq_true rfl) (b_X1 q8) (by decide) rfl rfl (by decide) (by decide) (fun uq8 huq8 => ?_)
  obtain ⟨q8_q1, q8_q2, q8_q3, rfl⟩ := huq8
  refine bw_putF (n := 71) (ci := 5) (k := 3) (T := TX6) (N := 9) (Cn := RX6) tyX6 C hI dX6_init_68 rfl inBX6 tyX6_ok nmX6 rfl (by decide) wF_X6_31 rfl rfl (tyX6_ok 3 (by decide)) rfl rfl (Nat.le_of_ble_eq_true rfl) ?_
  show BW X 2 71 49 476 [(1, .int 4), (0, .ref h0)] [] ((h0, .inr (5, [.ref q1, .ref q6, .ref q7, .ref q8, .null, .null, .int 0, .int 0, .int 0])) :: (q1, .inl (bdA X 2, 4, .inr (.inr (.inr (.inr (va_up (va_up (va_up (va_up (fun _ => none) 0 (some q2)) 1 (some q3)) 2 (some q4)) 3 (some q5))))))) :: (w_X3 (bdA X) q2 q2_q1 ++ w_X3 (bdA X) q3 q3_q1 ++ w_X3 (bdA X) q4 q4_q1 ++ w_X3 (bdA X) q5 q5_q1 ++ w_X5 (bdA X) q6 q6_q1 q6_q2 q6_q3 q6_q4 q6_q5 q6_q6 q6_q7 q6_q8 ++ w_X5 (bdA X) q7 q7_q1 q7_q2 q7_q3 q7_q4 q7_q5 q7_q6 q7_q7 q7_q8 ++ w_X1 (bdA X) q8 q8_q1 q8_q2 q8_q3))
  refine bw_ald (n := 72) 1 C dX6_init_71 rfl rfl ?_
  refine bw_new (n := 75) (ci := 2) (N := 3) (Cn := RX2) (T := TX2) (fs := [.null, .null, .null]) (c1 := 50) (s1 := 479) tyX2 C dX6_init_72 rfl wK_X6_35 wTB_X2 wI_X2 inBX2 tyX2_ok rfl df_X2 rfl rfl (by decide) (by decide) (fun q9 => ?_)
  refine bw_dup (n := 76) C dX6_init_75 rfl rfl ?_
  refine bw_ald (n := 77) 1 C dX6_init_76 rfl rfl ?_
  refine bw_get (n := 80) (ci := 5) (k := 1) (T := TX6) (N := 9) (Cn := RX6) C dX6_init_77 rfl inBX6 rfl (by decide) wF_X6_21 rfl ?_
  refine bw_cI (n := 83) (As := [.ref q6]) (ws := ((h0, .inr (5, [.ref q1, .ref q6, .ref q7, .ref q8, .null, .null, .int 0, .int 0, .int 0])) :: (q1, .inl (bdA X 2, 4, .inr (.inr (.inr (.inr (va_up (va_up (va_up (va_up (fun _ => none) 0 (some q2)) 1 (some q3)) 2 (some q4)) 3 (some q5))))))) :: (w_X3 (bdA X) q2 q2_q1 ++ w_X3 (bdA X) q3 q3_q1 ++ w_X3 (bdA X) q4 q4_q1 ++ w_X3 (bdA X) q5 q5_q1 ++ w_X5 (bdA X) q6 q6_q1 q6_q2 q6_q3 q6_q4 q6_q5 q6_q6 q6_q7 q6_q8 ++ w_X5 (bdA X) q7 q7_q1 q7_q2 q7_q3 q7_q4 q7_q5 q7_q6 q7_q7 q7_q8 ++ w_X1 (bdA X) q8 q8_q1 q8_q2 q8_q3))) (c1 := 52) (s1 := 514) C dX6_init_80 rfl rfl rfl yy_X2 wM_X6_37 (Nat.le_of_ble_eq_true rfl) (b_X2 q9 q6) (by decide) rfl rfl (by decide) (by decide) (fun uq9 huq9 => ?_)
  obtain ⟨q9_q1, q9_q2, rfl⟩ := huq9
  refine bw_putF (n := 86) (ci := 5) (k := 4) (T := TX6) (N := 9) (Cn := RX6) tyX6 C hI dX6_init_83 rfl inBX6 tyX6_ok nmX6 rfl (by decide) wF_X6_40 rfl rfl (tyX6_ok 4 (by decide)) rfl rfl (Nat.le_of_ble_eq_true rfl) ?_
  show BW X 2 86 52 514 [(1, .int 4), (0, .ref h0)] [] ((h0, .inr (5, [.ref q1, .ref q6, .ref q7, .ref q8, .ref q9, .null, .int 0, .int 0, .int 0])) :: (q1, .inl (bdA X 2, 4, .inr (.inr (.inr (.inr (va_up (va_up (va_up (va_up (fun _ => none) 0 (some q2)) 1 (some q3)) 2 (some q4)) 3 (some q5))))))) :: (w_X3 (bdA X) q2 q2_q1 ++ w_X3 (bdA X) q3 q3_q1 ++ w_X3 (bdA X) q4 q4_q1 ++ w_X3 (bdA X) q5 q5_q1 ++ w_X5 (bdA X) q6 q6_q1 q6_q2 q6_q3 q6_q4 q6_q5 q6_q6 q6_q7 q6_q8 ++ w_X5 (bdA X) q7 q7_q1 q7_q2 q7_q3 q7_q4 q7_q5 q7_q6 q7_q7 q7_q8 ++ w_X1 (bdA X) q8 q8_q1 q8_q2 q8_q3 ++ w_X2 (bdA X) q9 q6 q9_q1 q9_q2))
  refine bw_ald (n := 87) 1 C dX6_init_86 rfl rfl ?_
  refine bw_new (n := 90) (ci := 0) (N := 8) (Cn := RX0) (T := TX0) (fs := [.null, .null, .null, .null, .int 0, .null, .int 0, .int 0]) (c1 := 53) (s1 := 522) tyX0 C dX6_init_87 rfl wK_X6_44 wTB_X0 wI_X0 inBX0 tyX0_ok rfl df_X0 rfl rfl (by decide) (by decide) (fun q10 => ?_)
  refine bw_dup (n := 91) C dX6_init_90 rfl rfl ?_
  refine bw_ald (n := 92) 1 C dX6_init_91 rfl rfl ?_
  refine bw_get (n := 95) (ci := 5) (k := 1) (T := TX6) (N := 9) (Cn := RX6) C dX6_init_92 rfl inBX6 rfl (by decide) wF_X6_21 rfl ?_
  refine bw_cI (n := 98) (As := [.ref q6]) (ws := ((h0, .inr (5, [.ref q1, .ref q6, .ref q7, .ref q8, .ref q9, .null, .int 0, .int 0, .int 0])) :: (q1, .inl (bdA X 2, 4, .inr (.inr (.inr (.inr (va_up (va_up (va_up (va_up (fun _ => none) 0 (some q2)) 1 (some q3)) 2 (some q4)) 3 (some q5))))))) :: (w_X3 (bdA X) q2 q2_q1 ++ w_X3 (bdA X) q3 q3_q1 ++ w_X3 (bdA X) q4 q4_q1 ++ w_X3 (bdA X) q5 q5_q1 ++ w_X5 (bdA X) q6 q6_q1 q6_q2 q6_q3 q6_q4 q6_q5 q6_q6 q6_q7 q6_q8 ++ w_X5 (bdA X) q7 q7_q1 q7_q2 q7_q3 q7_q4 q7_q5 q7_q6 q7_q7 q7_q8 ++ w_X1 (bdA X) q8 q8_q1 q8_q2 q8_q3 ++ w_X2 (bdA X) q9 q6 q9_q1 q9_q2))) (c1 := 65) (s1 := 1294) C dX6_init_95 rfl rfl rfl yy_X0 wM_X6_46 (Nat.le_of_ble_eq_true rfl) (b_X0 q10 q6) (by decide) rfl rfl (by decide) (by decide) (fun uq10 huq10 => ?_)
  obtain ⟨q10_q1, q10_q2, q10_q3, q10_q4, rfl⟩ := huq10
  refine bw_putF (n := 101) (ci := 5) (k := 5) (T := TX6) (N := 9) (Cn := RX6) tyX6 C hI dX6_init_98 rfl inBX6 tyX6_ok nmX6 rfl (by decide) wF_X6_47 rfl rfl (tyX6_ok 5 (by decide)) rfl rfl (Nat.le_of_ble_eq_true rfl) ?_
  show BW X 2 101 65 1294 [(1, .int 4), (0, .ref h0)] [] ((h0, .inr (5, [.ref q1, .ref q6, .ref q7, .ref q8, .ref q9, .ref q10, .int 0, .int 0, .int 0])) :: (q1, .inl (bdA X 2, 4, .inr (.inr (.inr (.inr (va_up (va_up (va_up (va_up (fun _ => none) 0 (some q2)) 1 (some q3)) 2 (some q4)) 3 (some q5))))))) :: (w_X3 (bdA X) q2 q2_q1 ++ w_X3 (bdA X) q3 q3_q1 ++ w_X3 (bdA X) q4 q4_q1 ++ w_X3 (bdA X) q5 q5_q1 ++ w_X5 (bdA X) q6 q6_q1 q6_q2 q6_q3 q6_q4 q6_q5 q6_q6 q6_q7 q6_q8 ++ w_X5 (bdA X) q7 q7_q1 q7_q2 q7_q3 q7_q4 q7_q5 q7_q6 q7_q7 q7_q8 ++ w_X1 (bdA X) q8 q8_q1 q8_q2 q8_q3 ++ w_X2 (bdA X) q9 q6 q9_q1 q9_q2 ++ w_X0 (bdA X) q10 q6 q10_q1 q10_q2 q10_q3 q10_q4))
  refine bw_ald (n := 102) 1 C dX6_init_101 rfl rfl ?_
  refine bw_iconst (n := 103) (v := 0) C dX6_init_102 rfl (by decide) ?_
  refine bw_put (n := 106) (ci := 5) (k := 6) (T := TX6) (N := 9) (Cn := RX6) tyX6 C dX6_init_103 rfl inBX6 tyX6_ok nmX6 rfl (by decide) wF_X6_51 rfl (tyX6_ok 6 (by decide)) rfl rfl (Nat.le_of_ble_eq_true rfl) ?_
  show BW X 2 106 65 1294 [(1, .int 4), (0, .ref h0)] [] ((h0, .inr (5, [.ref q1, .ref q6, .ref q7, .ref q8, .ref q9, .ref q10, .int 0, .int 0, .int 0])) :: (q1, .inl (bdA X 2, 4, .inr (.inr (.inr (.inr (va_up (va_up (va_up (va_up (fun _ => none) 0 (some q2)) 1 (some q3)) 2 (some q4)) 3 (some q5))))))) :: (w_X3 (bdA X) q2 q2_q1 ++ w_X3 (bdA X) q3 q3_q1 ++ w_X3 (bdA X) q4 q4_q1 ++ w_X3 (bdA X) q5 q5_q1 ++ w_X5 (bdA X) q6 q6_q1 q6_q2 q6_q3 q6_q4 q6_q5 q6_q6 q6_q7 q6_q8 ++ w_X5 (bdA X) q7 q7_q1 q7_q2 q7_q3 q7_q4 q7_q5 q7_q6 q7_q7 q7_q8 ++ w_X1 (bdA X) q8 q8_q1 q8_q2 q8_q3 ++ w_X2 (bdA X) q9 q6 q9_q1 q9_q2 ++ w_X0 (bdA X) q10 q6 q10_q1 q10_q2 q10_q3 q10_q4))
  refine bw_ald (n := 107) 1 C dX6_init_106 rfl rfl ?_
  refine bw_iconst (n := 108) (v := 0) C dX6_init_107 rfl (by decide) ?_
  refine bw_put (n := 111) (ci := 5) (k := 7) (T := TX6) (N := 9) (Cn := RX6) tyX6 C dX6_init_108 rfl inBX6 tyX6_ok nmX6 rfl (by decide) wF_X6_55 rfl (tyX6_ok 7 (by decide)) rfl rfl (Nat.le_of_ble_eq_true rfl) ?_
  show BW X 2 111 65 1294 [(1, .int 4), (0, .ref h0)] [] ((h0, .inr (5, [.ref q1, .ref q6, .ref q7, .ref q8, .ref q9, .ref q10, .int 0, .int 0, .int 0])) :: (q1, .inl (bdA X 2, 4, .inr (.inr (.inr (.inr (va_up (va_up (va_up (va_up (fun _ => none) 0 (some q2)) 1 (some q3)) 2 (some q4)) 3 (some q5))))))) :: (w_X3 (bdA X) q2 q2_q1 ++ w_X3 (bdA X) q3 q3_q1 ++ w_X3 (bdA X) q4 q4_q1 ++ w_X3 (bdA X) q5 q5_q1 ++ w_X5 (bdA X) q6 q6_q1 q6_q2 q6_q3 q6_q4 q6_q5 q6_q6 q6_q7 q6_q8 ++ w_X5 (bdA X) q7 q7_q1 q7_q2 q7_q3 q7_q4 q7_q5 q7_q6 q7_q7 q7_q8 ++ w_X1 (bdA X) q8 q8_q1 q8_q2 q8_q3 ++ w_X2 (bdA X) q9 q6 q9_q1 q9_q2 ++ w_X0 (bdA X) q10 q6 q10_q1 q10_q2 q10_q3 q10_q4))
  refine bw_ald (n := 112) 1 C dX6_init_111 rfl rfl ?_
  refine bw_iconst (n := 113) (v := 0) C dX6_init_112 rfl (by decide) ?_
  refine bw_put (n := 116) (ci := 5) (k := 8) (T := TX6) (N := 9) (Cn := RX6) tyX6 C dX6_init_113 rfl inBX6 tyX6_ok nmX6 rfl (by decide) wF_X6_59 rfl (tyX6_ok 8 (by decide)) rfl rfl (Nat.le_of_ble_eq_true rfl) ?_
  show BW X 2 116 65 1294 [(1, .int 4), (0, .ref h0)] [] ((h0, .inr (5, [.ref q1, .ref q6, .ref q7, .ref q8, .ref q9, .ref q10, .int 0, .int 0, .int 0])) :: (q1, .inl (bdA X 2, 4, .inr (.inr (.inr (.inr (va_up (va_up (va_up (va_up (fun _ => none) 0 (some q2)) 1 (some q3)) 2 (some q4)) 3 (some q5))))))) :: (w_X3 (bdA X) q2 q2_q1 ++ w_X3 (bdA X) q3 q3_q1 ++ w_X3 (bdA X) q4 q4_q1 ++ w_X3 (bdA X) q5 q5_q1 ++ w_X5 (bdA X) q6 q6_q1 q6_q2 q6_q3 q6_q4 q6_q5 q6_q6 q6_q7 q6_q8 ++ w_X5 (bdA X) q7 q7_q1 q7_q2 q7_q3 q7_q4 q7_q5 q7_q6 q7_q7 q7_q8 ++ w_X1 (bdA X) q8 q8_q1 q8_q2 q8_q3 ++ w_X2 (bdA X) q9 q6 q9_q1 q9_q2 ++ w_X0 (bdA X) q10 q6 q10_q1 q10_q2 q10_q3 q10_q4))
  exact hret 116 _ _ dX6_init_116 ⟨q1, q2, q2_q1, q3, q3_q1, q4, q4_q1, q5, q5_q1, q6, q6_q1, q6_q2, q6_q3, q6_q4, q6_q5, q6_q6, q6_q7, q6_q8, q7, q7_q1, q7_q2, q7_q3, q7_q4, q7_q5, q7_q6, q7_q7, q7_q8, q8, q8_q1, q8_q2, q8_q3, q9, q9_q1, q9_q2, q10, q10_q1, q10_q2, q10_q3, q10_q4, rfl⟩
