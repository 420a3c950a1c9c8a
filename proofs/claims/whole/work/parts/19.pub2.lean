/-! RegretLine: tunnels, talk, kinds, sheets -/
theorem TW_tun {S : Mem} {m b : Int} (T : TW 10 S) (hb : b = 0 ∨ b = 1) : TW 10 (st2 S 12 m b) := by
  obtain ⟨t1, t2, t3, t4, t5, t6⟩ := TW10 T
  refine ⟨t1, t2, t3, t4, fun x x0 x1 => ?_, t6⟩
  refine ⟨?_, (t5 x x0 x1).2⟩
  show st2 S 12 m b 12 x = 0 ∨ st2 S 12 m b 12 x = 1
  by_cases e : x = m
  · rw [e, st2_s]; exact hb
  · rw [st2_n e]; exact (t5 x x0 x1).1
theorem TW_talk {S : Mem} {m a b : Int} (T : TW 10 S) (hb : tok (S 10 9) a b) : TW 10 (st2 (st2 S 13 m a) 14 m b) := by
  obtain ⟨t1, t2, t3, t4, t5, t6⟩ := TW10 T
  refine ⟨t1, t2, t3, t4, fun x x0 x1 => ?_, t6⟩
  refine ⟨(t5 x x0 x1).1, ?_⟩
  show tok (S 10 9) (st2 (st2 S 13 m a) 14 m b 13 x) (st2 (st2 S 13 m a) 14 m b 14 x)
  rw [st2_c (show (13 : Nat) ≠ 14 by decide)]
  by_cases e : x = m
  · rw [e, st2_s, st2_s]; exact hb
  · rw [st2_n e, st2_n e]; exact (t5 x x0 x1).2
theorem x_dig {S : Mem} {m b : Int} (hm : rng m) (hb : b = 0 ∨ b = 1) (T : TW 10 S) : AMi 6 yX6_dig cX6_dig 3 (some .int) [.inr (.inr 0), .inl m, .inl b] S (fun z S' => z = (if S 10 8 = 0 then -3 else if m < 0 ∨ S 10 8 ≤ m then -2 else if S 12 m = b then 0 else 1) ∧ (if S 10 8 = 0 ∨ m < 0 ∨ S 10 8 ≤ m ∨ S 12 m = b then S' = S else RA (st2 S 12 m b) S')) := by
  obtain ⟨t1, t2, t3, t4, t5, t6⟩ := TW10 T
  refine ami_intro (L := [_, _, _]) (by decide) (Or.inl rfl) rfl (Nat.le_of_ble_eq_true rfl) (fun X C hret => ?_)
  refine aw_aldn (n := 1) C dX6_dig_0 rfl rfl ?_
  refine aw_cVi (n := 4) (vs := []) C dX6_dig_1 rfl rfl rfl mm_X6_noLine wM_X6_108 rfl rfl (Nat.le_of_ble_eq_true rfl) (c_noLine (by omega)) (by decide) (fun z_1 S_1 q_1 => ?_)
  rw [q_1.1, q_1.2]
  clear q_1 S_1 z_1
  refine aw_ifeq (tgt := 10) (n := 7) C dX6_dig_4 rfl rfl (by omega) (fun h_4 => ?_) (fun h_4 => ?_)
  · refine aw_aldn (n := 11) C dX6_dig_10 rfl rfl ?_
    refine aw_ildn (n := 12) C dX6_dig_11 rfl rfl ?_
    refine aw_cVi (n := 15) (vs := [_]) C dX6_dig_12 rfl rfl rfl mm_X6_noMile wM_X6_124 rfl rfl (Nat.le_of_ble_eq_true rfl) (c_noMile hm (by omega)) (by decide) (fun z_12 S_12 q_12 => ?_)
    rw [q_12.1, q_12.2]
    clear q_12 S_12 z_12
    refine aw_ifeq (tgt := 21) (n := 18) C dX6_dig_15 rfl rfl (by omega) (fun h_15 => ?_) (fun h_15 => ?_)
    · refine aw_aldn (n := 22) C dX6_dig_21 rfl rfl ?_
      refine aw_getR (n := 25) C dX6_dig_22 rfl fl_X6_21 rfl rfl ?_
      refine aw_getR (n := 28) C dX6_dig_25 rfl fl_X6_127 rfl rfl ?_
      refine aw_ildn (n := 29) C dX6_dig_28 rfl rfl ?_
      refine aw_zald (n := 30) C dX6_dig_29 rfl rfl (by omega) (by omega) ?_
      have htm := (t5 m (by omega) (by omega)).1
      refine aw_ildn (n := 31) C dX6_dig_30 rfl rfl ?_
      refine aw_icne (tgt := 36) (n := 34) C dX6_dig_31 rfl rfl (by omega) (by omega) (fun h_31 => ?_) (fun h_31 => ?_)
      · refine aw_aldn (n := 37) C dX6_dig_36 rfl rfl ?_
        refine aw_getR (n := 40) C dX6_dig_37 rfl fl_X6_21 rfl rfl ?_
        refine aw_getR (n := 43) C dX6_dig_40 rfl fl_X6_127 rfl rfl ?_
        refine aw_ildn (n := 44) C dX6_dig_43 rfl rfl ?_
        refine aw_ildn (n := 45) C dX6_dig_44 rfl rfl ?_
        refine aw_zast (n := 46) C dX6_dig_45 rfl rfl (by omega) (by omega) (by omega) ?_
        refine aw_aldn (n := 47) C dX6_dig_46 rfl rfl ?_
        refine aw_cVv (n := 50) (vs := []) C dX6_dig_47 rfl rfl rfl mm_X6_rideAnew wM_X6_90 rfl rfl (Nat.le_of_ble_eq_true rfl) (c_rideAnew (TW_tun T hb)) (by decide) (fun S_47 q_47 => ?_)
        skip
        refine aw_iconst (n := 51) C dX6_dig_50 rfl ?_
        refine hret 51 _ _ _ dX6_dig_51 (Or.inl rfl) ?_
        exact ⟨by omega, by rw [if_neg (by omega)]; exact q_47⟩
      · refine aw_iconst (n := 35) C dX6_dig_34 rfl ?_
        refine hret 35 _ _ _ dX6_dig_35 (Or.inl rfl) ?_
        exact ⟨by omega, by rw [if_pos (by omega)]⟩
    · refine aw_bipush (n := 20) C dX6_dig_18 rfl rfl ?_
      refine hret 20 _ _ _ dX6_dig_20 (Or.inl rfl) ?_
      exact ⟨by omega, by rw [if_pos (by omega)]⟩
  · refine aw_bipush (n := 9) C dX6_dig_7 rfl rfl ?_
    refine hret 9 _ _ _ dX6_dig_9 (Or.inl rfl) ?_
    exact ⟨by omega, by rw [if_pos (by omega)]⟩
theorem x_talk {S : Mem} {m a b : Int} (hm : rng m) (ha : rng a) (hb : rng b) (T : TW 10 S) : AMi 6 yX6_talk cX6_talk 6 (some .int) [.inr (.inr 0), .inl m, .inl a, .inl b] S (fun z S' => z = (if S 10 8 = 0 then -3 else if m < 0 ∨ S 10 8 ≤ m then -2 else if ¬ (a = -9 ∧ b = -9) ∧ (a < 0 ∨ S 10 9 ≤ a ∨ b < 0 ∨ S 10 9 ≤ b ∨ a = b) then -1 else if S 13 m = -9 then -9 else 10 * S 13 m + S 14 m) ∧ (if S 10 8 = 0 ∨ m < 0 ∨ S 10 8 ≤ m ∨ (¬ (a = -9 ∧ b = -9) ∧ (a < 0 ∨ S 10 9 ≤ a ∨ b < 0 ∨ S 10 9 ≤ b ∨ a = b)) then S' = S else RA (st2 (st2 S 13 m a) 14 m b) S')) := by
  obtain ⟨t1, t2, t3, t4, t5, t6⟩ := TW10 T
  refine ami_intro (L := [_, _, _, _, none, none]) (by decide) (Or.inl rfl) rfl (Nat.le_of_ble_eq_true rfl) (fun X C hret => ?_)
  refine aw_aldn (n := 1) C dX6_talk_0 rfl rfl ?_
  refine aw_cVi (n := 4) (vs := []) C dX6_talk_1 rfl rfl rfl mm_X6_noLine wM_X6_108 rfl rfl (Nat.le_of_ble_eq_true rfl) (c_noLine (by omega)) (by decide) (fun z_1 S_1 q_1 => ?_)
  rw [q_1.1, q_1.2]
  clear q_1 S_1 z_1
  refine aw_ifeq (tgt := 10) (n := 7) C dX6_talk_4 rfl rfl (by omega) (fun h_4 => ?_) (fun h_4 => ?_)
  · refine aw_aldn (n := 11) C dX6_talk_10 rfl rfl ?_
    refine aw_ildn (n := 12) C dX6_talk_11 rfl rfl ?_
    refine aw_cVi (n := 15) (vs := [_]) C dX6_talk_12 rfl rfl rfl mm_X6_noMile wM_X6_124 rfl rfl (Nat.le_of_ble_eq_true rfl) (c_noMile hm (by omega)) (by decide) (fun z_12 S_12 q_12 => ?_)
    rw [q_12.1, q_12.2]
    clear q_12 S_12 z_12
    refine aw_ifeq (tgt := 21) (n := 18) C dX6_talk_15 rfl rfl (by omega) (fun h_15 => ?_) (fun h_15 => ?_)
    · refine aw_ildn (n := 22) C dX6_talk_21 rfl rfl ?_
      refine aw_bipush (n := 24) C dX6_talk_22 rfl rfl ?_
      refine aw_icne (tgt := 37) (n := 27) C dX6_talk_24 rfl rfl (by omega) (by omega) (fun h_24 => ?_) (fun h_24 => ?_)
      · refine aw_iconst (n := 38) C dX6_talk_37 rfl ?_
        refine aw_istw (n := 40) (L' := [_, _, _, _, _, _]) C dX6_talk_38 rfl (by decide) rfl rfl ?_
        refine aw_ildw (n := 42) C dX6_talk_40 rfl rfl ?_
        refine aw_ifne (tgt := 56) (n := 45) C dX6_talk_42 rfl rfl (by omega) (fun h_42 => ?_) (fun h_42 => ?_)
        · refine aw_aldn (n := 57) C dX6_talk_56 rfl rfl ?_
          refine aw_getR (n := 60) C dX6_talk_57 rfl fl_X6_21 rfl rfl ?_
          refine aw_getR (n := 63) C dX6_talk_60 rfl fl_X6_135 rfl rfl ?_
          refine aw_ildn (n := 64) C dX6_talk_63 rfl rfl ?_
          refine aw_iald (n := 65) C dX6_talk_64 rfl rfl (by omega) (by omega) ?_
          refine aw_bipush (n := 67) C dX6_talk_65 rfl rfl ?_
          have htm := (t5 m (by omega) (by omega)).2
          unfold tok at htm
          refine aw_icne (tgt := 75) (n := 70) C dX6_talk_67 rfl rfl (by omega) (by omega) (fun h_67 => ?_) (fun h_67 => ?_)
          · refine aw_bipush (n := 77) C dX6_talk_75 rfl rfl ?_
            refine aw_aldn (n := 78) C dX6_talk_77 rfl rfl ?_
            refine aw_getR (n := 81) C dX6_talk_78 rfl fl_X6_21 rfl rfl ?_
            refine aw_getR (n := 84) C dX6_talk_81 rfl fl_X6_135 rfl rfl ?_
            refine aw_ildn (n := 85) C dX6_talk_84 rfl rfl ?_
            refine aw_iald (n := 86) C dX6_talk_85 rfl rfl (by omega) (by omega) ?_
            refine aw_imul (n := 87) C dX6_talk_86 rfl ?_
            refine aw_aldn (n := 88) C dX6_talk_87 rfl rfl ?_
            refine aw_getR (n := 91) C dX6_talk_88 rfl fl_X6_21 rfl rfl ?_
            refine aw_getR (n := 94) C dX6_talk_91 rfl fl_X6_138 rfl rfl ?_
            refine aw_ildn (n := 95) C dX6_talk_94 rfl rfl ?_
            refine aw_iald (n := 96) C dX6_talk_95 rfl rfl (by omega) (by omega) ?_
            refine aw_iadd (n := 97) C dX6_talk_96 rfl ?_
            refine aw_istw (n := 99) (L' := [_, _, _, _, _, _]) C dX6_talk_97 rfl (by decide) rfl rfl ?_
            refine aw_aldn (n := 100) C dX6_talk_99 rfl rfl ?_
            refine aw_getR (n := 103) C dX6_talk_100 rfl fl_X6_21 rfl rfl ?_
            refine aw_getR (n := 106) C dX6_talk_103 rfl fl_X6_135 rfl rfl ?_
            refine aw_ildn (n := 107) C dX6_talk_106 rfl rfl ?_
            refine aw_ildn (n := 108) C dX6_talk_107 rfl rfl ?_
            refine aw_iast (n := 109) C dX6_talk_108 rfl rfl (by omega) (by omega) ?_
            refine aw_aldn (n := 110) C dX6_talk_109 rfl rfl ?_
            refine aw_getR (n := 113) C dX6_talk_110 rfl fl_X6_21 rfl rfl ?_
            refine aw_getR (n := 116) C dX6_talk_113 rfl fl_X6_138 rfl rfl ?_
            refine aw_ildn (n := 117) C dX6_talk_116 rfl rfl ?_
            refine aw_ildn (n := 118) C dX6_talk_117 rfl rfl ?_
            refine aw_iast (n := 119) C dX6_talk_118 rfl rfl (by omega) (by omega) ?_
            refine aw_aldn (n := 120) C dX6_talk_119 rfl rfl ?_
            refine aw_cVv (n := 123) (vs := []) C dX6_talk_120 rfl rfl rfl mm_X6_rideAnew wM_X6_90 rfl rfl (Nat.le_of_ble_eq_true rfl) (c_rideAnew (TW_talk T (by unfold tok; omega))) (by decide) (fun S_120 q_120 => ?_)
            skip
            refine aw_ildw (n := 125) C dX6_talk_123 rfl rfl ?_
            refine hret 125 _ _ _ dX6_talk_125 (Or.inl rfl) ?_
            exact ⟨by omega, by rw [if_neg (by omega)]; exact q_120⟩
          · refine aw_bipush (n := 72) C dX6_talk_70 rfl rfl ?_
            refine aw_goto (tgt := 97) C dX6_talk_72 rfl ?_
            refine aw_istw (n := 99) (L' := [_, _, _, _, _, _]) C dX6_talk_97 rfl (by decide) rfl rfl ?_
            refine aw_aldn (n := 100) C dX6_talk_99 rfl rfl ?_
            refine aw_getR (n := 103) C dX6_talk_100 rfl fl_X6_21 rfl rfl ?_
            refine aw_getR (n := 106) C dX6_talk_103 rfl fl_X6_135 rfl rfl ?_
            refine aw_ildn (n := 107) C dX6_talk_106 rfl rfl ?_
            refine aw_ildn (n := 108) C dX6_talk_107 rfl rfl ?_
            refine aw_iast (n := 109) C dX6_talk_108 rfl rfl (by omega) (by omega) ?_
            refine aw_aldn (n := 110) C dX6_talk_109 rfl rfl ?_
            refine aw_getR (n := 113) C dX6_talk_110 rfl fl_X6_21 rfl rfl ?_
            refine aw_getR (n := 116) C dX6_talk_113 rfl fl_X6_138 rfl rfl ?_
            refine aw_ildn (n := 117) C dX6_talk_116 rfl rfl ?_
            refine aw_ildn (n := 118) C dX6_talk_117 rfl rfl ?_
            refine aw_iast (n := 119) C dX6_talk_118 rfl rfl (by omega) (by omega) ?_
            refine aw_aldn (n := 120) C dX6_talk_119 rfl rfl ?_
            refine aw_cVv (n := 123) (vs := []) C dX6_talk_120 rfl rfl rfl mm_X6_rideAnew wM_X6_90 rfl rfl (Nat.le_of_ble_eq_true rfl) (c_rideAnew (TW_talk T (by unfold tok; omega))) (by decide) (fun S_120 q_120 => ?_)
            skip
            refine aw_ildw (n := 125) C dX6_talk_123 rfl rfl ?_
            refine hret 125 _ _ _ dX6_talk_125 (Or.inl rfl) ?_
            exact ⟨by omega, by rw [if_neg (by omega)]; exact q_120⟩
        · refine aw_aldn (n := 46) C dX6_talk_45 rfl rfl ?_
          refine aw_ildn (n := 47) C dX6_talk_46 rfl rfl ?_
          refine aw_ildn (n := 48) C dX6_talk_47 rfl rfl ?_
          refine aw_cVi (n := 51) (vs := [_, _]) C dX6_talk_48 rfl rfl rfl mm_X6_noPair wM_X6_131 rfl rfl (Nat.le_of_ble_eq_true rfl) (c_noPair ha hb (by omega)) (by decide) (fun z_48 S_48 q_48 => ?_)
          rw [q_48.1, q_48.2]
          clear q_48 S_48 z_48
          refine aw_ifeq (tgt := 56) (n := 54) C dX6_talk_51 rfl rfl (by omega) (fun h_51 => ?_) (fun h_51 => ?_)
          · refine aw_aldn (n := 57) C dX6_talk_56 rfl rfl ?_
            refine aw_getR (n := 60) C dX6_talk_57 rfl fl_X6_21 rfl rfl ?_
            refine aw_getR (n := 63) C dX6_talk_60 rfl fl_X6_135 rfl rfl ?_
            refine aw_ildn (n := 64) C dX6_talk_63 rfl rfl ?_
            refine aw_iald (n := 65) C dX6_talk_64 rfl rfl (by omega) (by omega) ?_
            refine aw_bipush (n := 67) C dX6_talk_65 rfl rfl ?_
            have htm := (t5 m (by omega) (by omega)).2
            unfold tok at htm
            refine aw_icne (tgt := 75) (n := 70) C dX6_talk_67 rfl rfl (by omega) (by omega) (fun h_67 => ?_) (fun h_67 => ?_)
            · refine aw_bipush (n := 77) C dX6_talk_75 rfl rfl ?_
              refine aw_aldn (n := 78) C dX6_talk_77 rfl rfl ?_
              refine aw_getR (n := 81) C dX6_talk_78 rfl fl_X6_21 rfl rfl ?_
              refine aw_getR (n := 84) C dX6_talk_81 rfl fl_X6_135 rfl rfl ?_
              refine aw_ildn (n := 85) C dX6_talk_84 rfl rfl ?_
              refine aw_iald (n := 86) C dX6_talk_85 rfl rfl (by omega) (by omega) ?_
              refine aw_imul (n := 87) C dX6_talk_86 rfl ?_
              refine aw_aldn (n := 88) C dX6_talk_87 rfl rfl ?_
              refine aw_getR (n := 91) C dX6_talk_88 rfl fl_X6_21 rfl rfl ?_
              refine aw_getR (n := 94) C dX6_talk_91 rfl fl_X6_138 rfl rfl ?_
              refine aw_ildn (n := 95) C dX6_talk_94 rfl rfl ?_
              refine aw_iald (n := 96) C dX6_talk_95 rfl rfl (by omega) (by omega) ?_
              refine aw_iadd (n := 97) C dX6_talk_96 rfl ?_
              refine aw_istw (n := 99) (L' := [_, _, _, _, _, _]) C dX6_talk_97 rfl (by decide) rfl rfl ?_
              refine aw_aldn (n := 100) C dX6_talk_99 rfl rfl ?_
              refine aw_getR (n := 103) C dX6_talk_100 rfl fl_X6_21 rfl rfl ?_
              refine aw_getR (n := 106) C dX6_talk_103 rfl fl_X6_135 rfl rfl ?_
              refine aw_ildn (n := 107) C dX6_talk_106 rfl rfl ?_
              refine aw_ildn (n := 108) C dX6_talk_107 rfl rfl ?_
              refine aw_iast (n := 109) C dX6_talk_108 rfl rfl (by omega) (by omega) ?_
              refine aw_aldn (n := 110) C dX6_talk_109 rfl rfl ?_
              refine aw_getR (n := 113) C dX6_talk_110 rfl fl_X6_21 rfl rfl ?_
              refine aw_getR (n := 116) C dX6_talk_113 rfl fl_X6_138 rfl rfl ?_
              refine aw_ildn (n := 117) C dX6_talk_116 rfl rfl ?_
              refine aw_ildn (n := 118) C dX6_talk_117 rfl rfl ?_
              refine aw_iast (n := 119) C dX6_talk_118 rfl rfl (by omega) (by omega) ?_
              refine aw_aldn (n := 120) C dX6_talk_119 rfl rfl ?_
              refine aw_cVv (n := 123) (vs := []) C dX6_talk_120 rfl rfl rfl mm_X6_rideAnew wM_X6_90 rfl rfl (Nat.le_of_ble_eq_true rfl) (c_rideAnew (TW_talk T (by unfold tok; omega))) (by decide) (fun S_120 q_120 => ?_)
              skip
              refine aw_ildw (n := 125) C dX6_talk_123 rfl rfl ?_
              refine hret 125 _ _ _ dX6_talk_125 (Or.inl rfl) ?_
              exact ⟨by omega, by rw [if_neg (by omega)]; exact q_120⟩
            · refine aw_bipush (n := 72) C dX6_talk_70 rfl rfl ?_
              refine aw_goto (tgt := 97) C dX6_talk_72 rfl ?_
              refine aw_istw (n := 99) (L' := [_, _, _, _, _, _]) C dX6_talk_97 rfl (by decide) rfl rfl ?_
              refine aw_aldn (n := 100) C dX6_talk_99 rfl rfl ?_
              refine aw_getR (n := 103) C dX6_talk_100 rfl fl_X6_21 rfl rfl ?_
              refine aw_getR (n := 106) C dX6_talk_103 rfl fl_X6_135 rfl rfl ?_
              refine aw_ildn (n := 107) C dX6_talk_106 rfl rfl ?_
              refine aw_ildn (n := 108) C dX6_talk_107 rfl rfl ?_
              refine aw_iast (n := 109) C dX6_talk_108 rfl rfl (by omega) (by omega) ?_
              refine aw_aldn (n := 110) C dX6_talk_109 rfl rfl ?_
              refine aw_getR (n := 113) C dX6_talk_110 rfl fl_X6_21 rfl rfl ?_
              refine aw_getR (n := 116) C dX6_talk_113 rfl fl_X6_138 rfl rfl ?_
              refine aw_ildn (n := 117) C dX6_talk_116 rfl rfl ?_
              refine aw_ildn (n := 118) C dX6_talk_117 rfl rfl ?_
              refine aw_iast (n := 119) C dX6_talk_118 rfl rfl (by omega) (by omega) ?_
              refine aw_aldn (n := 120) C dX6_talk_119 rfl rfl ?_
              refine aw_cVv (n := 123) (vs := []) C dX6_talk_120 rfl rfl rfl mm_X6_rideAnew wM_X6_90 rfl rfl (Nat.le_of_ble_eq_true rfl) (c_rideAnew (TW_talk T (by unfold tok; omega))) (by decide) (fun S_120 q_120 => ?_)
              skip
              refine aw_ildw (n := 125) C dX6_talk_123 rfl rfl ?_
              refine hret 125 _ _ _ dX6_talk_125 (Or.inl rfl) ?_
              exact ⟨by omega, by rw [if_neg (by omega)]; exact q_120⟩
          · refine aw_iconst (n := 55) C dX6_talk_54 rfl ?_
            refine hret 55 _ _ _ dX6_talk_55 (Or.inl rfl) ?_
            exact ⟨by omega, by rw [if_pos (by omega)]⟩
      · refine aw_ildn (n := 28) C dX6_talk_27 rfl rfl ?_
        refine aw_bipush (n := 30) C dX6_talk_28 rfl rfl ?_
        refine aw_icne (tgt := 37) (n := 33) C dX6_talk_30 rfl rfl (by omega) (by omega) (fun h_30 => ?_) (fun h_30 => ?_)
        · refine aw_iconst (n := 38) C dX6_talk_37 rfl ?_
          refine aw_istw (n := 40) (L' := [_, _, _, _, _, _]) C dX6_talk_38 rfl (by decide) rfl rfl ?_
          refine aw_ildw (n := 42) C dX6_talk_40 rfl rfl ?_
          refine aw_ifne (tgt := 56) (n := 45) C dX6_talk_42 rfl rfl (by omega) (fun h_42 => ?_) (fun h_42 => ?_)
          · refine aw_aldn (n := 57) C dX6_talk_56 rfl rfl ?_
            refine aw_getR (n := 60) C dX6_talk_57 rfl fl_X6_21 rfl rfl ?_
            refine aw_getR (n := 63) C dX6_talk_60 rfl fl_X6_135 rfl rfl ?_
            refine aw_ildn (n := 64) C dX6_talk_63 rfl rfl ?_
            refine aw_iald (n := 65) C dX6_talk_64 rfl rfl (by omega) (by omega) ?_
            refine aw_bipush (n := 67) C dX6_talk_65 rfl rfl ?_
            have htm := (t5 m (by omega) (by omega)).2
            unfold tok at htm
            refine aw_icne (tgt := 75) (n := 70) C dX6_talk_67 rfl rfl (by omega) (by omega) (fun h_67 => ?_) (fun h_67 => ?_)
            · refine aw_bipush (n := 77) C dX6_talk_75 rfl rfl ?_
              refine aw_aldn (n := 78) C dX6_talk_77 rfl rfl ?_
              refine aw_getR (n := 81) C dX6_talk_78 rfl fl_X6_21 rfl rfl ?_
              refine aw_getR (n := 84) C dX6_talk_81 rfl fl_X6_135 rfl rfl ?_
              refine aw_ildn (n := 85) C dX6_talk_84 rfl rfl ?_
              refine aw_iald (n := 86) C dX6_talk_85 rfl rfl (by omega) (by omega) ?_
              refine aw_imul (n := 87) C dX6_talk_86 rfl ?_
              refine aw_aldn (n := 88) C dX6_talk_87 rfl rfl ?_
              refine aw_getR (n := 91) C dX6_talk_88 rfl fl_X6_21 rfl rfl ?_
              refine aw_getR (n := 94) C dX6_talk_91 rfl fl_X6_138 rfl rfl ?_
              refine aw_ildn (n := 95) C dX6_talk_94 rfl rfl ?_
              refine aw_iald (n := 96) C dX6_talk_95 rfl rfl (by omega) (by omega) ?_
              refine aw_iadd (n := 97) C dX6_talk_96 rfl ?_
              refine aw_istw (n := 99) (L' := [_, _, _, _, _, _]) C dX6_talk_97 rfl (by decide) rfl rfl ?_
              refine aw_aldn (n := 100) C dX6_talk_99 rfl rfl ?_
              refine aw_getR (n := 103) C dX6_talk_100 rfl fl_X6_21 rfl rfl ?_
              refine aw_getR (n := 106) C dX6_talk_103 rfl fl_X6_135 rfl rfl ?_
              refine aw_ildn (n := 107) C dX6_talk_106 rfl rfl ?_
              refine aw_ildn (n := 108) C dX6_talk_107 rfl rfl ?_
              refine aw_iast (n := 109) C dX6_talk_108 rfl rfl (by omega) (by omega) ?_
              refine aw_aldn (n := 110) C dX6_talk_109 rfl rfl ?_
              refine aw_getR (n := 113) C dX6_talk_110 rfl fl_X6_21 rfl rfl ?_
              refine aw_getR (n := 116) C dX6_talk_113 rfl fl_X6_138 rfl rfl ?_
              refine aw_ildn (n := 117) C dX6_talk_116 rfl rfl ?_
              refine aw_ildn (n := 118) C dX6_talk_117 rfl rfl ?_
              refine aw_iast (n := 119) C dX6_talk_118 rfl rfl (by omega) (by omega) ?_
              refine aw_aldn (n := 120) C dX6_talk_119 rfl rfl ?_
              refine aw_cVv (n := 123) (vs := []) C dX6_talk_120 rfl rfl rfl mm_X6_rideAnew wM_X6_90 rfl rfl (Nat.le_of_ble_eq_true rfl) (c_rideAnew (TW_talk T (by unfold tok; omega))) (by decide) (fun S_120 q_120 => ?_)
              skip
              refine aw_ildw (n := 125) C dX6_talk_123 rfl rfl ?_
              refine hret 125 _ _ _ dX6_talk_125 (Or.inl rfl) ?_
              exact ⟨by omega, by rw [if_neg (by omega)]; exact q_120⟩
            · refine aw_bipush (n := 72) C dX6_talk_70 rfl rfl ?_
              refine aw_goto (tgt := 97) C dX6_talk_72 rfl ?_
              refine aw_istw (n := 99) (L' := [_, _, _, _, _, _]) C dX6_talk_97 rfl (by decide) rfl rfl ?_
              refine aw_aldn (n := 100) C dX6_talk_99 rfl rfl ?_
              refine aw_getR (n := 103) C dX6_talk_100 rfl fl_X6_21 rfl rfl ?_
              refine aw_getR (n := 106) C dX6_talk_103 rfl fl_X6_135 rfl rfl ?_
              refine aw_ildn (n := 107) C dX6_talk_106 rfl rfl ?_
              refine aw_ildn (n := 108) C dX6_talk_107 rfl rfl ?_
              refine aw_iast (n := 109) C dX6_talk_108 rfl rfl (by omega) (by omega) ?_
              refine aw_aldn (n := 110) C dX6_talk_109 rfl rfl ?_
              refine aw_getR (n := 113) C dX6_talk_110 rfl fl_X6_21 rfl rfl ?_
              refine aw_getR (n := 116) C dX6_talk_113 rfl fl_X6_138 rfl rfl ?_
              refine aw_ildn (n := 117) C dX6_talk_116 rfl rfl ?_
              refine aw_ildn (n := 118) C dX6_talk_117 rfl rfl ?_
              refine aw_iast (n := 119) C dX6_talk_118 rfl rfl (by omega) (by omega) ?_
              refine aw_aldn (n := 120) C dX6_talk_119 rfl rfl ?_
              refine aw_cVv (n := 123) (vs := []) C dX6_talk_120 rfl rfl rfl mm_X6_rideAnew wM_X6_90 rfl rfl (Nat.le_of_ble_eq_true rfl) (c_rideAnew (TW_talk T (by unfold tok; omega))) (by decide) (fun S_120 q_120 => ?_)
              skip
              refine aw_ildw (n := 125) C dX6_talk_123 rfl rfl ?_
              refine hret 125 _ _ _ dX6_talk_125 (Or.inl rfl) ?_
              exact ⟨by omega, by rw [if_neg (by omega)]; exact q_120⟩
          · refine aw_aldn (n := 46) C dX6_talk_45 rfl rfl ?_
            refine aw_ildn (n := 47) C dX6_talk_46 rfl rfl ?_
            refine aw_ildn (n := 48) C dX6_talk_47 rfl rfl ?_
            refine aw_cVi (n := 51) (vs := [_, _]) C dX6_talk_48 rfl rfl rfl mm_X6_noPair wM_X6_131 rfl rfl (Nat.le_of_ble_eq_true rfl) (c_noPair ha hb (by omega)) (by decide) (fun z_48 S_48 q_48 => ?_)
            rw [q_48.1, q_48.2]
            clear q_48 S_48 z_48
            refine aw_ifeq (tgt := 56) (n := 54) C dX6_talk_51 rfl rfl (by omega) (fun h_51 => ?_) (fun h_51 => ?_)
            · refine aw_aldn (n := 57) C dX6_talk_56 rfl rfl ?_
              refine aw_getR (n := 60) C dX6_talk_57 rfl fl_X6_21 rfl rfl ?_
              refine aw_getR (n := 63) C dX6_talk_60 rfl fl_X6_135 rfl rfl ?_
              refine aw_ildn (n := 64) C dX6_talk_63 rfl rfl ?_
              refine aw_iald (n := 65) C dX6_talk_64 rfl rfl (by omega) (by omega) ?_
              refine aw_bipush (n := 67) C dX6_talk_65 rfl rfl ?_
              have htm := (t5 m (by omega) (by omega)).2
              unfold tok at htm
              refine aw_icne (tgt := 75) (n := 70) C dX6_talk_67 rfl rfl (by omega) (by omega) (fun h_67 => ?_) (fun h_67 => ?_)
              · refine aw_bipush (n := 77) C dX6_talk_75 rfl rfl ?_
                refine aw_aldn (n := 78) C dX6_talk_77 rfl rfl ?_
                refine aw_getR (n := 81) C dX6_talk_78 rfl fl_X6_21 rfl rfl ?_
                refine aw_getR (n := 84) C dX6_talk_81 rfl fl_X6_135 rfl rfl ?_
                refine aw_ildn (n := 85) C dX6_talk_84 rfl rfl ?_
                refine aw_iald (n := 86) C dX6_talk_85 rfl rfl (by omega) (by omega) ?_
                refine aw_imul (n := 87) C dX6_talk_86 rfl ?_
                refine aw_aldn (n := 88) C dX6_talk_87 rfl rfl ?_
                refine aw_getR (n := 91) C dX6_talk_88 rfl fl_X6_21 rfl rfl ?_
                refine aw_getR (n := 94) C dX6_talk_91 rfl fl_X6_138 rfl rfl ?_
                refine aw_ildn (n := 95) C dX6_talk_94 rfl rfl ?_
                refine aw_iald (n := 96) C dX6_talk_95 rfl rfl (by omega) (by omega) ?_
                refine aw_iadd (n := 97) C dX6_talk_96 rfl ?_
                refine aw_istw (n := 99) (L' := [_, _, _, _, _, _]) C dX6_talk_97 rfl (by decide) rfl rfl ?_
                refine aw_aldn (n := 100) C dX6_talk_99 rfl rfl ?_
                refine aw_getR (n := 103) C dX6_talk_100 rfl fl_X6_21 rfl rfl ?_
                refine aw_getR (n := 106) C dX6_talk_103 rfl fl_X6_135 rfl rfl ?_
                refine aw_ildn (n := 107) C dX6_talk_106 rfl rfl ?_
                refine aw_ildn (n := 108) C dX6_talk_107 rfl rfl ?_
                refine aw_iast (n := 109) C dX6_talk_108 rfl rfl (by omega) (by omega) ?_
                refine aw_aldn (n := 110) C dX6_talk_109 rfl rfl ?_
                refine aw_getR (n := 113) C dX6_talk_110 rfl fl_X6_21 rfl rfl ?_
                refine aw_getR (n := 116) C dX6_talk_113 rfl fl_X6_138 rfl rfl ?_
                refine aw_ildn (n := 117) C dX6_talk_116 rfl rfl ?_
                refine aw_ildn (n := 118) C dX6_talk_117 rfl rfl ?_
                refine aw_iast (n := 119) C dX6_talk_118 rfl rfl (by omega) (by omega) ?_
                refine aw_aldn (n := 120) C dX6_talk_119 rfl rfl ?_
                refine aw_cVv (n := 123) (vs := []) C dX6_talk_120 rfl rfl rfl mm_X6_rideAnew wM_X6_90 rfl rfl (Nat.le_of_ble_eq_true rfl) (c_rideAnew (TW_talk T (by unfold tok; omega))) (by decide) (fun S_120 q_120 => ?_)
                skip
                refine aw_ildw (n := 125) C dX6_talk_123 rfl rfl ?_
                refine hret 125 _ _ _ dX6_talk_125 (Or.inl rfl) ?_
                exact ⟨by omega, by rw [if_neg (by omega)]; exact q_120⟩
              · refine aw_bipush (n := 72) C dX6_talk_70 rfl rfl ?_
                refine aw_goto (tgt := 97) C dX6_talk_72 rfl ?_
                refine aw_istw (n := 99) (L' := [_, _, _, _, _, _]) C dX6_talk_97 rfl (by decide) rfl rfl ?_
                refine aw_aldn (n := 100) C dX6_talk_99 rfl rfl ?_
                refine aw_getR (n := 103) C dX6_talk_100 rfl fl_X6_21 rfl rfl ?_
                refine aw_getR (n := 106) C dX6_talk_103 rfl fl_X6_135 rfl rfl ?_
                refine aw_ildn (n := 107) C dX6_talk_106 rfl rfl ?_
                refine aw_ildn (n := 108) C dX6_talk_107 rfl rfl ?_
                refine aw_iast (n := 109) C dX6_talk_108 rfl rfl (by omega) (by omega) ?_
                refine aw_aldn (n := 110) C dX6_talk_109 rfl rfl ?_
                refine aw_getR (n := 113) C dX6_talk_110 rfl fl_X6_21 rfl rfl ?_
                refine aw_getR (n := 116) C dX6_talk_113 rfl fl_X6_138 rfl rfl ?_
                refine aw_ildn (n := 117) C dX6_talk_116 rfl rfl ?_
                refine aw_ildn (n := 118) C dX6_talk_117 rfl rfl ?_
                refine aw_iast (n := 119) C dX6_talk_118 rfl rfl (by omega) (by omega) ?_
                refine aw_aldn (n := 120) C dX6_talk_119 rfl rfl ?_
                refine aw_cVv (n := 123) (vs := []) C dX6_talk_120 rfl rfl rfl mm_X6_rideAnew wM_X6_90 rfl rfl (Nat.le_of_ble_eq_true rfl) (c_rideAnew (TW_talk T (by unfold tok; omega))) (by decide) (fun S_120 q_120 => ?_)
                skip
                refine aw_ildw (n := 125) C dX6_talk_123 rfl rfl ?_
                refine hret 125 _ _ _ dX6_talk_125 (Or.inl rfl) ?_
                exact ⟨by omega, by rw [if_neg (by omega)]; exact q_120⟩
            · refine aw_iconst (n := 55) C dX6_talk_54 rfl ?_
              refine hret 55 _ _ _ dX6_talk_55 (Or.inl rfl) ?_
              exact ⟨by omega, by rw [if_pos (by omega)]⟩
        · refine aw_iconst (n := 34) C dX6_talk_33 rfl ?_
          refine aw_goto (tgt := 38) C dX6_talk_34 rfl ?_
          refine aw_istw (n := 40) (L' := [_, _, _, _, _, _]) C dX6_talk_38 rfl (by decide) rfl rfl ?_
          refine aw_ildw (n := 42) C dX6_talk_40 rfl rfl ?_
          refine aw_ifne (tgt := 56) (n := 45) C dX6_talk_42 rfl rfl (by omega) (fun h_42 => ?_) (fun h_42 => ?_)
          · refine aw_aldn (n := 57) C dX6_talk_56 rfl rfl ?_
            refine aw_getR (n := 60) C dX6_talk_57 rfl fl_X6_21 rfl rfl ?_
            refine aw_getR (n := 63) C dX6_talk_60 rfl fl_X6_135 rfl rfl ?_
            refine aw_ildn (n := 64) C dX6_talk_63 rfl rfl ?_
            refine aw_iald (n := 65) C dX6_talk_64 rfl rfl (by omega) (by omega) ?_
            refine aw_bipush (n := 67) C dX6_talk_65 rfl rfl ?_
            have htm := (t5 m (by omega) (by omega)).2
            unfold tok at htm
            refine aw_icne (tgt := 75) (n := 70) C dX6_talk_67 rfl rfl (by omega) (by omega) (fun h_67 => ?_) (fun h_67 => ?_)
            · refine aw_bipush (n := 77) C dX6_talk_75 rfl rfl ?_
              refine aw_aldn (n := 78) C dX6_talk_77 rfl rfl ?_
              refine aw_getR (n := 81) C dX6_talk_78 rfl fl_X6_21 rfl rfl ?_
              refine aw_getR (n := 84) C dX6_talk_81 rfl fl_X6_135 rfl rfl ?_
              refine aw_ildn (n := 85) C dX6_talk_84 rfl rfl ?_
              refine aw_iald (n := 86) C dX6_talk_85 rfl rfl (by omega) (by omega) ?_
              refine aw_imul (n := 87) C dX6_talk_86 rfl ?_
              refine aw_aldn (n := 88) C dX6_talk_87 rfl rfl ?_
              refine aw_getR (n := 91) C dX6_talk_88 rfl fl_X6_21 rfl rfl ?_
              refine aw_getR (n := 94) C dX6_talk_91 rfl fl_X6_138 rfl rfl ?_
              refine aw_ildn (n := 95) C dX6_talk_94 rfl rfl ?_
              refine aw_iald (n := 96) C dX6_talk_95 rfl rfl (by omega) (by omega) ?_
              refine aw_iadd (n := 97) C dX6_talk_96 rfl ?_
              refine aw_istw (n := 99) (L' := [_, _, _, _, _, _]) C dX6_talk_97 rfl (by decide) rfl rfl ?_
              refine aw_aldn (n := 100) C dX6_talk_99 rfl rfl ?_
              refine aw_getR (n := 103) C dX6_talk_100 rfl fl_X6_21 rfl rfl ?_
              refine aw_getR (n := 106) C dX6_talk_103 rfl fl_X6_135 rfl rfl ?_
              refine aw_ildn (n := 107) C dX6_talk_106 rfl rfl ?_
              refine aw_ildn (n := 108) C dX6_talk_107 rfl rfl ?_
              refine aw_iast (n := 109) C dX6_talk_108 rfl rfl (by omega) (by omega) ?_
              refine aw_aldn (n := 110) C dX6_talk_109 rfl rfl ?_
              refine aw_getR (n := 113) C dX6_talk_110 rfl fl_X6_21 rfl rfl ?_
              refine aw_getR (n := 116) C dX6_talk_113 rfl fl_X6_138 rfl rfl ?_
              refine aw_ildn (n := 117) C dX6_talk_116 rfl rfl ?_
              refine aw_ildn (n := 118) C dX6_talk_117 rfl rfl ?_
              refine aw_iast (n := 119) C dX6_talk_118 rfl rfl (by omega) (by omega) ?_
              refine aw_aldn (n := 120) C dX6_talk_119 rfl rfl ?_
              refine aw_cVv (n := 123) (vs := []) C dX6_talk_120 rfl rfl rfl mm_X6_rideAnew wM_X6_90 rfl rfl (Nat.le_of_ble_eq_true rfl) (c_rideAnew (TW_talk T (by unfold tok; omega))) (by decide) (fun S_120 q_120 => ?_)
              skip
              refine aw_ildw (n := 125) C dX6_talk_123 rfl rfl ?_
              refine hret 125 _ _ _ dX6_talk_125 (Or.inl rfl) ?_
              exact ⟨by omega, by rw [if_neg (by omega)]; exact q_120⟩
            · refine aw_bipush (n := 72) C dX6_talk_70 rfl rfl ?_
              refine aw_goto (tgt := 97) C dX6_talk_72 rfl ?_
              refine aw_istw (n := 99) (L' := [_, _, _, _, _, _]) C dX6_talk_97 rfl (by decide) rfl rfl ?_
              refine aw_aldn (n := 100) C dX6_talk_99 rfl rfl ?_
              refine aw_getR (n := 103) C dX6_talk_100 rfl fl_X6_21 rfl rfl ?_
              refine aw_getR (n := 106) C dX6_talk_103 rfl fl_X6_135 rfl rfl ?_
              refine aw_ildn (n := 107) C dX6_talk_106 rfl rfl ?_
              refine aw_ildn (n := 108) C dX6_talk_107 rfl rfl ?_
              refine aw_iast (n := 109) C dX6_talk_108 rfl rfl (by omega) (by omega) ?_
              refine aw_aldn (n := 110) C dX6_talk_109 rfl rfl ?_
              refine aw_getR (n := 113) C dX6_talk_110 rfl fl_X6_21 rfl rfl ?_
              refine aw_getR (n := 116) C dX6_talk_113 rfl fl_X6_138 rfl rfl ?_
              refine aw_ildn (n := 117) C dX6_talk_116 rfl rfl ?_
              refine aw_ildn (n := 118) C dX6_talk_117 rfl rfl ?_
              refine aw_iast (n := 119) C dX6_talk_118 rfl rfl (by omega) (by omega) ?_
              refine aw_aldn (n := 120) C dX6_talk_119 rfl rfl ?_
              refine aw_cVv (n := 123) (vs := []) C dX6_talk_120 rfl rfl rfl mm_X6_rideAnew wM_X6_90 rfl rfl (Nat.le_of_ble_eq_true rfl) (c_rideAnew (TW_talk T (by unfold tok; omega))) (by decide) (fun S_120 q_120 => ?_)
              skip
              refine aw_ildw (n := 125) C dX6_talk_123 rfl rfl ?_
              refine hret 125 _ _ _ dX6_talk_125 (Or.inl rfl) ?_
              exact ⟨by omega, by rw [if_neg (by omega)]; exact q_120⟩
          · refine aw_aldn (n := 46) C dX6_talk_45 rfl rfl ?_
            refine aw_ildn (n := 47) C dX6_talk_46 rfl rfl ?_
            refine aw_ildn (n := 48) C dX6_talk_47 rfl rfl ?_
            refine aw_cVi (n := 51) (vs := [_, _]) C dX6_talk_48 rfl rfl rfl mm_X6_noPair wM_X6_131 rfl rfl (Nat.le_of_ble_eq_true rfl) (c_noPair ha hb (by omega)) (by decide) (fun z_48 S_48 q_48 => ?_)
            rw [q_48.1, q_48.2]
            clear q_48 S_48 z_48
            refine aw_ifeq (tgt := 56) (n := 54) C dX6_talk_51 rfl rfl (by omega) (fun h_51 => ?_) (fun h_51 => ?_)
            · refine aw_aldn (n := 57) C dX6_talk_56 rfl rfl ?_
              refine aw_getR (n := 60) C dX6_talk_57 rfl fl_X6_21 rfl rfl ?_
              refine aw_getR (n := 63) C dX6_talk_60 rfl fl_X6_135 rfl rfl ?_
              refine aw_ildn (n := 64) C dX6_talk_63 rfl rfl ?_
              refine aw_iald (n := 65) C dX6_talk_64 rfl rfl (by omega) (by omega) ?_
              refine aw_bipush (n := 67) C dX6_talk_65 rfl rfl ?_
              have htm := (t5 m (by omega) (by omega)).2
              unfold tok at htm
              refine aw_icne (tgt := 75) (n := 70) C dX6_talk_67 rfl rfl (by omega) (by omega) (fun h_67 => ?_) (fun h_67 => ?_)
              · refine aw_bipush (n := 77) C dX6_talk_75 rfl rfl ?_
                refine aw_aldn (n := 78) C dX6_talk_77 rfl rfl ?_
                refine aw_getR (n := 81) C dX6_talk_78 rfl fl_X6_21 rfl rfl ?_
                refine aw_getR (n := 84) C dX6_talk_81 rfl fl_X6_135 rfl rfl ?_
                refine aw_ildn (n := 85) C dX6_talk_84 rfl rfl ?_
                refine aw_iald (n := 86) C dX6_talk_85 rfl rfl (by omega) (by omega) ?_
                refine aw_imul (n := 87) C dX6_talk_86 rfl ?_
                refine aw_aldn (n := 88) C dX6_talk_87 rfl rfl ?_
                refine aw_getR (n := 91) C dX6_talk_88 rfl fl_X6_21 rfl rfl ?_
                refine aw_getR (n := 94) C dX6_talk_91 rfl fl_X6_138 rfl rfl ?_
                refine aw_ildn (n := 95) C dX6_talk_94 rfl rfl ?_
                refine aw_iald (n := 96) C dX6_talk_95 rfl rfl (by omega) (by omega) ?_
                refine aw_iadd (n := 97) C dX6_talk_96 rfl ?_
                refine aw_istw (n := 99) (L' := [_, _, _, _, _, _]) C dX6_talk_97 rfl (by decide) rfl rfl ?_
                refine aw_aldn (n := 100) C dX6_talk_99 rfl rfl ?_
                refine aw_getR (n := 103) C dX6_talk_100 rfl fl_X6_21 rfl rfl ?_
                refine aw_getR (n := 106) C dX6_talk_103 rfl fl_X6_135 rfl rfl ?_
                refine aw_ildn (n := 107) C dX6_talk_106 rfl rfl ?_
                refine aw_ildn (n := 108) C dX6_talk_107 rfl rfl ?_
                refine aw_iast (n := 109) C dX6_talk_108 rfl rfl (by omega) (by omega) ?_
                refine aw_aldn (n := 110) C dX6_talk_109 rfl rfl ?_
                refine aw_getR (n := 113) C dX6_talk_110 rfl fl_X6_21 rfl rfl ?_
                refine aw_getR (n := 116) C dX6_talk_113 rfl fl_X6_138 rfl rfl ?_
                refine aw_ildn (n := 117) C dX6_talk_116 rfl rfl ?_
                refine aw_ildn (n := 118) C dX6_talk_117 rfl rfl ?_
                refine aw_iast (n := 119) C dX6_talk_118 rfl rfl (by omega) (by omega) ?_
                refine aw_aldn (n := 120) C dX6_talk_119 rfl rfl ?_
                refine aw_cVv (n := 123) (vs := []) C dX6_talk_120 rfl rfl rfl mm_X6_rideAnew wM_X6_90 rfl rfl (Nat.le_of_ble_eq_true rfl) (c_rideAnew (TW_talk T (by unfold tok; omega))) (by decide) (fun S_120 q_120 => ?_)
                skip
                refine aw_ildw (n := 125) C dX6_talk_123 rfl rfl ?_
                refine hret 125 _ _ _ dX6_talk_125 (Or.inl rfl) ?_
                exact ⟨by omega, by rw [if_neg (by omega)]; exact q_120⟩
              · refine aw_bipush (n := 72) C dX6_talk_70 rfl rfl ?_
                refine aw_goto (tgt := 97) C dX6_talk_72 rfl ?_
                refine aw_istw (n := 99) (L' := [_, _, _, _, _, _]) C dX6_talk_97 rfl (by decide) rfl rfl ?_
                refine aw_aldn (n := 100) C dX6_talk_99 rfl rfl ?_
                refine aw_getR (n := 103) C dX6_talk_100 rfl fl_X6_21 rfl rfl ?_
                refine aw_getR (n := 106) C dX6_talk_103 rfl fl_X6_135 rfl rfl ?_
                refine aw_ildn (n := 107) C dX6_talk_106 rfl rfl ?_
                refine aw_ildn (n := 108) C dX6_talk_107 rfl rfl ?_
                refine aw_iast (n := 109) C dX6_talk_108 rfl rfl (by omega) (by omega) ?_
                refine aw_aldn (n := 110) C dX6_talk_109 rfl rfl ?_
                refine aw_getR (n := 113) C dX6_talk_110 rfl fl_X6_21 rfl rfl ?_
                refine aw_getR (n := 116) C dX6_talk_113 rfl fl_X6_138 rfl rfl ?_
                refine aw_ildn (n := 117) C dX6_talk_116 rfl rfl ?_
                refine aw_ildn (n := 118) C dX6_talk_117 rfl rfl ?_
                refine aw_iast (n := 119) C dX6_talk_118 rfl rfl (by omega) (by omega) ?_
                refine aw_aldn (n := 120) C dX6_talk_119 rfl rfl ?_
                refine aw_cVv (n := 123) (vs := []) C dX6_talk_120 rfl rfl rfl mm_X6_rideAnew wM_X6_90 rfl rfl (Nat.le_of_ble_eq_true rfl) (c_rideAnew (TW_talk T (by unfold tok; omega))) (by decide) (fun S_120 q_120 => ?_)
                skip
                refine aw_ildw (n := 125) C dX6_talk_123 rfl rfl ?_
                refine hret 125 _ _ _ dX6_talk_125 (Or.inl rfl) ?_
                exact ⟨by omega, by rw [if_neg (by omega)]; exact q_120⟩
            · refine aw_iconst (n := 55) C dX6_talk_54 rfl ?_
              refine hret 55 _ _ _ dX6_talk_55 (Or.inl rfl) ?_
              exact ⟨by omega, by rw [if_pos (by omega)]⟩
    · refine aw_bipush (n := 20) C dX6_talk_18 rfl rfl ?_
      refine hret 20 _ _ _ dX6_talk_20 (Or.inl rfl) ?_
      exact ⟨by omega, by rw [if_pos (by omega)]⟩
  · refine aw_bipush (n := 9) C dX6_talk_7 rfl rfl ?_
    refine hret 9 _ _ _ dX6_talk_9 (Or.inl rfl) ?_
    exact ⟨by omega, by rw [if_pos (by omega)]⟩
theorem x_as {S : Mem} {p k : Int} (hp : rng p) (hk : rng k) (h9 : 0 ≤ S 10 9 ∧ S 10 9 ≤ 4) (hkd : ∀ p, 0 ≤ p → p < S 10 9 → 0 ≤ S 15 p ∧ S 15 p ≤ 2) : AMi 1 yX6_as cX6_as 3 (some .int) [.inr (.inr 0), .inl p, .inl k] S (fun z S' => z = (if p < 0 ∨ S 10 9 ≤ p then -1 else if k < 0 ∨ 3 ≤ k then -2 else if S 15 p < k then -12 else 1) ∧ S' = st2 S 0 8 (if p < 0 ∨ S 10 9 ≤ p then 0 else if k < 0 ∨ 3 ≤ k then 0 else if S 15 p < k then 2 else 0)) := by
  refine ami_intro (L := [_, _, _]) (by decide) (Or.inl rfl) rfl (Nat.le_of_ble_eq_true rfl) (fun X C hret => ?_)
  refine aw_aldn (n := 1) C dX6_as_0 rfl rfl ?_
  refine aw_iconst (n := 2) C dX6_as_1 rfl ?_
  refine aw_put (z := 8) (n := 5) C dX6_as_2 rfl fp_X6_59 rfl rfl rfl (Or.inl rfl) ?_
  refine aw_aldn (n := 6) C dX6_as_5 rfl rfl ?_
  refine aw_ildn (n := 7) C dX6_as_6 rfl rfl ?_
  refine aw_cVi (n := 10) (vs := [_]) C dX6_as_7 rfl rfl rfl mm_X6_noPassenger wM_X6_96 rfl rfl (Nat.le_of_ble_eq_true rfl) (c_noPassenger (S := st2 S 0 8 0) hp (show rng (S 10 9) by omega)) (by decide) (fun z_7 S_7 q_7 => ?_)
  rw [q_7.1, q_7.2]
  clear q_7 S_7 z_7
  rw [show st2 S 0 8 0 10 9 = S 10 9 from rfl]
  refine aw_ifeq (tgt := 15) (n := 13) C dX6_as_10 rfl rfl (by omega) (fun h_10 => ?_) (fun h_10 => ?_)
  · refine aw_ildn (n := 16) C dX6_as_15 rfl rfl ?_
    refine aw_iflt (tgt := 24) (n := 19) C dX6_as_16 rfl rfl (by omega) (fun h_16 => ?_) (fun h_16 => ?_)
    · refine aw_bipush (n := 26) C dX6_as_24 rfl rfl ?_
      refine hret 26 _ _ _ dX6_as_26 (Or.inl rfl) ?_
      exact ⟨by omega, by rw [if_neg (by omega), if_pos (by omega)]⟩
    · refine aw_ildn (n := 20) C dX6_as_19 rfl rfl ?_
      refine aw_iconst (n := 21) C dX6_as_20 rfl ?_
      refine aw_iclt (tgt := 27) (n := 24) C dX6_as_21 rfl rfl (by omega) (by omega) (fun h_21 => ?_) (fun h_21 => ?_)
      · refine aw_aldn (n := 28) C dX6_as_27 rfl rfl ?_
        refine aw_getR (n := 31) C dX6_as_28 rfl fl_X6_21 rfl rfl ?_
        refine aw_getR (n := 34) C dX6_as_31 rfl fl_X6_99 rfl rfl ?_
        refine aw_ildn (n := 35) C dX6_as_34 rfl rfl ?_
        refine aw_iald (n := 36) C dX6_as_35 rfl rfl (by omega) (by omega) ?_
        refine aw_ildn (n := 37) C dX6_as_36 rfl rfl ?_
        have hkp := hkd p (by omega) (by omega)
        rw [show st2 S 0 8 0 15 p = S 15 p from rfl]
        refine aw_icge (tgt := 48) (n := 40) C dX6_as_37 rfl rfl (by omega) (by omega) (fun h_37 => ?_) (fun h_37 => ?_)
        · refine aw_iconst (n := 49) C dX6_as_48 rfl ?_
          refine hret 49 _ _ _ dX6_as_49 (Or.inl rfl) ?_
          first | exact ⟨by omega, by rw [if_neg (by omega), if_neg (by omega), if_pos (by omega), st2_st2]⟩ | exact ⟨by omega, by rw [if_neg (by omega), if_neg (by omega), if_neg (by omega)]⟩
        · refine aw_aldn (n := 41) C dX6_as_40 rfl rfl ?_
          refine aw_iconst (n := 42) C dX6_as_41 rfl ?_
          refine aw_cVi (n := 45) (vs := [_]) C dX6_as_42 rfl rfl rfl mm_X6_comeTo wM_X6_226 rfl rfl (Nat.le_of_ble_eq_true rfl) (c_comeTo) (by decide) (fun z_42 S_42 q_42 => ?_)
          rw [q_42.1, q_42.2]
          clear q_42 S_42 z_42
          refine aw_goto (tgt := 49) C dX6_as_45 rfl ?_
          refine hret 49 _ _ _ dX6_as_49 (Or.inl rfl) ?_
          first | exact ⟨by omega, by rw [if_neg (by omega), if_neg (by omega), if_pos (by omega), st2_st2]⟩ | exact ⟨by omega, by rw [if_neg (by omega), if_neg (by omega), if_neg (by omega)]⟩
      · refine aw_bipush (n := 26) C dX6_as_24 rfl rfl ?_
        refine hret 26 _ _ _ dX6_as_26 (Or.inl rfl) ?_
        exact ⟨by omega, by rw [if_neg (by omega), if_pos (by omega)]⟩
  · refine aw_iconst (n := 14) C dX6_as_13 rfl ?_
    refine hret 14 _ _ _ dX6_as_14 (Or.inl rfl) ?_
    exact ⟨by omega, by rw [if_pos (by omega)]⟩
theorem x_lose {S : Mem} {k : Int} (hk : rng k) (h : ∀ j : Nat, j < 4 → rng (S (2 + j) 1)) : AMi 1 yX6_lose cX6_lose 3 (some .int) [.inr (.inr 0), .inl k] S (fun z S' => z = (if k < 0 ∨ 4 ≤ k then -1 else if S (2 + k.toNat) 1 = -1 then 0 else 1) ∧ S' = (if k < 0 ∨ 4 ≤ k then S else st2 S (2 + k.toNat) 1 (-1))) := by
  refine ami_intro (L := [_, _, none]) (by decide) (Or.inl rfl) rfl (Nat.le_of_ble_eq_true rfl) (fun X C hret => ?_)
  refine aw_ildn (n := 1) C dX6_lose_0 rfl rfl ?_
  refine aw_cSi (n := 4) (vs := [_]) C dX6_lose_1 rfl rfl rfl mm_X6_noSheet wM_X6_62 (Nat.le_of_ble_eq_true rfl) (c_noSheet hk) (by decide) (fun z_1 S_1 q_1 => ?_)
  rw [q_1.1, q_1.2]
  clear q_1 S_1 z_1
  refine aw_ifeq (tgt := 9) (n := 7) C dX6_lose_4 rfl rfl (by omega) (fun h_4 => ?_) (fun h_4 => ?_)
  · obtain ⟨j, rfl⟩ : ∃ j : Nat, k = j := ⟨k.toNat, by omega⟩
    have hj : j < 4 := by omega
    have hj1 := h j hj
    refine aw_aldn (n := 10) C dX6_lose_9 rfl rfl ?_
    refine aw_getR (n := 13) C dX6_lose_10 rfl fl_X6_13 rfl rfl ?_
    refine aw_ildn (n := 14) C dX6_lose_13 rfl rfl ?_
    refine aw_aald (j := j) (n := 15) C dX6_lose_14 rfl rfl (by decide) rfl (by omega) (se hj) ?_
    refine aw_cVi (n := 18) (vs := []) C dX6_lose_15 rfl rfl rfl mm_X3_hasNothing wM_X6_233 (ss hj) rfl (Nat.le_of_ble_eq_true rfl) (c_hasNothing hj hj1) (by decide) (fun z_15 S_15 q_15 => ?_)
    rw [q_15.1, q_15.2]
    clear q_15 S_15 z_15
    refine aw_ifeq (tgt := 25) (n := 21) C dX6_lose_18 rfl rfl (by omega) (fun h_18 => ?_) (fun h_18 => ?_)
    · refine aw_iconst (n := 26) C dX6_lose_25 rfl ?_
      refine aw_istn (n := 27) (L' := [_, _, _]) C dX6_lose_26 rfl (by decide) rfl rfl ?_
      refine aw_aldn (n := 28) C dX6_lose_27 rfl rfl ?_
      refine aw_getR (n := 31) C dX6_lose_28 rfl fl_X6_13 rfl rfl ?_
      refine aw_ildn (n := 32) C dX6_lose_31 rfl rfl ?_
      refine aw_aald (j := j) (n := 33) C dX6_lose_32 rfl rfl (by decide) rfl (by omega) (se hj) ?_
      refine aw_iconst (n := 34) C dX6_lose_33 rfl ?_
      refine aw_put (z := 1) (n := 37) C dX6_lose_34 rfl fp_X6_236 (ss hj) (ss1 hj) rfl (Or.inl rfl) ?_
      refine aw_ildn (n := 38) C dX6_lose_37 rfl rfl ?_
      refine hret 38 _ _ _ dX6_lose_38 (Or.inl rfl) ?_
      exact ⟨by rw [Int.toNat_natCast]; omega, by rw [if_neg (by omega), Int.toNat_natCast]⟩
    · refine aw_iconst (n := 22) C dX6_lose_21 rfl ?_
      refine aw_goto (tgt := 26) C dX6_lose_22 rfl ?_
      refine aw_istn (n := 27) (L' := [_, _, _]) C dX6_lose_26 rfl (by decide) rfl rfl ?_
      refine aw_aldn (n := 28) C dX6_lose_27 rfl rfl ?_
      refine aw_getR (n := 31) C dX6_lose_28 rfl fl_X6_13 rfl rfl ?_
      refine aw_ildn (n := 32) C dX6_lose_31 rfl rfl ?_
      refine aw_aald (j := j) (n := 33) C dX6_lose_32 rfl rfl (by decide) rfl (by omega) (se hj) ?_
      refine aw_iconst (n := 34) C dX6_lose_33 rfl ?_
      refine aw_put (z := 1) (n := 37) C dX6_lose_34 rfl fp_X6_236 (ss hj) (ss1 hj) rfl (Or.inl rfl) ?_
      refine aw_ildn (n := 38) C dX6_lose_37 rfl rfl ?_
      refine hret 38 _ _ _ dX6_lose_38 (Or.inl rfl) ?_
      exact ⟨by rw [Int.toNat_natCast]; omega, by rw [if_neg (by omega), Int.toNat_natCast]⟩
  · refine aw_iconst (n := 8) C dX6_lose_7 rfl ?_
    refine hret 8 _ _ _ dX6_lose_8 (Or.inl rfl) ?_
    exact ⟨by omega, by rw [if_pos (by omega)]⟩
theorem x_sheet {S : Mem} {k t n : Int} (hk : rng k) (ht : rng t) (hn : rng n) : AMi 2 yX6_sheet cX6_sheet 4 (some .int) [.inr (.inr 0), .inl k, .inl t, .inl n] S (fun z S' => z = (if k < 0 ∨ 4 ≤ k then -1 else if t < 0 ∨ 3 ≤ t ∨ 60 < n then -2 else if n < 0 then -14 else 1) ∧ S' = (if k < 0 ∨ 4 ≤ k ∨ t < 0 ∨ 3 ≤ t ∨ 60 < n then st2 S 0 8 0 else if n < 0 then st2 S 0 8 4 else fl2 (st2 (st2 (st2 S 0 8 0) (2 + k.toNat) 1 t) (2 + k.toNat) 2 n) (6 + k.toNat) 60 0)) := by
  refine ami_intro (L := [_, _, _, _]) (by decide) (Or.inl rfl) rfl (Nat.le_of_ble_eq_true rfl) (fun X C hret => ?_)
  refine aw_aldn (n := 1) C dX6_sheet_0 rfl rfl ?_
  refine aw_iconst (n := 2) C dX6_sheet_1 rfl ?_
  refine aw_put (z := 8) (n := 5) C dX6_sheet_2 rfl fp_X6_59 rfl rfl rfl (Or.inl rfl) ?_
  refine aw_ildn (n := 6) C dX6_sheet_5 rfl rfl ?_
  refine aw_cSi (n := 9) (vs := [_]) C dX6_sheet_6 rfl rfl rfl mm_X6_noSheet wM_X6_62 (Nat.le_of_ble_eq_true rfl) (c_noSheet hk) (by decide) (fun z_6 S_6 q_6 => ?_)
  rw [q_6.1, q_6.2]
  clear q_6 S_6 z_6
  refine aw_ifeq (tgt := 14) (n := 12) C dX6_sheet_9 rfl rfl (by omega) (fun h_9 => ?_) (fun h_9 => ?_)
  · refine aw_ildn (n := 15) C dX6_sheet_14 rfl rfl ?_
    refine aw_cSi (n := 18) (vs := [_]) C dX6_sheet_15 rfl rfl rfl mm_X6_noLane wM_X6_66 (Nat.le_of_ble_eq_true rfl) (c_noLane ht) (by decide) (fun z_15 S_15 q_15 => ?_)
    rw [q_15.1, q_15.2]
    clear q_15 S_15 z_15
    refine aw_ifne (tgt := 27) (n := 21) C dX6_sheet_18 rfl rfl (by omega) (fun h_18 => ?_) (fun h_18 => ?_)
    · refine aw_bipush (n := 29) C dX6_sheet_27 rfl rfl ?_
      refine hret 29 _ _ _ dX6_sheet_29 (Or.inl rfl) ?_
      exact ⟨by omega, by rw [if_pos (by omega)]⟩
    · refine aw_ildn (n := 22) C dX6_sheet_21 rfl rfl ?_
      refine aw_bipush (n := 24) C dX6_sheet_22 rfl rfl ?_
      refine aw_icle (tgt := 30) (n := 27) C dX6_sheet_24 rfl rfl (by omega) (by omega) (fun h_24 => ?_) (fun h_24 => ?_)
      · refine aw_ildn (n := 31) C dX6_sheet_30 rfl rfl ?_
        refine aw_ifge (tgt := 40) (n := 34) C dX6_sheet_31 rfl rfl (by omega) (fun h_31 => ?_) (fun h_31 => ?_)
        · obtain ⟨j, rfl⟩ : ∃ j : Nat, k = j := ⟨k.toNat, by omega⟩
          have hj : j < 4 := by omega
          refine aw_aldn (n := 41) C dX6_sheet_40 rfl rfl ?_
          refine aw_getR (n := 44) C dX6_sheet_41 rfl fl_X6_13 rfl rfl ?_
          refine aw_ildn (n := 45) C dX6_sheet_44 rfl rfl ?_
          refine aw_aald (j := j) (n := 46) C dX6_sheet_45 rfl rfl (by decide) rfl (by omega) (se hj) ?_
          refine aw_ildn (n := 47) C dX6_sheet_46 rfl rfl ?_
          refine aw_ildn (n := 48) C dX6_sheet_47 rfl rfl ?_
          refine aw_cVv (n := 51) (vs := [_, _]) C dX6_sheet_48 rfl rfl rfl mm_X3_renew wM_X6_229 (ss hj) rfl (Nat.le_of_ble_eq_true rfl) (c_renew hj) (by decide) (fun S_48 q_48 => ?_)
          rw [q_48]
          clear q_48 S_48
          refine aw_iconst (n := 52) C dX6_sheet_51 rfl ?_
          refine hret 52 _ _ _ dX6_sheet_52 (Or.inl rfl) ?_
          exact ⟨by omega, by rw [if_neg (by omega), if_neg (by omega), Int.toNat_natCast]⟩
        · refine aw_aldn (n := 35) C dX6_sheet_34 rfl rfl ?_
          refine aw_iconst (n := 36) C dX6_sheet_35 rfl ?_
          refine aw_cVi (n := 39) (vs := [_]) C dX6_sheet_36 rfl rfl rfl mm_X6_comeTo wM_X6_226 rfl rfl (Nat.le_of_ble_eq_true rfl) (c_comeTo) (by decide) (fun z_36 S_36 q_36 => ?_)
          rw [q_36.1, q_36.2]
          clear q_36 S_36 z_36
          refine hret 39 _ _ _ dX6_sheet_39 (Or.inl rfl) ?_
          exact ⟨by omega, by rw [if_neg (by omega), if_pos (by omega), st2_st2]⟩
      · refine aw_bipush (n := 29) C dX6_sheet_27 rfl rfl ?_
        refine hret 29 _ _ _ dX6_sheet_29 (Or.inl rfl) ?_
        exact ⟨by omega, by rw [if_pos (by omega)]⟩
  · refine aw_iconst (n := 13) C dX6_sheet_12 rfl ?_
    refine hret 13 _ _ _ dX6_sheet_13 (Or.inl rfl) ?_
    exact ⟨by omega, by rw [if_pos (by omega)]⟩
/-- what a cell of a lane becomes -/
def cutL (l v : Int) : Int := if l = 0 then cutB v else if l = 1 then cutS v else v
theorem x_put {S : Mem} {k i v : Int} (hk : rng k) (hi : rng i) (hv : rng v) (h : ∀ j : Nat, j < 4 → rng (S (2 + j) 1) ∧ 0 ≤ S (2 + j) 2 ∧ S (2 + j) 2 ≤ 60) : AMi 1 yX6_put cX6_put 5 (some .int) [.inr (.inr 0), .inl k, .inl i, .inl v] S (fun z S' => z = (if k < 0 ∨ 4 ≤ k then -1 else if S (2 + k.toNat) 1 = -1 then -11 else if i < 0 ∨ S (2 + k.toNat) 2 ≤ i then -13 else 1) ∧ S' = (if k < 0 ∨ 4 ≤ k then st2 S 0 8 0 else if S (2 + k.toNat) 1 = -1 then st2 S 0 8 1 else if i < 0 ∨ S (2 + k.toNat) 2 ≤ i then st2 S 0 8 3 else st2 (st2 S 0 8 0) (6 + k.toNat) i (cutL (S (2 + k.toNat) 1) v))) := by
  refine ami_intro (L := [_, _, _, _, none]) (by decide) (Or.inl rfl) rfl (Nat.le_of_ble_eq_true rfl) (fun X C hret => ?_)
  refine aw_aldn (n := 1) C dX6_put_0 rfl rfl ?_
  refine aw_iconst (n := 2) C dX6_put_1 rfl ?_
  refine aw_put (z := 8) (n := 5) C dX6_put_2 rfl fp_X6_59 rfl rfl rfl (Or.inl rfl) ?_
  refine aw_ildn (n := 6) C dX6_put_5 rfl rfl ?_
  refine aw_cSi (n := 9) (vs := [_]) C dX6_put_6 rfl rfl rfl mm_X6_noSheet wM_X6_62 (Nat.le_of_ble_eq_true rfl) (c_noSheet hk) (by decide) (fun z_6 S_6 q_6 => ?_)
  rw [q_6.1, q_6.2]
  clear q_6 S_6 z_6
  refine aw_ifeq (tgt := 14) (n := 12) C dX6_put_9 rfl rfl (by omega) (fun h_9 => ?_) (fun h_9 => ?_)
  · obtain ⟨j, rfl⟩ : ∃ j : Nat, k = j := ⟨k.toNat, by omega⟩
    have hj : j < 4 := by omega
    have hj1 := h j hj
    have e1 : st2 S 0 8 0 (2 + j) 1 = S (2 + j) 1 := st2_c (by omega)
    have e2 : st2 S 0 8 0 (2 + j) 2 = S (2 + j) 2 := st2_c (by omega)
    refine aw_aldn (n := 15) C dX6_put_14 rfl rfl ?_
    refine aw_getR (n := 18) C dX6_put_15 rfl fl_X6_13 rfl rfl ?_
    refine aw_ildn (n := 19) C dX6_put_18 rfl rfl ?_
    refine aw_aald (j := j) (n := 20) C dX6_put_19 rfl rfl (by decide) rfl (by omega) (se hj) ?_
    refine aw_astw (n := 22) (L' := [_, _, _, _, _]) C dX6_put_20 rfl (by decide) rfl rfl ?_
    refine aw_aldw (n := 24) C dX6_put_22 rfl rfl ?_
    refine aw_cVi (n := 27) (vs := []) C dX6_put_24 rfl rfl rfl mm_X3_hasNothing wM_X6_233 (ss hj) rfl (Nat.le_of_ble_eq_true rfl) (c_hasNothing hj (by rw [e1]; exact hj1.1)) (by decide) (fun z_24 S_24 q_24 => ?_)
    rw [q_24.1, q_24.2]
    clear q_24 S_24 z_24
    refine aw_ifeq (tgt := 36) (n := 30) C dX6_put_27 rfl rfl (by omega) (fun h_27 => ?_) (fun h_27 => ?_)
    · refine aw_aldw (n := 38) C dX6_put_36 rfl rfl ?_
      refine aw_ildn (n := 39) C dX6_put_38 rfl rfl ?_
      refine aw_cVi (n := 42) (vs := [_]) C dX6_put_39 rfl rfl rfl mm_X3_noCell wM_X6_239 (ss hj) rfl (Nat.le_of_ble_eq_true rfl) (c_noCell hj hi (by rw [e2]; omega)) (by decide) (fun z_39 S_39 q_39 => ?_)
      rw [q_39.1, q_39.2]
      clear q_39 S_39 z_39
      refine aw_ifeq (tgt := 51) (n := 45) C dX6_put_42 rfl rfl (by omega) (fun h_42 => ?_) (fun h_42 => ?_)
      · refine aw_aldw (n := 53) C dX6_put_51 rfl rfl ?_
        refine aw_getR (n := 56) C dX6_put_53 rfl fl_X6_73 (ss hj) (ss0 hj) ?_
        refine aw_ildn (n := 57) C dX6_put_56 rfl rfl ?_
        refine aw_aldw (n := 59) C dX6_put_57 rfl rfl ?_
        refine aw_ildn (n := 60) C dX6_put_59 rfl rfl ?_
        refine aw_cVi (n := 63) (vs := [_]) C dX6_put_60 rfl rfl rfl mm_X3_cut wM_X6_242 (ss hj) rfl (Nat.le_of_ble_eq_true rfl) (c_cut hj (by rw [e1]; exact hj1.1)) (by decide) (fun z_60 S_60 q_60 => ?_)
        rw [q_60.1, q_60.2]
        clear q_60 S_60 z_60
        rw [e1, show (if S (2 + j) 1 = 0 then cutB v else if S (2 + j) 1 = 1 then cutS v else v) = cutL (S (2 + j) 1) v from rfl]
        refine aw_iast (n := 64) C dX6_put_63 rfl (sc hj) (by omega) (by omega) ?_
        refine aw_iconst (n := 65) C dX6_put_64 rfl ?_
        refine hret 65 _ _ _ dX6_put_65 (Or.inl rfl) ?_
        exact ⟨by rw [Int.toNat_natCast]; omega, by rw [if_neg (by omega), if_neg (by rw [Int.toNat_natCast]; omega), if_neg (by rw [Int.toNat_natCast]; omega), Int.toNat_natCast]⟩
      · refine aw_aldn (n := 46) C dX6_put_45 rfl rfl ?_
        refine aw_iconst (n := 47) C dX6_put_46 rfl ?_
        refine aw_cVi (n := 50) (vs := [_]) C dX6_put_47 rfl rfl rfl mm_X6_comeTo wM_X6_226 rfl rfl (Nat.le_of_ble_eq_true rfl) (c_comeTo) (by decide) (fun z_47 S_47 q_47 => ?_)
        rw [q_47.1, q_47.2]
        clear q_47 S_47 z_47
        refine hret 50 _ _ _ dX6_put_50 (Or.inl rfl) ?_
        exact ⟨by rw [Int.toNat_natCast]; omega, by rw [if_neg (by omega), if_neg (by rw [Int.toNat_natCast]; omega), if_pos (by rw [Int.toNat_natCast]; omega), st2_st2]⟩
    · refine aw_aldn (n := 31) C dX6_put_30 rfl rfl ?_
      refine aw_iconst (n := 32) C dX6_put_31 rfl ?_
      refine aw_cVi (n := 35) (vs := [_]) C dX6_put_32 rfl rfl rfl mm_X6_comeTo wM_X6_226 rfl rfl (Nat.le_of_ble_eq_true rfl) (c_comeTo) (by decide) (fun z_32 S_32 q_32 => ?_)
      rw [q_32.1, q_32.2]
      clear q_32 S_32 z_32
      refine hret 35 _ _ _ dX6_put_35 (Or.inl rfl) ?_
      exact ⟨by rw [Int.toNat_natCast]; omega, by rw [if_neg (by omega), if_pos (by rw [Int.toNat_natCast]; omega), st2_st2]⟩
  · refine aw_iconst (n := 13) C dX6_put_12 rfl ?_
    refine hret 13 _ _ _ dX6_put_13 (Or.inl rfl) ?_
    exact ⟨by omega, by rw [if_pos (by omega)]⟩
/-- the fault of cell, of cells -/
def fCl (l sz t i : Int) : Int := if l = -1 then 1 else if l = t then (if i < 0 ∨ sz ≤ i then 3 else 0) else 2
def fCs (l sz t i n : Int) : Int := if l = -1 then 1 else if l = t then (if n < 0 then 4 else if i < 0 ∨ sz < i ∨ sz - i < n then 3 else 0) else 2
theorem x_cell {S : Mem} {k i t : Int} (hk : rng k) (hi : rng i) (ht : rng t) (h : ∀ j : Nat, j < 4 → rng (S (2 + j) 1) ∧ 0 ≤ S (2 + j) 2 ∧ S (2 + j) 2 ≤ 60) (hc : ∀ (j : Nat) x, j < 4 → rng (S (6 + j) x)) : AMl 2 yX6_cell cX6_cell 5 (some .long) [.inr (.inr 0), .inl k, .inl i, .inl t] S (fun z S' => z = (if k < 0 ∨ 4 ≤ k ∨ t < 0 ∨ 3 ≤ t ∨ fCl (S (2 + k.toNat) 1) (S (2 + k.toNat) 2) t i ≠ 0 then -9223372036854775808 else S (6 + k.toNat) i) ∧ S' = st2 S 0 8 (if k < 0 ∨ 4 ≤ k ∨ t < 0 ∨ 3 ≤ t then 0 else fCl (S (2 + k.toNat) 1) (S (2 + k.toNat) 2) t i)) := by
  refine aml_intro (L := [_, _, _, _, none]) (by decide) rfl (Nat.le_of_ble_eq_true rfl) (fun X C hret => ?_)
  refine aw_aldn (n := 1) C dX6_cell_0 rfl rfl ?_
  refine aw_iconst (n := 2) C dX6_cell_1 rfl ?_
  refine aw_put (z := 8) (n := 5) C dX6_cell_2 rfl fp_X6_59 rfl rfl rfl (Or.inl rfl) ?_
  refine aw_ildn (n := 6) C dX6_cell_5 rfl rfl ?_
  refine aw_cSi (n := 9) (vs := [_]) C dX6_cell_6 rfl rfl rfl mm_X6_noSheet wM_X6_62 (Nat.le_of_ble_eq_true rfl) (c_noSheet hk) (by decide) (fun z_6 S_6 q_6 => ?_)
  rw [q_6.1, q_6.2]
  clear q_6 S_6 z_6
  refine aw_ifne (tgt := 19) (n := 12) C dX6_cell_9 rfl rfl (by omega) (fun h_9 => ?_) (fun h_9 => ?_)
  · refine aw_ldc2 (z := -9223372036854775808) (n := 22) C dX6_cell_19 rfl wL_X6_218 (by decide) ?_
    refine hret 22 _ _ _ dX6_cell_22 ?_
    exact ⟨by rw [if_pos (by omega)], by rw [if_pos (by omega)]⟩
  · refine aw_ildn (n := 13) C dX6_cell_12 rfl rfl ?_
    refine aw_cSi (n := 16) (vs := [_]) C dX6_cell_13 rfl rfl rfl mm_X6_noLane wM_X6_66 (Nat.le_of_ble_eq_true rfl) (c_noLane ht) (by decide) (fun z_13 S_13 q_13 => ?_)
    rw [q_13.1, q_13.2]
    clear q_13 S_13 z_13
    refine aw_ifeq (tgt := 23) (n := 19) C dX6_cell_16 rfl rfl (by omega) (fun h_16 => ?_) (fun h_16 => ?_)
    · obtain ⟨j, rfl⟩ : ∃ j : Nat, k = j := ⟨k.toNat, by omega⟩
      have hj : j < 4 := by omega
      have hj1 := h j hj
      have e1 : st2 S 0 8 0 (2 + j) 1 = S (2 + j) 1 := st2_c (by omega)
      refine aw_aldn (n := 24) C dX6_cell_23 rfl rfl ?_
      refine aw_getR (n := 27) C dX6_cell_24 rfl fl_X6_13 rfl rfl ?_
      refine aw_ildn (n := 28) C dX6_cell_27 rfl rfl ?_
      refine aw_aald (j := j) (n := 29) C dX6_cell_28 rfl rfl (by decide) rfl (by omega) (se hj) ?_
      refine aw_astw (n := 31) (L' := [_, _, _, _, _]) C dX6_cell_29 rfl (by decide) rfl rfl ?_
      refine aw_aldn (n := 32) C dX6_cell_31 rfl rfl ?_
      refine aw_aldw (n := 34) C dX6_cell_32 rfl rfl ?_
      refine aw_ildn (n := 35) C dX6_cell_34 rfl rfl ?_
      refine aw_cVi (n := 38) (vs := [_]) C dX6_cell_35 rfl rfl rfl mm_X3_faultOfRow wM_X6_245 (ss hj) rfl (Nat.le_of_ble_eq_true rfl) (c_faultOfRow hj ht (by rw [e1]; exact hj1.1)) (by decide) (fun z_35 S_35 q_35 => ?_)
      rw [q_35.1, q_35.2]
      clear q_35 S_35 z_35
      rw [e1]
      refine aw_put (z := 8) (n := 41) C dX6_cell_38 rfl fp_X6_59 rfl rfl rfl (Or.inl rfl) ?_
      rw [st2_st2]
      obtain ⟨F, hF⟩ : ∃ F : Int, F = (if S (2 + j) 1 = -1 then 1 else if S (2 + j) 1 = t then 0 else 2) := ⟨_, rfl⟩
      rw [← hF]
      have e2 : st2 S 0 8 F (2 + j) 2 = S (2 + j) 2 := st2_c (by omega)
      have e3 : st2 S 0 8 F (6 + j) i = S (6 + j) i := st2_c (by omega)
      refine aw_aldn (n := 42) C dX6_cell_41 rfl rfl ?_
      refine aw_getI (z := 8) (n := 45) C dX6_cell_42 rfl fl_X6_59 rfl rfl rfl ?_
      rw [st2_s]
      refine aw_ifne (tgt := 62) (n := 48) C dX6_cell_45 rfl rfl (by omega) (fun h_45 => ?_) (fun h_45 => ?_)
      · try rw [st2_st2]
        refine aw_aldn (n := 63) C dX6_cell_62 rfl rfl ?_
        refine aw_getI (z := 8) (n := 66) C dX6_cell_63 rfl fl_X6_59 rfl rfl rfl ?_
        rw [st2_s]
        refine aw_ifne (tgt := 80) (n := 69) C dX6_cell_66 rfl rfl (by omega) (fun h_66 => ?_) (fun h_66 => ?_)
        · refine aw_ldc2 (z := -9223372036854775808) (n := 83) C dX6_cell_80 rfl wL_X6_218 (by decide) ?_
          refine hret 83 _ _ _ dX6_cell_83 ?_
          unfold fCl
          rw [Int.toNat_natCast]
          first | (exfalso; omega) | exact ⟨by rw [if_neg (by omega)], by rw [if_neg (by omega)]; congr 1; omega⟩ | exact ⟨by rw [if_pos (by omega)], by rw [if_neg (by omega)]; congr 1; omega⟩
        · refine aw_aldw (n := 71) C dX6_cell_69 rfl rfl ?_
          refine aw_getR (n := 74) C dX6_cell_71 rfl fl_X6_73 (ss hj) (ss0 hj) ?_
          refine aw_ildn (n := 75) C dX6_cell_74 rfl rfl ?_
          refine aw_iald (n := 76) C dX6_cell_75 rfl (sc hj) (by omega) (by omega) ?_
          rw [st2_c (show 6 + j ≠ 0 by omega)]
          refine aw_i2l (n := 77) C dX6_cell_76 rfl (hc j i hj) ?_
          refine aw_goto (tgt := 83) C dX6_cell_77 rfl ?_
          refine hret 83 _ _ _ dX6_cell_83 ?_
          unfold fCl
          rw [Int.toNat_natCast]
          first | (exfalso; omega) | exact ⟨by rw [if_neg (by omega)], by rw [if_neg (by omega)]; congr 1; omega⟩ | exact ⟨by rw [if_pos (by omega)], by rw [if_neg (by omega)]; congr 1; omega⟩
      · refine aw_aldw (n := 50) C dX6_cell_48 rfl rfl ?_
        refine aw_ildn (n := 51) C dX6_cell_50 rfl rfl ?_
        refine aw_cVi (n := 54) (vs := [_]) C dX6_cell_51 rfl rfl rfl mm_X3_noCell wM_X6_239 (ss hj) rfl (Nat.le_of_ble_eq_true rfl) (c_noCell hj hi (by rw [e2]; omega)) (by decide) (fun z_51 S_51 q_51 => ?_)
        rw [q_51.1, q_51.2]
        clear q_51 S_51 z_51
        rw [e2]
        refine aw_ifeq (tgt := 62) (n := 57) C dX6_cell_54 rfl rfl (by omega) (fun h_54 => ?_) (fun h_54 => ?_)
        · try rw [st2_st2]
          refine aw_aldn (n := 63) C dX6_cell_62 rfl rfl ?_
          refine aw_getI (z := 8) (n := 66) C dX6_cell_63 rfl fl_X6_59 rfl rfl rfl ?_
          rw [st2_s]
          refine aw_ifne (tgt := 80) (n := 69) C dX6_cell_66 rfl rfl (by omega) (fun h_66 => ?_) (fun h_66 => ?_)
          · refine aw_ldc2 (z := -9223372036854775808) (n := 83) C dX6_cell_80 rfl wL_X6_218 (by decide) ?_
            refine hret 83 _ _ _ dX6_cell_83 ?_
            unfold fCl
            rw [Int.toNat_natCast]
            first | (exfalso; omega) | exact ⟨by rw [if_neg (by omega)], by rw [if_neg (by omega)]; congr 1; omega⟩ | exact ⟨by rw [if_pos (by omega)], by rw [if_neg (by omega)]; congr 1; omega⟩
          · refine aw_aldw (n := 71) C dX6_cell_69 rfl rfl ?_
            refine aw_getR (n := 74) C dX6_cell_71 rfl fl_X6_73 (ss hj) (ss0 hj) ?_
            refine aw_ildn (n := 75) C dX6_cell_74 rfl rfl ?_
            refine aw_iald (n := 76) C dX6_cell_75 rfl (sc hj) (by omega) (by omega) ?_
            rw [st2_c (show 6 + j ≠ 0 by omega)]
            refine aw_i2l (n := 77) C dX6_cell_76 rfl (hc j i hj) ?_
            refine aw_goto (tgt := 83) C dX6_cell_77 rfl ?_
            refine hret 83 _ _ _ dX6_cell_83 ?_
            unfold fCl
            rw [Int.toNat_natCast]
            first | (exfalso; omega) | exact ⟨by rw [if_neg (by omega)], by rw [if_neg (by omega)]; congr 1; omega⟩ | exact ⟨by rw [if_pos (by omega)], by rw [if_neg (by omega)]; congr 1; omega⟩
        · refine aw_aldn (n := 58) C dX6_cell_57 rfl rfl ?_
          refine aw_iconst (n := 59) C dX6_cell_58 rfl ?_
          refine aw_put (z := 8) (n := 62) C dX6_cell_59 rfl fp_X6_59 rfl rfl rfl (Or.inl rfl) ?_
          try rw [st2_st2]
          refine aw_aldn (n := 63) C dX6_cell_62 rfl rfl ?_
          refine aw_getI (z := 8) (n := 66) C dX6_cell_63 rfl fl_X6_59 rfl rfl rfl ?_
          rw [st2_s]
          refine aw_ifne (tgt := 80) (n := 69) C dX6_cell_66 rfl rfl (by omega) (fun h_66 => ?_) (fun h_66 => ?_)
          · refine aw_ldc2 (z := -9223372036854775808) (n := 83) C dX6_cell_80 rfl wL_X6_218 (by decide) ?_
            refine hret 83 _ _ _ dX6_cell_83 ?_
            unfold fCl
            rw [Int.toNat_natCast]
            first | (exfalso; omega) | exact ⟨by rw [if_neg (by omega)], by rw [if_neg (by omega)]; congr 1; omega⟩ | exact ⟨by rw [if_pos (by omega)], by rw [if_neg (by omega)]; congr 1; omega⟩
          · refine aw_aldw (n := 71) C dX6_cell_69 rfl rfl ?_
            refine aw_getR (n := 74) C dX6_cell_71 rfl fl_X6_73 (ss hj) (ss0 hj) ?_
            refine aw_ildn (n := 75) C dX6_cell_74 rfl rfl ?_
            refine aw_iald (n := 76) C dX6_cell_75 rfl (sc hj) (by omega) (by omega) ?_
            rw [st2_c (show 6 + j ≠ 0 by omega)]
            refine aw_i2l (n := 77) C dX6_cell_76 rfl (hc j i hj) ?_
            refine aw_goto (tgt := 83) C dX6_cell_77 rfl ?_
            refine hret 83 _ _ _ dX6_cell_83 ?_
            unfold fCl
            rw [Int.toNat_natCast]
            first | (exfalso; omega) | exact ⟨by rw [if_neg (by omega)], by rw [if_neg (by omega)]; congr 1; omega⟩ | exact ⟨by rw [if_pos (by omega)], by rw [if_neg (by omega)]; congr 1; omega⟩
    · refine aw_ldc2 (z := -9223372036854775808) (n := 22) C dX6_cell_19 rfl wL_X6_218 (by decide) ?_
      refine hret 22 _ _ _ dX6_cell_22 ?_
      exact ⟨by rw [if_pos (by omega)], by rw [if_pos (by omega)]⟩
