/-! RegretLine: help; what the readings tell -/
def fu (f : Fn) (i v : Int) : Fn := fun x => if x = i then v else f x
theorem fu_s (f : Fn) (i v : Int) : fu f i v i = v := if_pos rfl
theorem fu_n {f : Fn} {i v x : Int} (h : x ≠ i) : fu f i v x = f x := if_neg h
/-- the line's rows are its regrets -/
def CG (S : Mem) : Prop := ∀ m : Nat, (m : Int) ≤ S 10 8 → ∀ p, 0 ≤ p → p < S 10 9 → S (19 + m) p = rg (S 15) (S 17) (S 16) (S 12) (S 13) (S 14) m p
/-- dues of one in all miles -/
def dsm (l1 l2 : Int) (R : Nat → Fn) (M : Nat) (p : Int) : Int := sm (fun j => due l1 l2 (R j p)) M
theorem dsm_congr {l1 l2 : Int} {R R' : Nat → Fn} {M : Nat} {p : Int} (h : ∀ j, j < M → R j p = R' j p) : dsm l1 l2 R M p = dsm l1 l2 R' M p := sm_congr (fun j hj => by rw [h j hj])
theorem x_help {S : Mem} {a b m : Int} (ha : rng a) (hb : rng b) (hm : rng m) (W : XW S) (G : CG S) : AMi 4 yX6_help cX6_help 6 (some .int) [.inr (.inr 0), .inl a, .inl b, .inl m] S (fun z S' => fr 28 46 S S' ∧ z = (if a < 0 ∨ S 10 9 ≤ a ∨ b < 0 ∨ S 10 9 ≤ b ∨ a = b then -1 else if m < 0 ∨ S 10 8 ≤ m then -2 else dsm (S 10 10) (S 10 11) (rg (S 15) (S 17) (S 16) (S 12) (S 13) (S 14)) (S 10 8).toNat a + dsm (S 10 10) (S 10 11) (rg (S 15) (S 17) (S 16) (S 12) (S 13) (S 14)) (S 10 8).toNat b - (dsm (S 10 10) (S 10 11) (rg (S 15) (S 17) (S 16) (S 12) (fu (S 13) m a) (fu (S 14) m b)) (S 10 8).toNat a + dsm (S 10 10) (S 10 11) (rg (S 15) (S 17) (S 16) (S 12) (fu (S 13) m a) (fu (S 14) m b)) (S 10 8).toNat b) + 1000)) := by
  obtain ⟨T, w2, w3, w4, w5, w6⟩ := W
  obtain ⟨t1, t2, t3, t4, t5, t6⟩ := TW10 T
  refine ami_intro (L := [_, _, _, _, none, none]) (by decide) (Or.inl rfl) rfl (Nat.le_of_ble_eq_true rfl) (fun X C hret => ?_)
  refine aw_aldn (n := 1) C dX6_help_0 rfl rfl ?_
  refine aw_ildn (n := 2) C dX6_help_1 rfl rfl ?_
  refine aw_ildn (n := 3) C dX6_help_2 rfl rfl ?_
  refine aw_cVi (n := 6) (vs := [_, _]) C dX6_help_3 rfl rfl rfl mm_X6_noPair wM_X6_131 rfl rfl (Nat.le_of_ble_eq_true rfl) (c_noPair ha hb (by omega)) (by decide) (fun z_3 S_3 q_3 => ?_)
  rw [q_3.1, q_3.2]
  clear q_3 S_3 z_3
  refine aw_ifeq (tgt := 11) (n := 9) C dX6_help_6 rfl rfl (by omega) (fun h_6 => ?_) (fun h_6 => ?_)
  · refine aw_aldn (n := 12) C dX6_help_11 rfl rfl ?_
    refine aw_ildn (n := 13) C dX6_help_12 rfl rfl ?_
    refine aw_cVi (n := 16) (vs := [_]) C dX6_help_13 rfl rfl rfl mm_X6_noMile wM_X6_124 rfl rfl (Nat.le_of_ble_eq_true rfl) (c_noMile hm (by omega)) (by decide) (fun z_13 S_13 q_13 => ?_)
    rw [q_13.1, q_13.2]
    clear q_13 S_13 z_13
    refine aw_ifeq (tgt := 22) (n := 19) C dX6_help_16 rfl rfl (by omega) (fun h_16 => ?_) (fun h_16 => ?_)
    · refine aw_aldn (n := 23) C dX6_help_22 rfl rfl ?_
      refine aw_getR (n := 26) C dX6_help_23 rfl fl_X6_25 rfl rfl ?_
      refine aw_aldn (n := 27) C dX6_help_26 rfl rfl ?_
      refine aw_getR (n := 30) C dX6_help_27 rfl fl_X6_21 rfl rfl ?_
      refine aw_cVv (n := 33) (vs := [_]) C dX6_help_30 rfl rfl rfl mm_X5_becomeLike wM_X6_192 rfl rfl (Nat.le_of_ble_eq_true rfl) (c_becomeLike t1 t2 (fun m m0 m1 => (t5 m m0 m1).1)) (by decide) (fun S_30 q_30 => ?_)
      obtain ⟨⟨f1, f2, f3, f4, f5⟩, km, kp, kr⟩ := id q_30
      have T28 := LK_TW T q_30
      obtain ⟨w, rfl⟩ : ∃ w : Nat, m = w := ⟨m.toNat, by omega⟩
      refine aw_aldn (n := 34) C dX6_help_33 rfl rfl ?_
      refine aw_getR (n := 37) C dX6_help_34 rfl fl_X6_25 rfl rfl ?_
      refine aw_getR (n := 40) C dX6_help_37 rfl fl_X6_135 rfl rfl ?_
      refine aw_ildn (n := 41) C dX6_help_40 rfl rfl ?_
      refine aw_ildn (n := 42) C dX6_help_41 rfl rfl ?_
      refine aw_iast (n := 43) C dX6_help_42 rfl rfl (by omega) (by omega) ?_
      refine aw_aldn (n := 44) C dX6_help_43 rfl rfl ?_
      refine aw_getR (n := 47) C dX6_help_44 rfl fl_X6_25 rfl rfl ?_
      refine aw_getR (n := 50) C dX6_help_47 rfl fl_X6_138 rfl rfl ?_
      refine aw_ildn (n := 51) C dX6_help_50 rfl rfl ?_
      refine aw_ildn (n := 52) C dX6_help_51 rfl rfl ?_
      refine aw_iast (n := 53) C dX6_help_52 rfl rfl (by omega) (by omega) ?_
      generalize hS2 : st2 (st2 S_30 31 w a) 32 w b = S2
      have o2 : ∀ c, c ≠ 31 → c ≠ 32 → S2 c = S_30 c := fun c c1 c2 => by rw [← hS2, st2_o c c2, st2_o c c1]
      have v31 : S2 31 = fu (S_30 31) w a := by rw [← hS2, st2_o 31 (by decide)]; funext x; unfold st2 fu; by_cases e : x = (w : Int) <;> simp [e]
      have v32 : S2 32 = fu (S_30 32) w b := by rw [← hS2]; funext x; unfold st2 fu; by_cases e : x = (w : Int) <;> simp [e]
      have tk : ∀ x, 0 ≤ x → x < S 10 8 → tok (S 10 9) (fu (S 13) w a x) (fu (S 14) w b x) := fun x x0 x1 => by
        by_cases e : x = (w : Int)
        · rw [e, fu_s, fu_s]; exact Or.inr (by omega)
        · rw [fu_n e, fu_n e]; exact (t5 x x0 x1).2
      have k31 : ∀ x, 0 ≤ x → x < S 10 8 → S2 31 x = fu (S 13) w a x ∧ S2 32 x = fu (S 14) w b x := fun x x0 x1 => by
        rw [v31, v32]
        by_cases e : x = (w : Int)
        · rw [e, fu_s, fu_s, fu_s, fu_s]; exact ⟨rfl, rfl⟩
        · rw [fu_n e, fu_n e, fu_n e, fu_n e]; exact (km x x0 x1).2
      have T2 : TW 28 S2 := by
        obtain ⟨s1, s2, s3, s4, s5, s6⟩ := TW28 T28
        unfold TW
        rw [o2 28 (by decide) (by decide), o2 (28 + 2) (by decide) (by decide), o2 (28 + 5) (by decide) (by decide), o2 (28 + 6) (by decide) (by decide), o2 (28 + 7) (by decide) (by decide)]
        refine ⟨s1, s2, s3, s4, fun x x0 x1 => ⟨(s5 x x0 x1).1, ?_⟩, s6⟩
        show tok (S_30 28 9) (S2 31 x) (S2 32 x)
        rw [f2] at x1
        rw [f3, (k31 x x0 x1).1, (k31 x x0 x1).2]
        exact tk x x0 x1
      refine aw_aldn (n := 54) C dX6_help_53 rfl rfl ?_
      refine aw_getR (n := 57) C dX6_help_54 rfl fl_X6_25 rfl rfl ?_
      refine aw_ildn (n := 58) C dX6_help_57 rfl rfl ?_
      refine aw_cVv (n := 61) (vs := [_]) C dX6_help_58 rfl rfl rfl mm_X5_rideFrom wM_X6_195 rfl rfl (Nat.le_of_ble_eq_true rfl) (c_rideFrom28 (f := w) T2 (by rw [o2 28 (by decide) (by decide), f2]; omega) (fun p p0 p1 => by rw [o2 28 (by decide) (by decide), f3] at p1; rw [o2 (37 + w) (by omega) (by omega), kr w (by omega) p p0 p1]; exact w3 w (by omega) p p0 p1)) (by decide) (fun S_58 q_58 => ?_)
      obtain ⟨g1, g2⟩ := q_58
      rw [o2 28 (by decide) (by decide), f2, f3] at g2
      have hfr : fr 28 46 S S_58 := fun c hc => by rw [g1 c (by omega), o2 c (by omega) (by omega), f1 c (by omega)]
      have e28 : S_58 28 = S_30 28 := by rw [g1 28 (by omega), o2 28 (by decide) (by decide)]
      have e10 : S_58 10 = S 10 := hfr 10 (by omega)
      have rows : ∀ j : Nat, (j : Int) ≤ S 10 8 → ∀ p, 0 ≤ p → p < S 10 9 → S_58 (37 + j) p = rg (S2 33) (S2 35) (S2 34) (S2 30) (S2 31) (S2 32) j p := by
        refine rows_rg (row := fun j => S_58 (37 + j)) (fun p p0 p1 => ?_) (fun x x0 x1 => by rw [(k31 x x0 x1).1, (k31 x x0 x1).2]; exact tk x x0 x1) (fun j hj p p0 p1 => ?_)
        · show S_58 (37 + 0) p = _
          rw [g1 (37 + 0) (by omega), o2 (37 + 0) (by omega) (by omega), kr 0 (by omega) p p0 p1, o2 34 (by decide) (by decide), (kp p p0 p1).2.1]
          exact G 0 (by omega) p p0 p1
        · show S_58 (37 + (j + 1)) p = stp (S2 33) (S2 35) (S2 30 j) (S2 31 j) (S2 32 j) (S_58 (37 + j)) p
          by_cases hjw : w ≤ j
          · rw [show 37 + (j + 1) = 38 + j by omega]
            exact g2 j hjw hj p p0 p1
          · rw [g1 (37 + (j + 1)) (by omega), o2 (37 + (j + 1)) (by omega) (by omega), kr (j + 1) (by omega) p p0 p1, G (j + 1) (by omega) p p0 p1]
            have kj := km j (by omega) hj
            have ne : (j : Int) ≠ (w : Int) := by omega
            rw [(k31 j (by omega) hj).1, (k31 j (by omega) hj).2, fu_n ne, fu_n ne, o2 30 (by decide) (by decide), kj.1]
            refine stp_congr (t5 j (by omega) hj).2 p0 p1 (fun x x0 x1 => ?_) (fun x x0 x1 => ?_) (fun x x0 x1 => ?_)
            · rw [o2 33 (by decide) (by decide), (kp x x0 x1).1]
            · rw [o2 35 (by decide) (by decide), (kp x x0 x1).2.2]
            · rw [g1 (37 + j) (by omega), o2 (37 + j) (by omega) (by omega), kr j (by omega) x x0 x1]
              exact (G j (by omega) x x0 x1).symm
      have rows2 : ∀ j : Nat, (j : Int) ≤ S 10 8 → ∀ p, 0 ≤ p → p < S 10 9 → S_58 (37 + j) p = rg (S 15) (S 17) (S 16) (S 12) (fu (S 13) w a) (fu (S 14) w b) j p := fun j hj p p0 p1 => by
        rw [rows j hj p p0 p1]
        refine rg_congr (mi := S 10 8) (pe := S 10 9) (fun x x0 x1 => ?_) (fun x x0 x1 => ?_) (fun x x0 x1 => ?_) (fun x x0 x1 => ⟨?_, k31 x x0 x1⟩) (fun x x0 x1 => by rw [(k31 x x0 x1).1, (k31 x x0 x1).2]; exact tk x x0 x1) j hj p p0 p1
        · rw [o2 33 (by decide) (by decide), (kp x x0 x1).1]
        · rw [o2 35 (by decide) (by decide), (kp x x0 x1).2.2]
        · rw [o2 34 (by decide) (by decide), (kp x x0 x1).2.1]
        · rw [o2 30 (by decide) (by decide), (km x x0 x1).1]
      have r28 : ∀ p, 0 ≤ p → p < S 10 9 → ∀ j : Nat, (j : Int) < S_58 28 8 → rng (S_58 (37 + j) p) := fun p p0 p1 j hj => by
        rw [e28, f2] at hj
        rw [rows2 j (by omega) p p0 p1]
        have := rg_r (kd := S 15) (fd := S 17) (bg := S 16) (tu := S 12) (tA := fu (S 13) w a) (tB := fu (S 14) w b) (pe := S 10 9) (fun x x0 x1 => (t6 x x0 x1).2.1) j p p0 p1
        omega
      have r10 : ∀ p, 0 ≤ p → p < S 10 9 → ∀ j : Nat, (j : Int) < S_58 10 8 → rng (S_58 (19 + j) p) := fun p p0 p1 j hj => by
        rw [e10] at hj
        rw [hfr (19 + j) (by omega)]
        have := w3 j (by omega) p p0 p1
        omega
      have n10 : S_58 10 8 = S 10 8 ∧ S_58 10 10 = S 10 10 ∧ S_58 10 11 = S 10 11 := by rw [e10]; exact ⟨rfl, rfl, rfl⟩
      have n28 : S_58 28 8 = S 10 8 ∧ S_58 28 10 = S 10 10 ∧ S_58 28 11 = S 10 11 := by rw [e28]; exact ⟨f2, f4, f5⟩
      have q10 : ∀ p, 0 ≤ p → p < S 10 9 → sm (fun m => due (S_58 10 10) (S_58 10 11) (S_58 (19 + m) p)) (S_58 10 8).toNat = dsm (S 10 10) (S 10 11) (rg (S 15) (S 17) (S 16) (S 12) (S 13) (S 14)) (S 10 8).toNat p := fun p p0 p1 => by
        rw [n10.1, n10.2.1, n10.2.2]
        exact sm_congr (fun j hj => by rw [hfr (19 + j) (by omega), G j (by omega) p p0 p1])
      have q28 : ∀ p, 0 ≤ p → p < S 10 9 → sm (fun m => due (S_58 28 10) (S_58 28 11) (S_58 (37 + m) p)) (S_58 28 8).toNat = dsm (S 10 10) (S 10 11) (rg (S 15) (S 17) (S 16) (S 12) (fu (S 13) w a) (fu (S 14) w b)) (S 10 8).toNat p := fun p p0 p1 => by
        rw [n28.1, n28.2.1, n28.2.2]
        exact sm_congr (fun j hj => by rw [rows2 j (by omega) p p0 p1])
      refine aw_aldn (n := 62) C dX6_help_61 rfl rfl ?_
      refine aw_getR (n := 65) C dX6_help_62 rfl fl_X6_21 rfl rfl ?_
      refine aw_ildn (n := 66) C dX6_help_65 rfl rfl ?_
      refine aw_cVi (n := 69) (vs := [_]) C dX6_help_66 rfl rfl rfl mm_X5_dueTogether wM_X6_199 rfl rfl (Nat.le_of_ble_eq_true rfl) (c_dueTogether10 (p := a) (by omega) (by omega) (by omega) (by omega) (by omega) (r10 a (by omega) (by omega))) (by decide) (fun z_66 S_66 q_66 => ?_)
      rw [q_66.1, q_66.2]
      clear q_66 S_66 z_66
      refine aw_aldn (n := 70) C dX6_help_69 rfl rfl ?_
      refine aw_getR (n := 73) C dX6_help_70 rfl fl_X6_21 rfl rfl ?_
      refine aw_ildn (n := 74) C dX6_help_73 rfl rfl ?_
      refine aw_cVi (n := 77) (vs := [_]) C dX6_help_74 rfl rfl rfl mm_X5_dueTogether wM_X6_199 rfl rfl (Nat.le_of_ble_eq_true rfl) (c_dueTogether10 (p := b) (by omega) (by omega) (by omega) (by omega) (by omega) (r10 b (by omega) (by omega))) (by decide) (fun z_74 S_74 q_74 => ?_)
      rw [q_74.1, q_74.2]
      clear q_74 S_74 z_74
      refine aw_iadd (n := 78) C dX6_help_77 rfl ?_
      refine aw_istw (n := 80) (L' := [_, _, _, _, _, _]) C dX6_help_78 rfl (by decide) rfl rfl ?_
      refine aw_aldn (n := 81) C dX6_help_80 rfl rfl ?_
      refine aw_getR (n := 84) C dX6_help_81 rfl fl_X6_25 rfl rfl ?_
      refine aw_ildn (n := 85) C dX6_help_84 rfl rfl ?_
      refine aw_cVi (n := 88) (vs := [_]) C dX6_help_85 rfl rfl rfl mm_X5_dueTogether wM_X6_199 rfl rfl (Nat.le_of_ble_eq_true rfl) (c_dueTogether28 (p := a) (by omega) (by omega) (by omega) (by omega) (by omega) (r28 a (by omega) (by omega))) (by decide) (fun z_85 S_85 q_85 => ?_)
      rw [q_85.1, q_85.2]
      clear q_85 S_85 z_85
      refine aw_aldn (n := 89) C dX6_help_88 rfl rfl ?_
      refine aw_getR (n := 92) C dX6_help_89 rfl fl_X6_25 rfl rfl ?_
      refine aw_ildn (n := 93) C dX6_help_92 rfl rfl ?_
      refine aw_cVi (n := 96) (vs := [_]) C dX6_help_93 rfl rfl rfl mm_X5_dueTogether wM_X6_199 rfl rfl (Nat.le_of_ble_eq_true rfl) (c_dueTogether28 (p := b) (by omega) (by omega) (by omega) (by omega) (by omega) (r28 b (by omega) (by omega))) (by decide) (fun z_93 S_93 q_93 => ?_)
      rw [q_93.1, q_93.2]
      clear q_93 S_93 z_93
      refine aw_iadd (n := 97) C dX6_help_96 rfl ?_
      refine aw_istw (n := 99) (L' := [_, _, _, _, _, _]) C dX6_help_97 rfl (by decide) rfl rfl ?_
      refine aw_ildw (n := 101) C dX6_help_99 rfl rfl ?_
      refine aw_ildw (n := 103) C dX6_help_101 rfl rfl ?_
      refine aw_isub (n := 104) C dX6_help_103 rfl ?_
      refine aw_sipush (n := 107) C dX6_help_104 rfl rfl ?_
      refine aw_iadd (n := 108) C dX6_help_107 rfl ?_
      refine hret 108 _ _ _ dX6_help_108 (Or.inl rfl) ?_
      refine ⟨hfr, ?_⟩
      rw [q10 a (by omega) (by omega), q10 b (by omega) (by omega), q28 a (by omega) (by omega), q28 b (by omega) (by omega), if_neg (by omega), if_neg (by omega)]
    · refine aw_bipush (n := 21) C dX6_help_19 rfl rfl ?_
      refine hret 21 _ _ _ dX6_help_21 (Or.inl rfl) ?_
      exact ⟨fr_rf _ _ _, by rw [if_neg (by omega), if_pos (by omega)]⟩
  · refine aw_iconst (n := 10) C dX6_help_9 rfl ?_
    refine hret 10 _ _ _ dX6_help_10 (Or.inl rfl) ?_
    exact ⟨fr_rf _ _ _, by rw [if_pos (by omega)]⟩
