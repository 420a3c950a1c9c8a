/-! the model: help, readings, what they tell -/
theorem st2_fu (S : Mem) (c : Nat) (i v : Int) : st2 S c i v c = fu (S c) i v := by
  funext x
  unfold st2 fu
  by_cases e : x = i
  · rw [if_pos ⟨rfl, e⟩, if_pos e]
  · rw [if_neg (fun q => e q.2), if_neg e]
theorem fu_back (f : Fn) (i v : Int) : fu (fu f i v) i (f i) = f := by
  funext x
  unfold fu
  by_cases e : x = i
  · rw [if_pos e, e]
  · rw [if_neg e, if_neg e]
theorem fu_fu (f : Fn) (i v w : Int) : fu (fu f i v) i w = fu f i w := by
  funext x
  unfold fu
  by_cases e : x = i
  · rw [if_pos e, if_pos e]
  · rw [if_neg e, if_neg e, if_neg e]
section MHE
variable {X : AMX} {S : Mem} {M P : Nat} {a b p w : Int}
theorem d_dueTogether_loop {post : Int → Mem → Prop} {S1 : Mem} (h5 : S1 66 5 = (M : Int)) (hM : M ≤ 8) (hd : ∀ m : Nat, m < M → (0 ≤ S1 81 (4 * (m : Int) + a) ∧ S1 81 (4 * (m : Int) + a) ≤ 2) ∧ (0 ≤ S1 81 (4 * (m : Int) + b) ∧ S1 81 (4 * (m : Int) + b) ≤ 2)) (ha : 0 ≤ a ∧ a < 4) (hb : 0 ≤ b ∧ b < 4) (C : CX X 3 RX7 cX7_dueTogether 5) (hret : ∀ (pc : Nat) (L : List (Option AV)) (z : Int) (S' : Mem), decode cX7_dueTogether pc = .ok (.ireturn, 1) → ((some FieldType.int) = some .int ∨ ((some FieldType.int) = some .boolean ∧ (z = 0 ∨ z = 1))) → post z S' → AW X cX7_dueTogether 5 pc L [.inl z] S') (hp : post (sm (fun m => S1 81 (4 * (m : Int) + a) + S1 81 (4 * (m : Int) + b)) M) S1) : ∀ (n j : Nat), j + n = M → AW X cX7_dueTogether 5 9 [some (.inr (.inr 66)), some (.inl a), some (.inl b), some (.inl (sm (fun m => S1 81 (4 * (m : Int) + a) + S1 81 (4 * (m : Int) + b)) j)), some (.inl j)] [] S1 := by
  intro n
  induction n with
  | zero =>
    intro j hj
    obtain rfl : j = M := by omega
    refine aw_ildw (n := 11) C dX7_dueTogether_9 rfl rfl ?_
    refine aw_aldn (n := 12) C dX7_dueTogether_11 rfl rfl ?_
    refine aw_getI (z := 5) (n := 15) C dX7_dueTogether_12 rfl fl_X7_84 rfl rfl rfl ?_
    refine aw_icge (tgt := 50) (n := 18) C dX7_dueTogether_15 rfl rfl (by omega) (by omega) (fun h_15 => ?_) (fun h_15 => ?_)
    · refine aw_ildn (n := 51) C dX7_dueTogether_50 rfl rfl ?_
      refine hret 51 _ _ _ dX7_dueTogether_51 (Or.inl rfl) ?_
      exact hp
    · omega
  | succ n ih =>
    intro j hj
    have hs := sm_r (f := fun m : Nat => S1 81 (4 * (m : Int) + a) + S1 81 (4 * (m : Int) + b)) (a := 4) (n := j) (fun k hk => by have := hd k (by omega); show 0 ≤ S1 81 (4 * (k : Int) + a) + S1 81 (4 * (k : Int) + b) ∧ S1 81 (4 * (k : Int) + a) + S1 81 (4 * (k : Int) + b) ≤ 4; omega)
    have hdj := hd j (by omega)
    refine aw_ildw (n := 11) C dX7_dueTogether_9 rfl rfl ?_
    refine aw_aldn (n := 12) C dX7_dueTogether_11 rfl rfl ?_
    refine aw_getI (z := 5) (n := 15) C dX7_dueTogether_12 rfl fl_X7_84 rfl rfl rfl ?_
    refine aw_icge (tgt := 50) (n := 18) C dX7_dueTogether_15 rfl rfl (by omega) (by omega) (fun h_15 => ?_) (fun h_15 => ?_)
    · omega
    · refine aw_ildn (n := 19) C dX7_dueTogether_18 rfl rfl ?_
      refine aw_aldn (n := 20) C dX7_dueTogether_19 rfl rfl ?_
      refine aw_getR (n := 23) C dX7_dueTogether_20 rfl fl_X7_53 rfl rfl ?_
      refine aw_iconst (n := 24) C dX7_dueTogether_23 rfl ?_
      refine aw_ildw (n := 26) C dX7_dueTogether_24 rfl rfl ?_
      refine aw_imul (n := 27) C dX7_dueTogether_26 rfl ?_
      refine aw_ildn (n := 28) C dX7_dueTogether_27 rfl rfl ?_
      refine aw_iadd (n := 29) C dX7_dueTogether_28 rfl ?_
      refine aw_iald (n := 30) C dX7_dueTogether_29 rfl rfl (by omega) (by omega) ?_
      refine aw_aldn (n := 31) C dX7_dueTogether_30 rfl rfl ?_
      refine aw_getR (n := 34) C dX7_dueTogether_31 rfl fl_X7_53 rfl rfl ?_
      refine aw_iconst (n := 35) C dX7_dueTogether_34 rfl ?_
      refine aw_ildw (n := 37) C dX7_dueTogether_35 rfl rfl ?_
      refine aw_imul (n := 38) C dX7_dueTogether_37 rfl ?_
      refine aw_ildn (n := 39) C dX7_dueTogether_38 rfl rfl ?_
      refine aw_iadd (n := 40) C dX7_dueTogether_39 rfl ?_
      refine aw_iald (n := 41) C dX7_dueTogether_40 rfl rfl (by omega) (by omega) ?_
      refine aw_iadd (n := 42) C dX7_dueTogether_41 rfl ?_
      refine aw_iadd (n := 43) C dX7_dueTogether_42 rfl ?_
      refine aw_istn (n := 44) (L' := [_, _, _, _, _]) C dX7_dueTogether_43 rfl (by decide) rfl rfl ?_
      refine aw_iinc (n := 47) (L' := [_, _, _, _, _]) C dX7_dueTogether_44 rfl rfl (by decide) rfl rfl ?_
      refine aw_goto (tgt := 9) C dX7_dueTogether_47 rfl ?_
      exact ih (j + 1) (by omega)
theorem d_dueTogether (W : MW S) (ha : 0 ≤ a ∧ a < S 66 6) (hb : 0 ≤ b ∧ b < S 66 6) : AMi 3 yX7_dueTogether cX7_dueTogether 5 (some .int) [.inr (.inr 66), .inl a, .inl b] S (fun z S' => fr 80 82 S S' ∧ z = dsm (S 66 7) (S 66 8) (RM S) (S 66 5).toNat a + dsm (S 66 7) (S 66 8) (RM S) (S 66 5).toNat b) := by
  obtain ⟨t1, t2, t3, t4, t5, t6⟩ := id W
  obtain ⟨M, hM⟩ : ∃ M : Nat, S 66 5 = M := ⟨(S 66 5).toNat, by omega⟩
  obtain ⟨P, hP⟩ : ∃ P : Nat, S 66 6 = P := ⟨(S 66 6).toNat, by omega⟩
  obtain ⟨x, rfl⟩ : ∃ x : Nat, a = x := ⟨a.toNat, by omega⟩
  obtain ⟨y, rfl⟩ : ∃ y : Nat, b = y := ⟨b.toNat, by omega⟩
  refine ami_intro (L := [_, _, _, none, none]) (by decide) (Or.inl rfl) rfl (Nat.le_of_ble_eq_true rfl) (fun X C hret => ?_)
  refine aw_aldn (n := 1) C dX7_dueTogether_0 rfl rfl ?_
  refine aw_cVv (n := 4) (vs := []) C dX7_dueTogether_1 rfl rfl rfl mm_X7_layDues wM_X7_177 rfl rfl (Nat.le_of_ble_eq_true rfl) (d_layDues W hM hP) (by decide) (fun S_1 q_1 => ?_)
  obtain ⟨g1, g2⟩ := q_1
  refine aw_iconst (n := 5) C dX7_dueTogether_4 rfl ?_
  refine aw_istn (n := 6) (L' := [_, _, _, _, _]) C dX7_dueTogether_5 rfl (by decide) rfl rfl ?_
  refine aw_iconst (n := 7) C dX7_dueTogether_6 rfl ?_
  refine aw_istw (n := 9) (L' := [_, _, _, _, _]) C dX7_dueTogether_7 rfl (by decide) rfl rfl ?_
  refine d_dueTogether_loop (S1 := S_1) (M := M) (by rw [g1 66 (by omega)]; exact hM) (by omega) (fun m hm => ?_) (by omega) (by omega) C hret ?_ M 0 (by omega)
  · rw [g2 m x hm (by omega), g2 m y hm (by omega)]
    exact ⟨due_r _ _ _, due_r _ _ _⟩
  · refine ⟨g1, ?_⟩
    rw [sm_plus, hM, Int.toNat_natCast]
    unfold dsm
    rw [sm_congr (g := fun j => due (S 66 7) (S 66 8) (RM S j x)) (fun m hm => g2 m x hm (by omega)), sm_congr (g := fun j => due (S 66 7) (S 66 8) (RM S j y)) (fun m hm => g2 m y hm (by omega))]
theorem dsm_r {l1 l2 : Int} {R : Nat → Fn} {p : Int} (hM : M ≤ 8) : 0 ≤ dsm l1 l2 R M p ∧ dsm l1 l2 R M p ≤ 16 := by
  have := sm_r (f := fun j => due l1 l2 (R j p)) (a := 2) (n := M) (fun _ _ => due_r _ _ _)
  unfold dsm
  omega
theorem m_help {m : Int} (ha : rng a) (hb : rng b) (hm : rng m) (W : MW S) : AMi 4 yX7_help cX7_help 8 (some .int) [.inr (.inr 66), .inl a, .inl b, .inl m] S (fun z S' => fr 80 82 S S' ∧ z = (if a < 0 ∨ S 66 6 ≤ a ∨ b < 0 ∨ S 66 6 ≤ b ∨ a = b then -1 else if m < 0 ∨ S 66 5 ≤ m then -2 else dsm (S 66 7) (S 66 8) (rg (S 74) (S 76) (S 75) (S 71) (S 72) (S 73)) (S 66 5).toNat a + dsm (S 66 7) (S 66 8) (rg (S 74) (S 76) (S 75) (S 71) (S 72) (S 73)) (S 66 5).toNat b - (dsm (S 66 7) (S 66 8) (rg (S 74) (S 76) (S 75) (S 71) (fu (S 72) m a) (fu (S 73) m b)) (S 66 5).toNat a + dsm (S 66 7) (S 66 8) (rg (S 74) (S 76) (S 75) (S 71) (fu (S 72) m a) (fu (S 73) m b)) (S 66 5).toNat b) + 1000)) := by
  obtain ⟨t1, t2, t3, t4, t5, t6⟩ := id W
  refine ami_intro (L := [_, _, _, _, none, none, none, none]) (by decide) (Or.inl rfl) rfl (Nat.le_of_ble_eq_true rfl) (fun X C hret => ?_)
  refine aw_aldn (n := 1) C dX7_help_0 rfl rfl ?_
  refine aw_ildn (n := 2) C dX7_help_1 rfl rfl ?_
  refine aw_cVi (n := 5) (vs := [_]) C dX7_help_2 rfl rfl rfl mm_X7_isPassenger wM_X7_137 rfl rfl (Nat.le_of_ble_eq_true rfl) (d_isPassenger ha (by omega)) (by decide) (fun z_2 S_2 q_2 => ?_)
  rw [q_2.1, q_2.2]
  clear q_2 S_2 z_2
  refine aw_ifeq (tgt := 21) (n := 8) C dX7_help_5 rfl rfl (by omega) (fun h_5 => ?_) (fun h_5 => ?_)
  · refine aw_iconst (n := 22) C dX7_help_21 rfl ?_
    refine hret 22 _ _ _ dX7_help_22 (Or.inl rfl) ?_
    exact ⟨fr_rf _ _ _, by rw [if_pos (by omega)]⟩
  · refine aw_aldn (n := 9) C dX7_help_8 rfl rfl ?_
    refine aw_ildn (n := 10) C dX7_help_9 rfl rfl ?_
    refine aw_cVi (n := 13) (vs := [_]) C dX7_help_10 rfl rfl rfl mm_X7_isPassenger wM_X7_137 rfl rfl (Nat.le_of_ble_eq_true rfl) (d_isPassenger hb (by omega)) (by decide) (fun z_10 S_10 q_10 => ?_)
    rw [q_10.1, q_10.2]
    clear q_10 S_10 z_10
    refine aw_ifeq (tgt := 21) (n := 16) C dX7_help_13 rfl rfl (by omega) (fun h_13 => ?_) (fun h_13 => ?_)
    · refine aw_iconst (n := 22) C dX7_help_21 rfl ?_
      refine hret 22 _ _ _ dX7_help_22 (Or.inl rfl) ?_
      exact ⟨fr_rf _ _ _, by rw [if_pos (by omega)]⟩
    · refine aw_ildn (n := 17) C dX7_help_16 rfl rfl ?_
      refine aw_ildn (n := 18) C dX7_help_17 rfl rfl ?_
      refine aw_icne (tgt := 23) (n := 21) C dX7_help_18 rfl rfl (by omega) (by omega) (fun h_18 => ?_) (fun h_18 => ?_)
      · refine aw_aldn (n := 24) C dX7_help_23 rfl rfl ?_
        refine aw_ildn (n := 25) C dX7_help_24 rfl rfl ?_
        refine aw_cVi (n := 28) (vs := [_]) C dX7_help_25 rfl rfl rfl mm_X7_isMile wM_X7_140 rfl rfl (Nat.le_of_ble_eq_true rfl) (d_isMile hm (by omega)) (by decide) (fun z_25 S_25 q_25 => ?_)
        rw [q_25.1, q_25.2]
        clear q_25 S_25 z_25
        refine aw_ifne (tgt := 34) (n := 31) C dX7_help_28 rfl rfl (by omega) (fun h_28 => ?_) (fun h_28 => ?_)
        · refine aw_aldn (n := 35) C dX7_help_34 rfl rfl ?_
          refine aw_ildn (n := 36) C dX7_help_35 rfl rfl ?_
          refine aw_ildn (n := 37) C dX7_help_36 rfl rfl ?_
          refine aw_cVi (n := 40) (vs := [_, _]) C dX7_help_37 rfl rfl rfl mm_X7_dueTogether wM_X7_211 rfl rfl (Nat.le_of_ble_eq_true rfl) (d_dueTogether W (by omega) (by omega)) (by decide) (fun z_37 S_37 q_37 => ?_)
          obtain ⟨g1, g2⟩ := q_37
          have hz1 := dsm_r (l1 := S 66 7) (l2 := S 66 8) (R := RM S) (p := a) (M := (S 66 5).toNat) (by omega)
          have hz2 := dsm_r (l1 := S 66 7) (l2 := S 66 8) (R := RM S) (p := b) (M := (S 66 5).toNat) (by omega)
          have htm := (t5 m (by omega) (by omega)).2
          unfold tok at htm
          have e72 : S_37 72 = S 72 := g1 72 (by omega)
          have e73 : S_37 73 = S 73 := g1 73 (by omega)
          refine aw_istw (n := 42) (L' := [_, _, _, _, _, _, _, _]) C dX7_help_40 rfl (by decide) rfl rfl ?_
          refine aw_aldn (n := 43) C dX7_help_42 rfl rfl ?_
          refine aw_getR (n := 46) C dX7_help_43 rfl fl_X7_26 rfl rfl ?_
          refine aw_ildn (n := 47) C dX7_help_46 rfl rfl ?_
          refine aw_iald (n := 48) C dX7_help_47 rfl rfl (by omega) (by omega) ?_
          rw [e72]
          refine aw_istw (n := 50) (L' := [_, _, _, _, _, _, _, _]) C dX7_help_48 rfl (by decide) rfl rfl ?_
          refine aw_aldn (n := 51) C dX7_help_50 rfl rfl ?_
          refine aw_getR (n := 54) C dX7_help_51 rfl fl_X7_29 rfl rfl ?_
          refine aw_ildn (n := 55) C dX7_help_54 rfl rfl ?_
          refine aw_iald (n := 56) C dX7_help_55 rfl rfl (by omega) (by omega) ?_
          rw [e73]
          refine aw_istw (n := 58) (L' := [_, _, _, _, _, _, _, _]) C dX7_help_56 rfl (by decide) rfl rfl ?_
          refine aw_aldn (n := 59) C dX7_help_58 rfl rfl ?_
          refine aw_getR (n := 62) C dX7_help_59 rfl fl_X7_26 rfl rfl ?_
          refine aw_ildn (n := 63) C dX7_help_62 rfl rfl ?_
          refine aw_ildn (n := 64) C dX7_help_63 rfl rfl ?_
          refine aw_iast (n := 65) C dX7_help_64 rfl rfl (by omega) (by omega) ?_
          refine aw_aldn (n := 66) C dX7_help_65 rfl rfl ?_
          refine aw_getR (n := 69) C dX7_help_66 rfl fl_X7_29 rfl rfl ?_
          refine aw_ildn (n := 70) C dX7_help_69 rfl rfl ?_
          refine aw_ildn (n := 71) C dX7_help_70 rfl rfl ?_
          refine aw_iast (n := 72) C dX7_help_71 rfl rfl (by omega) (by omega) ?_
          generalize hS2 : st2 (st2 S_37 72 m a) 73 m b = S2
          have o2 : ∀ c, c ≠ 72 → c ≠ 73 → S2 c = S_37 c := fun c c1 c2 => by rw [← hS2, st2_o c c2, st2_o c c1]
          have v72 : S2 72 = fu (S 72) m a := by rw [← hS2, st2_o 72 (by decide), st2_fu, e72]
          have v73 : S2 73 = fu (S 73) m b := by rw [← hS2, st2_fu, st2_o 73 (by decide), e73]
          have o3 : ∀ c, c < 72 ∨ (73 < c ∧ c < 80) → S2 c = S c := fun c hc => by rw [o2 c (by omega) (by omega), g1 c (by omega)]
          have W2 : MW S2 := by
            unfold MW
            rw [o3 66 (by omega), o3 71 (by omega), o3 74 (by omega), o3 75 (by omega), o3 76 (by omega), v72, v73]
            refine ⟨t1, t2, t3, t4, fun x x0 x1 => ⟨(t5 x x0 x1).1, ?_⟩, t6⟩
            by_cases e : x = m
            · rw [e, fu_s, fu_s]; exact Or.inr (by omega)
            · rw [fu_n e, fu_n e]; exact (t5 x x0 x1).2
          have s66 := o3 66 (by omega)
          refine aw_aldn (n := 73) C dX7_help_72 rfl rfl ?_
          refine aw_ildn (n := 74) C dX7_help_73 rfl rfl ?_
          refine aw_ildn (n := 75) C dX7_help_74 rfl rfl ?_
          refine aw_cVi (n := 78) (vs := [_, _]) C dX7_help_75 rfl rfl rfl mm_X7_dueTogether wM_X7_211 rfl rfl (Nat.le_of_ble_eq_true rfl) (d_dueTogether W2 (by rw [s66]; omega) (by rw [s66]; omega)) (by decide) (fun z_75 S_75 q_75 => ?_)
          obtain ⟨k1, k2⟩ := q_75
          rw [s66] at k2
          have hR : RM S2 = rg (S 74) (S 76) (S 75) (S 71) (fu (S 72) m a) (fu (S 73) m b) := by
            unfold RM
            rw [o3 74 (by omega), o3 75 (by omega), o3 76 (by omega), o3 71 (by omega), v72, v73]
          rw [hR] at k2
          have hz3 := dsm_r (l1 := S 66 7) (l2 := S 66 8) (R := rg (S 74) (S 76) (S 75) (S 71) (fu (S 72) m a) (fu (S 73) m b)) (p := a) (M := (S 66 5).toNat) (by omega)
          have hz4 := dsm_r (l1 := S 66 7) (l2 := S 66 8) (R := rg (S 74) (S 76) (S 75) (S 71) (fu (S 72) m a) (fu (S 73) m b)) (p := b) (M := (S 66 5).toNat) (by omega)
          refine aw_istw (n := 80) (L' := [_, _, _, _, _, _, _, _]) C dX7_help_78 rfl (by decide) rfl rfl ?_
          refine aw_aldn (n := 81) C dX7_help_80 rfl rfl ?_
          refine aw_getR (n := 84) C dX7_help_81 rfl fl_X7_26 rfl rfl ?_
          refine aw_ildn (n := 85) C dX7_help_84 rfl rfl ?_
          refine aw_ildw (n := 87) C dX7_help_85 rfl rfl ?_
          refine aw_iast (n := 88) C dX7_help_87 rfl rfl (by omega) (by omega) ?_
          refine aw_aldn (n := 89) C dX7_help_88 rfl rfl ?_
          refine aw_getR (n := 92) C dX7_help_89 rfl fl_X7_29 rfl rfl ?_
          refine aw_ildn (n := 93) C dX7_help_92 rfl rfl ?_
          refine aw_ildw (n := 95) C dX7_help_93 rfl rfl ?_
          refine aw_iast (n := 96) C dX7_help_95 rfl rfl (by omega) (by omega) ?_
          refine aw_ildw (n := 98) C dX7_help_96 rfl rfl ?_
          refine aw_ildw (n := 100) C dX7_help_98 rfl rfl ?_
          refine aw_isub (n := 101) C dX7_help_100 rfl ?_
          refine aw_sipush (n := 104) C dX7_help_101 rfl rfl ?_
          refine aw_iadd (n := 105) C dX7_help_104 rfl ?_
          refine hret 105 _ _ _ dX7_help_105 (Or.inl rfl) ?_
          refine ⟨fun c hc => ?_, ?_⟩
          · by_cases c3 : c = 73
            · rw [c3, st2_fu, st2_o 73 (by decide), k1 73 (by omega), v73, fu_back]
            · rw [st2_o c c3]
              by_cases c2 : c = 72
              · rw [c2, st2_fu, k1 72 (by omega), v72, fu_back]
              · rw [st2_o c c2, k1 c hc, o2 c c2 c3, g1 c hc]
          · rw [if_neg (by omega), if_neg (by omega), k2, g2]
            rfl
        · refine aw_bipush (n := 33) C dX7_help_31 rfl rfl ?_
          refine hret 33 _ _ _ dX7_help_33 (Or.inl rfl) ?_
          exact ⟨fr_rf _ _ _, by rw [if_neg (by omega), if_pos (by omega)]⟩
      · refine aw_iconst (n := 22) C dX7_help_21 rfl ?_
        refine hret 22 _ _ _ dX7_help_22 (Or.inl rfl) ?_
        exact ⟨fr_rf _ _ _, by rw [if_pos (by omega)]⟩
theorem m_reading {m c : Int} (hp : rng p) (hm : rng m) (hc : rng c) (h8 : 0 ≤ S 66 5 ∧ S 66 5 ≤ 8) (h9 : 0 ≤ S 66 6 ∧ S 66 6 ≤ 4) (hn : 0 ≤ S 66 26 ∧ S 66 26 ≤ 8) : AMi 1 yX7_reading cX7_reading 4 (some .int) [.inr (.inr 66), .inl p, .inl m, .inl c] S (fun z S' => z = (if p < 0 ∨ S 66 6 ≤ p then -1 else if m < 0 ∨ S 66 5 < m ∨ c < 0 ∨ 3 ≤ c then -2 else if 8 ≤ S 66 26 then -4 else S 66 26) ∧ S' = (if p < 0 ∨ S 66 6 ≤ p ∨ m < 0 ∨ S 66 5 < m ∨ c < 0 ∨ 3 ≤ c ∨ 8 ≤ S 66 26 then S else st2 (st2 (st2 (st2 S 84 (S 66 26) p) 85 (S 66 26) m) 86 (S 66 26) c) 66 26 (S 66 26 + 1))) := by
  refine ami_intro (L := [_, _, _, _]) (by decide) (Or.inl rfl) rfl (Nat.le_of_ble_eq_true rfl) (fun X C hret => ?_)
  refine aw_aldn (n := 1) C dX7_reading_0 rfl rfl ?_
  refine aw_ildn (n := 2) C dX7_reading_1 rfl rfl ?_
  refine aw_cVi (n := 5) (vs := [_]) C dX7_reading_2 rfl rfl rfl mm_X7_isPassenger wM_X7_137 rfl rfl (Nat.le_of_ble_eq_true rfl) (d_isPassenger hp (by omega)) (by decide) (fun z_2 S_2 q_2 => ?_)
  rw [q_2.1, q_2.2]
  clear q_2 S_2 z_2
  refine aw_ifne (tgt := 10) (n := 8) C dX7_reading_5 rfl rfl (by omega) (fun h_5 => ?_) (fun h_5 => ?_)
  · refine aw_ildn (n := 11) C dX7_reading_10 rfl rfl ?_
    refine aw_iconst (n := 12) C dX7_reading_11 rfl ?_
    refine aw_aldn (n := 13) C dX7_reading_12 rfl rfl ?_
    refine aw_getI (z := 5) (n := 16) C dX7_reading_13 rfl fl_X7_84 rfl rfl rfl ?_
    refine aw_cSi (n := 19) (vs := [_, _, _]) C dX7_reading_16 rfl rfl rfl mm_X7_within wM_X7_77 (Nat.le_of_ble_eq_true rfl) (d_within hm (by decide) (by omega)) (by decide) (fun z_16 S_16 q_16 => ?_)
    rw [q_16.1, q_16.2]
    clear q_16 S_16 z_16
    refine aw_ifeq (tgt := 31) (n := 22) C dX7_reading_19 rfl rfl (by omega) (fun h_19 => ?_) (fun h_19 => ?_)
    · refine aw_bipush (n := 33) C dX7_reading_31 rfl rfl ?_
      refine hret 33 _ _ _ dX7_reading_33 (Or.inl rfl) ?_
      first | (exfalso; omega; done) | exact ⟨by omega, by first | rw [if_pos (by omega)] | rw [if_neg (by omega)]⟩
    · refine aw_ildn (n := 23) C dX7_reading_22 rfl rfl ?_
      refine aw_iconst (n := 24) C dX7_reading_23 rfl ?_
      refine aw_iconst (n := 25) C dX7_reading_24 rfl ?_
      refine aw_cSi (n := 28) (vs := [_, _, _]) C dX7_reading_25 rfl rfl rfl mm_X7_within wM_X7_77 (Nat.le_of_ble_eq_true rfl) (d_within hc (by decide) (by decide)) (by decide) (fun z_25 S_25 q_25 => ?_)
      rw [q_25.1, q_25.2]
      clear q_25 S_25 z_25
      refine aw_ifne (tgt := 34) (n := 31) C dX7_reading_28 rfl rfl (by omega) (fun h_28 => ?_) (fun h_28 => ?_)
      · refine aw_aldn (n := 35) C dX7_reading_34 rfl rfl ?_
        refine aw_getI (z := 26) (n := 38) C dX7_reading_35 rfl fl_X7_123 rfl rfl rfl ?_
        refine aw_bipush (n := 40) C dX7_reading_38 rfl rfl ?_
        refine aw_icne (tgt := 46) (n := 43) C dX7_reading_40 rfl rfl (by omega) (by omega) (fun h_40 => ?_) (fun h_40 => ?_)
        · refine aw_aldn (n := 47) C dX7_reading_46 rfl rfl ?_
          refine aw_getR (n := 50) C dX7_reading_47 rfl fl_X7_62 rfl rfl ?_
          refine aw_aldn (n := 51) C dX7_reading_50 rfl rfl ?_
          refine aw_getI (z := 26) (n := 54) C dX7_reading_51 rfl fl_X7_123 rfl rfl rfl ?_
          refine aw_ildn (n := 55) C dX7_reading_54 rfl rfl ?_
          refine aw_iast (n := 56) C dX7_reading_55 rfl rfl (by omega) (by omega) ?_
          have e1 : st2 S 84 (S 66 26) p 66 26 = S 66 26 := rfl
          refine aw_aldn (n := 57) C dX7_reading_56 rfl rfl ?_
          refine aw_getR (n := 60) C dX7_reading_57 rfl fl_X7_65 rfl rfl ?_
          refine aw_aldn (n := 61) C dX7_reading_60 rfl rfl ?_
          refine aw_getI (z := 26) (n := 64) C dX7_reading_61 rfl fl_X7_123 rfl rfl rfl ?_
          refine aw_ildn (n := 65) C dX7_reading_64 rfl rfl ?_
          rw [e1]
          refine aw_iast (n := 66) C dX7_reading_65 rfl rfl (by omega) (by omega) ?_
          have e2 : st2 (st2 S 84 (S 66 26) p) 85 (S 66 26) m 66 26 = S 66 26 := rfl
          refine aw_aldn (n := 67) C dX7_reading_66 rfl rfl ?_
          refine aw_getR (n := 70) C dX7_reading_67 rfl fl_X7_68 rfl rfl ?_
          refine aw_aldn (n := 71) C dX7_reading_70 rfl rfl ?_
          refine aw_getI (z := 26) (n := 74) C dX7_reading_71 rfl fl_X7_123 rfl rfl rfl ?_
          refine aw_ildn (n := 75) C dX7_reading_74 rfl rfl ?_
          rw [e2]
          refine aw_iast (n := 76) C dX7_reading_75 rfl rfl (by omega) (by omega) ?_
          have e3 : st2 (st2 (st2 S 84 (S 66 26) p) 85 (S 66 26) m) 86 (S 66 26) c 66 26 = S 66 26 := rfl
          refine aw_aldn (n := 77) C dX7_reading_76 rfl rfl ?_
          refine aw_dup (n := 78) C dX7_reading_77 rfl rfl ?_
          refine aw_getI (z := 26) (n := 81) C dX7_reading_78 rfl fl_X7_123 rfl rfl rfl ?_
          rw [e3]
          refine aw_iconst (n := 82) C dX7_reading_81 rfl ?_
          refine aw_iadd (n := 83) C dX7_reading_82 rfl ?_
          refine aw_put (z := 26) (n := 86) C dX7_reading_83 rfl fp_X7_123 rfl rfl rfl (Or.inl rfl) ?_
          have e4 : st2 (st2 (st2 (st2 S 84 (S 66 26) p) 85 (S 66 26) m) 86 (S 66 26) c) 66 26 (S 66 26 + 1) 66 26 = S 66 26 + 1 := rfl
          refine aw_aldn (n := 87) C dX7_reading_86 rfl rfl ?_
          refine aw_getI (z := 26) (n := 90) C dX7_reading_87 rfl fl_X7_123 rfl rfl rfl ?_
          rw [e4]
          refine aw_iconst (n := 91) C dX7_reading_90 rfl ?_
          refine aw_isub (n := 92) C dX7_reading_91 rfl ?_
          refine hret 92 _ _ _ dX7_reading_92 (Or.inl rfl) ?_
          exact ⟨by rw [if_neg (by omega), if_neg (by omega), if_neg (by omega)]; omega, by rw [if_neg (by omega)]⟩
        · refine aw_bipush (n := 45) C dX7_reading_43 rfl rfl ?_
          refine hret 45 _ _ _ dX7_reading_45 (Or.inl rfl) ?_
          first | (exfalso; omega; done) | exact ⟨by omega, by first | rw [if_pos (by omega)] | rw [if_neg (by omega)]⟩
      · refine aw_bipush (n := 33) C dX7_reading_31 rfl rfl ?_
        refine hret 33 _ _ _ dX7_reading_33 (Or.inl rfl) ?_
        first | (exfalso; omega; done) | exact ⟨by omega, by first | rw [if_pos (by omega)] | rw [if_neg (by omega)]⟩
  · refine aw_iconst (n := 9) C dX7_reading_8 rfl ?_
    refine hret 9 _ _ _ dX7_reading_9 (Or.inl rfl) ?_
    first | (exfalso; omega; done) | exact ⟨by omega, by first | rw [if_pos (by omega)] | rw [if_neg (by omega)]⟩
theorem m_back {k : Int} (hk : rng k) (hn : 0 ≤ S 66 26 ∧ S 66 26 ≤ 8) : AMi 1 yX7_back cX7_back 2 (some .int) [.inr (.inr 66), .inl k] S (fun z S' => z = (if k < 0 ∨ S 66 26 < k then -2 else S 66 26 - k) ∧ S' = (if k < 0 ∨ S 66 26 < k then S else st2 S 66 26 (S 66 26 - k))) := by
  refine ami_intro (L := [_, _]) (by decide) (Or.inl rfl) rfl (Nat.le_of_ble_eq_true rfl) (fun X C hret => ?_)
  refine aw_ildn (n := 1) C dX7_back_0 rfl rfl ?_
  refine aw_iconst (n := 2) C dX7_back_1 rfl ?_
  refine aw_aldn (n := 3) C dX7_back_2 rfl rfl ?_
  refine aw_getI (z := 26) (n := 6) C dX7_back_3 rfl fl_X7_123 rfl rfl rfl ?_
  refine aw_cSi (n := 9) (vs := [_, _, _]) C dX7_back_6 rfl rfl rfl mm_X7_within wM_X7_77 (Nat.le_of_ble_eq_true rfl) (d_within hk (by decide) (by omega)) (by decide) (fun z_6 S_6 q_6 => ?_)
  rw [q_6.1, q_6.2]
  clear q_6 S_6 z_6
  refine aw_ifne (tgt := 15) (n := 12) C dX7_back_9 rfl rfl (by omega) (fun h_9 => ?_) (fun h_9 => ?_)
  · refine aw_aldn (n := 16) C dX7_back_15 rfl rfl ?_
    refine aw_dup (n := 17) C dX7_back_16 rfl rfl ?_
    refine aw_getI (z := 26) (n := 20) C dX7_back_17 rfl fl_X7_123 rfl rfl rfl ?_
    refine aw_ildn (n := 21) C dX7_back_20 rfl rfl ?_
    refine aw_isub (n := 22) C dX7_back_21 rfl ?_
    refine aw_put (z := 26) (n := 25) C dX7_back_22 rfl fp_X7_123 rfl rfl rfl (Or.inl rfl) ?_
    refine aw_aldn (n := 26) C dX7_back_25 rfl rfl ?_
    refine aw_getI (z := 26) (n := 29) C dX7_back_26 rfl fl_X7_123 rfl rfl rfl ?_
    refine hret 29 _ _ _ dX7_back_29 (Or.inl rfl) ?_
    exact ⟨by rw [if_neg (by omega)]; rfl, by rw [if_neg (by omega)]⟩
  · refine aw_bipush (n := 14) C dX7_back_12 rfl rfl ?_
    refine hret 14 _ _ _ dX7_back_14 (Or.inl rfl) ?_
    exact ⟨by rw [if_pos (by omega)], by rw [if_pos (by omega)]⟩
end MHE
