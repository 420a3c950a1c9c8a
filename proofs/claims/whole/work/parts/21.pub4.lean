/-! RegretLine: line, seating -/
/-- the class's own numbers are within their bounds -/
def XW (S : Mem) : Prop := TW 10 S ∧ (∀ c, 0 ≤ c → c < 3 → 0 ≤ S 11 c ∧ S 11 c ≤ 4) ∧ (∀ m : Nat, (m : Int) ≤ S 10 8 → ∀ p, 0 ≤ p → p < S 10 9 → 0 ≤ S (19 + m) p ∧ S (19 + m) p ≤ 99) ∧ (∀ j : Nat, j < 4 → rng (S (2 + j) 1) ∧ 0 ≤ S (2 + j) 2 ∧ S (2 + j) 2 ≤ 60) ∧ (∀ (j : Nat) (x : Int), j < 4 → rng (S (6 + j) x)) ∧ (S 10 8 = 0 ↔ S 10 9 = 0)
theorem TW_o {S S' : Mem} (T : TW 10 S) (h : ∀ c, 10 ≤ c → c < 18 → S' c = S c) : TW 10 S' := by
  unfold TW
  rw [h 10 (by omega) (by omega), h (10 + 2) (by omega) (by omega), h (10 + 3) (by omega) (by omega), h (10 + 4) (by omega) (by omega), h (10 + 5) (by omega) (by omega), h (10 + 6) (by omega) (by omega), h (10 + 7) (by omega) (by omega)]
  exact T
theorem RDL_TW {q : Fn} {n : Int} {mc P : Nat} {S S' : Mem} (O : OKT q n mc P) (h : RDL q mc P S S') : TW 10 S' := by
  obtain ⟨o1, o2, o3, o4, o5, o6⟩ := O
  obtain ⟨g1, g2, g3, g4, g5, g6, g7, g8, g9⟩ := h
  unfold TW
  rw [g2, g3, g4, g5]
  refine ⟨by omega, by omega, by omega, by omega, fun m m0 m1 => ⟨?_, ?_⟩, fun p p0 p1 => ?_⟩
  · show S' 12 m = 0 ∨ S' 12 m = 1
    rw [g7 m m0 m1]
    unfold nTu
    split
    · exact Or.inr rfl
    · exact Or.inl rfl
  · exact Or.inl (g9 m m0 (by omega))
  · show (0 ≤ S' 15 p ∧ S' 15 p ≤ 2) ∧ (0 ≤ S' 16 p ∧ S' 16 p ≤ 59) ∧ (0 ≤ S' 17 p ∧ S' 17 p ≤ 9)
    obtain ⟨e1, e2, e3⟩ := g8 p p0 p1
    obtain ⟨p', rfl⟩ : ∃ p' : Nat, p = p' := ⟨p.toNat, by omega⟩
    obtain ⟨f0, f1, f2, f3, f4⟩ := o6 p' (by omega)
    rw [e1, e2, e3]
    unfold nKd nBg nFd kdOf
    refine ⟨?_, by omega, by omega⟩
    rcases f1 with f | f | f <;> rw [f] <;> decide
theorem ffP_r {q : Fn} {n K : Int} (hK : -1 ≤ K ∧ K ≤ 100) : ∀ x part b : Nat, b + x ≤ 100 → -1 ≤ ffP q n K x part b ∧ ffP q n K x part b ≤ 100
  | 0, _, _, _ => hK
  | x + 1, part, b, h => by
    unfold ffP
    split
    · omega
    · exact ffP_r hK x (part + 1) (b + 1) (by omega)
theorem ffA_r {q : Fn} {n : Int} : ∀ r p a : Nat, a + 5 * r ≤ 100 → -1 ≤ ffA q n r p a ∧ ffA q n r p a ≤ 100
  | 0, p, a, h => by unfold ffA ffE; split <;> omega
  | r + 1, p, a, h => by
    unfold ffA
    split
    · exact ffP_r (ffA_r r (p + 1) (a + 5) (by omega)) 5 0 a (by omega)
    · unfold ffE; split <;> omega
theorem ffH_r {q : Fn} {n K : Int} (hK : -1 ≤ K ∧ K ≤ 100) : ∀ x b : Nat, b + x ≤ 100 → -1 ≤ ffH q n K x b ∧ ffH q n K x b ≤ 100
  | 0, _, _ => hK
  | x + 1, b, h => by
    unfold ffH
    split
    · omega
    · exact ffH_r hK x (b + 1) (by omega)
theorem ff_r (q : Fn) (n : Int) : -1 ≤ ff q n ∧ ff q n ≤ 100 := by
  obtain ⟨j, j1, j2, -⟩ := mcF_ok (q := q) (n := n) 8 5
  refine ffH_r ?_ 5 0 (by omega)
  unfold ffM
  split
  · omega
  · exact ffA_r 4 0 _ (by omega)
theorem x_line {S : Mem} {k t i n : Int} (hk : rng k) (ht : rng t) (hi : rng i) (hn : rng n) (W : XW S) : AMi 6 yX6_line cX6_line 7 (some .int) [.inr (.inr 0), .inl k, .inl t, .inl i, .inl n] S (fun z S' => (if k < 0 ∨ 4 ≤ k then z = -1 ∧ S' = st2 S 0 8 0 else if t < 0 ∨ 3 ≤ t then z = -2 ∧ S' = st2 S 0 8 0 else if fCs (S (2 + k.toNat) 1) (S (2 + k.toNat) 2) t i n ≠ 0 then z = -10 - fCs (S (2 + k.toNat) 1) (S (2 + k.toNat) 2) t i n ∧ S' = st2 S 0 8 (fCs (S (2 + k.toNat) 1) (S (2 + k.toNat) 2) t i n) else if ff (fun j => S (6 + k.toNat) (i + j)) n ≠ -1 then z = -100 - ff (fun j => S (6 + k.toNat) (i + j)) n ∧ S' = st2 S 0 8 0 else ∃ (mc P : Nat) (S1 : Mem), OKT (fun j => S (6 + k.toNat) (i + j)) n mc P ∧ RDL (fun j => S (6 + k.toNat) (i + j)) mc P (st2 S 0 8 0) S1 ∧ RA (st2 S1 46 3 0) S' ∧ z = P)) := by
  obtain ⟨T, w2, w3, w4, w5, w6⟩ := W
  refine ami_intro (L := [_, _, _, _, _, none, none]) (by decide) (Or.inl rfl) rfl (Nat.le_of_ble_eq_true rfl) (fun X C hret => ?_)
  refine aw_aldn (n := 1) C dX6_line_0 rfl rfl ?_
  refine aw_iconst (n := 2) C dX6_line_1 rfl ?_
  refine aw_put (z := 8) (n := 5) C dX6_line_2 rfl fp_X6_59 rfl rfl rfl (Or.inl rfl) ?_
  refine aw_ildn (n := 6) C dX6_line_5 rfl rfl ?_
  refine aw_cSi (n := 9) (vs := [_]) C dX6_line_6 rfl rfl rfl mm_X6_noSheet wM_X6_62 (Nat.le_of_ble_eq_true rfl) (c_noSheet hk) (by decide) (fun z_6 S_6 q_6 => ?_)
  rw [q_6.1, q_6.2]
  clear q_6 S_6 z_6
  refine aw_ifeq (tgt := 14) (n := 12) C dX6_line_9 rfl rfl (by omega) (fun h_9 => ?_) (fun h_9 => ?_)
  · refine aw_ildn (n := 15) C dX6_line_14 rfl rfl ?_
    refine aw_cSi (n := 18) (vs := [_]) C dX6_line_15 rfl rfl rfl mm_X6_noLane wM_X6_66 (Nat.le_of_ble_eq_true rfl) (c_noLane ht) (by decide) (fun z_15 S_15 q_15 => ?_)
    rw [q_15.1, q_15.2]
    clear q_15 S_15 z_15
    refine aw_ifeq (tgt := 24) (n := 21) C dX6_line_18 rfl rfl (by omega) (fun h_18 => ?_) (fun h_18 => ?_)
    · obtain ⟨a, rfl⟩ : ∃ a : Nat, k = a := ⟨k.toNat, by omega⟩
      have ha : a < 4 := by omega
      have ha1 := w4 a ha
      have a1 : st2 S 0 8 0 (2 + a) 1 = S (2 + a) 1 := st2_c (by omega)
      have a2 : st2 S 0 8 0 (2 + a) 2 = S (2 + a) 2 := st2_c (by omega)
      rw [show ((a : Nat) : Int).toNat = a from Int.toNat_natCast a] at hret
      refine aw_aldn (n := 25) C dX6_line_24 rfl rfl ?_
      refine aw_aldn (n := 26) C dX6_line_25 rfl rfl ?_
      refine aw_getR (n := 29) C dX6_line_26 rfl fl_X6_13 rfl rfl ?_
      refine aw_ildn (n := 30) C dX6_line_29 rfl rfl ?_
      refine aw_aald (j := a) (n := 31) C dX6_line_30 rfl rfl (by decide) rfl (by omega) (se ha) ?_
      refine aw_ildn (n := 32) C dX6_line_31 rfl rfl ?_
      refine aw_ildn (n := 33) C dX6_line_32 rfl rfl ?_
      refine aw_ildw (n := 35) C dX6_line_33 rfl rfl ?_
      refine aw_cVi (n := 38) (vs := [_, _, _]) C dX6_line_35 rfl rfl rfl mm_X3_faultOfCells wM_X6_69 (ss ha) rfl (Nat.le_of_ble_eq_true rfl) (c_faultOfCells ha ht hi hn (by rw [a1]; exact ha1.1) (by rw [a2]; exact ha1.2)) (by decide) (fun z_35 S_35 q_35 => ?_)
      rw [q_35.1, q_35.2]
      clear q_35 S_35 z_35
      rw [a1, a2, show (if S (2 + a) 1 = -1 then 1 else if S (2 + a) 1 = t then (if n < 0 then 4 else if i < 0 ∨ S (2 + a) 2 < i ∨ S (2 + a) 2 - i < n then 3 else 0) else 2) = fCs (S (2 + a) 1) (S (2 + a) 2) t i n from rfl]
      obtain ⟨F, hF⟩ : ∃ F : Int, fCs (S (2 + a) 1) (S (2 + a) 2) t i n = F := ⟨_, rfl⟩
      rw [hF] at hret ⊢
      have hF2 : 0 ≤ F ∧ F ≤ 4 := by rw [← hF]; unfold fCs; omega
      refine aw_put (z := 8) (n := 41) C dX6_line_38 rfl fp_X6_59 rfl rfl rfl (Or.inl rfl) ?_
      rw [st2_st2]
      refine aw_aldn (n := 42) C dX6_line_41 rfl rfl ?_
      refine aw_getI (z := 8) (n := 45) C dX6_line_42 rfl fl_X6_59 rfl rfl rfl ?_
      rw [st2_s]
      refine aw_ifeq (tgt := 56) (n := 48) C dX6_line_45 rfl rfl (by omega) (fun h_45 => ?_) (fun h_45 => ?_)
      · subst h_45
        unfold fCs at hF
        have c6 : ∀ x, st2 S 0 8 0 (6 + a) x = S (6 + a) x := fun x => st2_c (by omega)
        refine aw_aldn (n := 57) C dX6_line_56 rfl rfl ?_
        refine aw_getR (n := 60) C dX6_line_57 rfl fl_X6_13 rfl rfl ?_
        refine aw_ildn (n := 61) C dX6_line_60 rfl rfl ?_
        refine aw_aald (j := a) (n := 62) C dX6_line_61 rfl rfl (by decide) rfl (by omega) (se ha) ?_
        refine aw_getR (n := 65) C dX6_line_62 rfl fl_X6_73 (ss ha) (ss0 ha) ?_
        refine aw_astw (n := 67) (L' := [_, _, _, _, _, _, _]) C dX6_line_65 rfl (by decide) rfl rfl ?_
        refine aw_aldw (n := 69) C dX6_line_67 rfl rfl ?_
        refine aw_ildn (n := 70) C dX6_line_69 rfl rfl ?_
        refine aw_ildw (n := 72) C dX6_line_70 rfl rfl ?_
        refine aw_cSi (n := 75) (vs := [_, _, _]) C dX6_line_72 rfl rfl rfl mm_X4_firstFault wM_X6_77 (Nat.le_of_ble_eq_true rfl) (c_firstFault ha (by omega) (by omega) (by omega) (fun j => by rw [c6]; exact w5 a j ha)) (by decide) (fun z_72 S_72 q_72 => ?_)
        rw [q_72.1, q_72.2]
        clear q_72 S_72 z_72
        rw [show (fun j => st2 S 0 8 0 (6 + a) (i + j)) = (fun j => S (6 + a) (i + j)) from funext fun j => c6 _]
        obtain ⟨G, hG⟩ : ∃ G : Int, ff (fun j => S (6 + a) (i + j)) n = G := ⟨_, rfl⟩
        rw [hG] at hret ⊢
        refine aw_istw (n := 77) (L' := [_, _, _, _, _, _, _]) C dX6_line_75 rfl (by decide) rfl rfl ?_
        refine aw_ildw (n := 79) C dX6_line_77 rfl rfl ?_
        refine aw_iconst (n := 80) C dX6_line_79 rfl ?_
        have hGr : rng G := by rw [← hG]; have := ff_r (fun j => S (6 + a) (i + j)) n; omega
        refine aw_iceq (tgt := 89) (n := 83) C dX6_line_80 rfl rfl (by omega) (by omega) (fun h_80 => ?_) (fun h_80 => ?_)
        · obtain ⟨mc, P, O, -⟩ := ff_ok (hG.trans h_80)
          have O2 : OKT (fun j => st2 S 0 8 0 (6 + a) (i + j)) n mc P := by rw [show (fun j => st2 S 0 8 0 (6 + a) (i + j)) = (fun j => S (6 + a) (i + j)) from funext fun j => c6 _]; exact O
          refine aw_aldn (n := 90) C dX6_line_89 rfl rfl ?_
          refine aw_getR (n := 93) C dX6_line_90 rfl fl_X6_21 rfl rfl ?_
          refine aw_aldw (n := 95) C dX6_line_93 rfl rfl ?_
          refine aw_ildn (n := 96) C dX6_line_95 rfl rfl ?_
          refine aw_ildw (n := 98) C dX6_line_96 rfl rfl ?_
          refine aw_cVv (n := 101) (vs := [_, _, _]) C dX6_line_98 rfl rfl rfl mm_X5_readFrom wM_X6_83 rfl rfl (Nat.le_of_ble_eq_true rfl) (c_readLine ha (by omega) (by omega) (fun j => by rw [c6]; exact w5 a j ha) O2) (by decide) (fun S_98 q_98 => ?_)
          rw [show (fun j => st2 S 0 8 0 (6 + a) (i + j)) = (fun j => S (6 + a) (i + j)) from funext fun j => c6 _] at q_98
          refine aw_aldn (n := 102) C dX6_line_101 rfl rfl ?_
          refine aw_getR (n := 105) C dX6_line_102 rfl fl_X6_31 rfl rfl ?_
          refine aw_iconst (n := 106) C dX6_line_105 rfl ?_
          refine aw_put (z := 3) (n := 109) C dX6_line_106 rfl fp_X6_87 rfl rfl rfl (Or.inl rfl) ?_
          refine aw_aldn (n := 110) C dX6_line_109 rfl rfl ?_
          refine aw_cVv (n := 113) (vs := []) C dX6_line_110 rfl rfl rfl mm_X6_rideAnew wM_X6_90 rfl rfl (Nat.le_of_ble_eq_true rfl) (c_rideAnew (S := st2 S_98 46 3 0) (TW_o (RDL_TW O q_98) (fun c _ _ => st2_o c (by omega)))) (by decide) (fun S_110 q_110 => ?_)
          skip
          refine aw_aldn (n := 114) C dX6_line_113 rfl rfl ?_
          refine aw_getR (n := 117) C dX6_line_114 rfl fl_X6_21 rfl rfl ?_
          refine aw_getI (z := 9) (n := 120) C dX6_line_117 rfl fl_X6_93 rfl rfl rfl ?_
          refine hret 120 _ _ _ dX6_line_120 (Or.inl rfl) ?_
          rw [if_neg (by omega), if_neg (by omega), if_neg (by omega), if_neg (by omega)]
          refine ⟨mc, P, S_98, O, q_98, q_110, ?_⟩
          rw [q_110.1 10 (by decide) (by decide)]
          exact q_98.2.2.1
        · refine aw_bipush (n := 85) C dX6_line_83 rfl rfl ?_
          refine aw_ildw (n := 87) C dX6_line_85 rfl rfl ?_
          refine aw_isub (n := 88) C dX6_line_87 rfl ?_
          refine hret 88 _ _ _ dX6_line_88 (Or.inl rfl) ?_
          rw [if_neg (by omega), if_neg (by omega), if_neg (by omega), if_pos (by omega)]
          exact ⟨rfl, rfl⟩
      · refine aw_bipush (n := 50) C dX6_line_48 rfl rfl ?_
        refine aw_aldn (n := 51) C dX6_line_50 rfl rfl ?_
        refine aw_getI (z := 8) (n := 54) C dX6_line_51 rfl fl_X6_59 rfl rfl rfl ?_
        rw [st2_s]
        refine aw_isub (n := 55) C dX6_line_54 rfl ?_
        refine hret 55 _ _ _ dX6_line_55 (Or.inl rfl) ?_
        rw [if_neg (by omega), if_neg (by omega), if_pos (by omega)]
        exact ⟨rfl, rfl⟩
    · refine aw_bipush (n := 23) C dX6_line_21 rfl rfl ?_
      refine hret 23 _ _ _ dX6_line_23 (Or.inl rfl) ?_
      rw [if_neg (by omega), if_pos (by omega)]
      exact ⟨rfl, rfl⟩
  · refine aw_iconst (n := 13) C dX6_line_12 rfl ?_
    refine hret 13 _ _ _ dX6_line_13 (Or.inl rfl) ?_
    rw [if_pos (by omega)]
    exact ⟨rfl, rfl⟩
theorem x_seating {S : Mem} {k t i n w : Int} (hk : rng k) (ht : rng t) (hi : rng i) (hn : rng n) (hw : rng w) (W : XW S) : AMi 4 yX6_seating cX6_seating 6 (some .int) [.inr (.inr 0), .inl k, .inl t, .inl i, .inl n, .inl w] S (fun z S' => (if k < 0 ∨ 4 ≤ k then z = -1 ∧ S' = st2 S 0 8 0 else if t < 0 ∨ 3 ≤ t ∨ ¬ ((0 ≤ w ∧ w ≤ 3) ∨ (10 ≤ w ∧ w ≤ 13)) then z = -2 ∧ S' = st2 S 0 8 0 else if fCs (S (2 + k.toNat) 1) (S (2 + k.toNat) 2) t i n ≠ 0 then z = -10 - fCs (S (2 + k.toNat) 1) (S (2 + k.toNat) 2) t i n ∧ S' = st2 S 0 8 (fCs (S (2 + k.toNat) 1) (S (2 + k.toNat) 2) t i n) else if S 10 8 = 0 then z = -3 ∧ S' = st2 S 0 8 0 else if n ≠ S 10 8 * S 10 9 then z = -2 ∧ S' = st2 S 0 8 0 else fr 51 53 (st2 S 0 8 0) S' ∧ (¬ (∀ j, 0 ≤ j → j < n → 0 ≤ S (6 + k.toNat) (i + j) ∧ S (6 + k.toNat) (i + j) < 3) → z = -2) ∧ ((∀ j, 0 ≤ j → j < n → 0 ≤ S (6 + k.toNat) (i + j) ∧ S (6 + k.toNat) (i + j) < 3) → z = aSt (fun j => S (6 + k.toNat) (i + j)) (duC S) (S 11) (S 10 8).toNat (S 10 9).toNat w))) := by
  obtain ⟨T, w2, w3, w4, w5, w6⟩ := W
  obtain ⟨t1, t2, t3, t4, t5, t6⟩ := TW10 T
  have hmp := mp_in t1.1 t1.2 t2.1 t2.2
  refine ami_intro (L := [_, _, _, _, _, _]) (by decide) (Or.inl rfl) rfl (Nat.le_of_ble_eq_true rfl) (fun X C hret => ?_)
  refine aw_aldn (n := 1) C dX6_seating_0 rfl rfl ?_
  refine aw_iconst (n := 2) C dX6_seating_1 rfl ?_
  refine aw_put (z := 8) (n := 5) C dX6_seating_2 rfl fp_X6_59 rfl rfl rfl (Or.inl rfl) ?_
  refine aw_ildn (n := 6) C dX6_seating_5 rfl rfl ?_
  refine aw_cSi (n := 9) (vs := [_]) C dX6_seating_6 rfl rfl rfl mm_X6_noSheet wM_X6_62 (Nat.le_of_ble_eq_true rfl) (c_noSheet hk) (by decide) (fun z_6 S_6 q_6 => ?_)
  rw [q_6.1, q_6.2]
  clear q_6 S_6 z_6
  refine aw_ifeq (tgt := 14) (n := 12) C dX6_seating_9 rfl rfl (by omega) (fun h_9 => ?_) (fun h_9 => ?_)
  · refine aw_ildn (n := 15) C dX6_seating_14 rfl rfl ?_
    refine aw_cSi (n := 18) (vs := [_]) C dX6_seating_15 rfl rfl rfl mm_X6_noLane wM_X6_66 (Nat.le_of_ble_eq_true rfl) (c_noLane ht) (by decide) (fun z_15 S_15 q_15 => ?_)
    rw [q_15.1, q_15.2]
    clear q_15 S_15 z_15
    refine aw_ifne (tgt := 29) (n := 21) C dX6_seating_18 rfl rfl (by omega) (fun h_18 => ?_) (fun h_18 => ?_)
    · refine aw_bipush (n := 31) C dX6_seating_29 rfl rfl ?_
      refine hret 31 _ _ _ dX6_seating_31 (Or.inl rfl) ?_
      rw [if_neg (by omega), if_pos (by omega)]
      exact ⟨rfl, rfl⟩
    · refine aw_ildw (n := 23) C dX6_seating_21 rfl rfl ?_
      refine aw_cSi (n := 26) (vs := [_]) C dX6_seating_23 rfl rfl rfl mm_X6_noQuestionOfSeating wM_X6_151 (Nat.le_of_ble_eq_true rfl) (c_noQuestion hw) (by decide) (fun z_23 S_23 q_23 => ?_)
      rw [q_23.1, q_23.2]
      clear q_23 S_23 z_23
      refine aw_ifeq (tgt := 32) (n := 29) C dX6_seating_26 rfl rfl (by omega) (fun h_26 => ?_) (fun h_26 => ?_)
      · obtain ⟨a, rfl⟩ : ∃ a : Nat, k = a := ⟨k.toNat, by omega⟩
        have ha : a < 4 := by omega
        have ha1 := w4 a ha
        have a1 : st2 S 0 8 0 (2 + a) 1 = S (2 + a) 1 := st2_c (by omega)
        have a2 : st2 S 0 8 0 (2 + a) 2 = S (2 + a) 2 := st2_c (by omega)
        rw [show ((a : Nat) : Int).toNat = a from Int.toNat_natCast a] at hret
        refine aw_aldn (n := 33) C dX6_seating_32 rfl rfl ?_
        refine aw_aldn (n := 34) C dX6_seating_33 rfl rfl ?_
        refine aw_getR (n := 37) C dX6_seating_34 rfl fl_X6_13 rfl rfl ?_
        refine aw_ildn (n := 38) C dX6_seating_37 rfl rfl ?_
        refine aw_aald (j := a) (n := 39) C dX6_seating_38 rfl rfl (by decide) rfl (by omega) (se ha) ?_
        refine aw_ildn (n := 40) C dX6_seating_39 rfl rfl ?_
        refine aw_ildn (n := 41) C dX6_seating_40 rfl rfl ?_
        refine aw_ildw (n := 43) C dX6_seating_41 rfl rfl ?_
        refine aw_cVi (n := 46) (vs := [_, _, _]) C dX6_seating_43 rfl rfl rfl mm_X3_faultOfCells wM_X6_69 (ss ha) rfl (Nat.le_of_ble_eq_true rfl) (c_faultOfCells ha ht hi hn (by rw [a1]; exact ha1.1) (by rw [a2]; exact ha1.2)) (by decide) (fun z_43 S_43 q_43 => ?_)
        rw [q_43.1, q_43.2]
        clear q_43 S_43 z_43
        rw [a1, a2, show (if S (2 + a) 1 = -1 then 1 else if S (2 + a) 1 = t then (if n < 0 then 4 else if i < 0 ∨ S (2 + a) 2 < i ∨ S (2 + a) 2 - i < n then 3 else 0) else 2) = fCs (S (2 + a) 1) (S (2 + a) 2) t i n from rfl]
        obtain ⟨F, hF⟩ : ∃ F : Int, fCs (S (2 + a) 1) (S (2 + a) 2) t i n = F := ⟨_, rfl⟩
        rw [hF] at hret ⊢
        have hF2 : 0 ≤ F ∧ F ≤ 4 := by rw [← hF]; unfold fCs; omega
        refine aw_put (z := 8) (n := 49) C dX6_seating_46 rfl fp_X6_59 rfl rfl rfl (Or.inl rfl) ?_
        rw [st2_st2]
        refine aw_aldn (n := 50) C dX6_seating_49 rfl rfl ?_
        refine aw_getI (z := 8) (n := 53) C dX6_seating_50 rfl fl_X6_59 rfl rfl rfl ?_
        rw [st2_s]
        refine aw_ifeq (tgt := 64) (n := 56) C dX6_seating_53 rfl rfl (by omega) (fun h_53 => ?_) (fun h_53 => ?_)
        · subst h_53
          unfold fCs at hF
          have c6 : ∀ x, st2 S 0 8 0 (6 + a) x = S (6 + a) x := fun x => st2_c (by omega)
          have c8 : st2 S 0 8 0 10 8 = S 10 8 := rfl
          have c9 : st2 S 0 8 0 10 9 = S 10 9 := rfl
          refine aw_aldn (n := 65) C dX6_seating_64 rfl rfl ?_
          refine aw_cVi (n := 68) (vs := []) C dX6_seating_65 rfl rfl rfl mm_X6_noLine wM_X6_108 rfl rfl (Nat.le_of_ble_eq_true rfl) (c_noLine (by omega)) (by decide) (fun z_65 S_65 q_65 => ?_)
          rw [q_65.1, q_65.2]
          clear q_65 S_65 z_65
          rw [c8]
          refine aw_ifeq (tgt := 74) (n := 71) C dX6_seating_68 rfl rfl (by omega) (fun h_68 => ?_) (fun h_68 => ?_)
          · refine aw_ildw (n := 76) C dX6_seating_74 rfl rfl ?_
            refine aw_aldn (n := 77) C dX6_seating_76 rfl rfl ?_
            refine aw_getR (n := 80) C dX6_seating_77 rfl fl_X6_21 rfl rfl ?_
            refine aw_getI (z := 8) (n := 83) C dX6_seating_80 rfl fl_X6_154 rfl rfl rfl ?_
            refine aw_aldn (n := 84) C dX6_seating_83 rfl rfl ?_
            refine aw_getR (n := 87) C dX6_seating_84 rfl fl_X6_21 rfl rfl ?_
            refine aw_getI (z := 9) (n := 90) C dX6_seating_87 rfl fl_X6_93 rfl rfl rfl ?_
            refine aw_imul (n := 91) C dX6_seating_90 rfl ?_
            rw [c8, c9]
            refine aw_icne (tgt := 114) (n := 94) C dX6_seating_91 rfl rfl (by omega) (by omega) (fun h_91 => ?_) (fun h_91 => ?_)
            · refine aw_bipush (n := 116) C dX6_seating_114 rfl rfl ?_
              refine hret 116 _ _ _ dX6_seating_116 (Or.inl rfl) ?_
              rw [if_neg (by omega), if_neg (by omega), if_neg (by omega), if_neg (by omega)]
              first | (rw [if_pos h_91]; exact ⟨rfl, rfl⟩) | (rw [if_neg (by omega)]; exact ⟨fr_w g1 (by omega) (by omega), fun _ => rfl, fun h => by have := g3.mpr h; omega⟩)
            · refine aw_aldn (n := 95) C dX6_seating_94 rfl rfl ?_
              refine aw_getR (n := 98) C dX6_seating_95 rfl fl_X6_40 rfl rfl ?_
              refine aw_aldn (n := 99) C dX6_seating_98 rfl rfl ?_
              refine aw_getR (n := 102) C dX6_seating_99 rfl fl_X6_13 rfl rfl ?_
              refine aw_ildn (n := 103) C dX6_seating_102 rfl rfl ?_
              refine aw_aald (j := a) (n := 104) C dX6_seating_103 rfl rfl (by decide) rfl (by omega) (se ha) ?_
              refine aw_getR (n := 107) C dX6_seating_104 rfl fl_X6_73 (ss ha) (ss0 ha) ?_
              refine aw_ildn (n := 108) C dX6_seating_107 rfl rfl ?_
              refine aw_cVi (n := 111) (vs := [_, _]) C dX6_seating_108 rfl rfl rfl mm_X2_readFrom wM_X6_157 rfl rfl (Nat.le_of_ble_eq_true rfl) (c_readFrom ha (by omega) (by omega) (by omega) (by rw [c8, c9]; omega) (fun j => by rw [c6]; exact w5 a j ha)) (by decide) (fun z_108 S_108 q_108 => ?_)
              obtain ⟨g1, g2, g3, g4⟩ := q_108
              rw [c8, c9] at g3 g4
              simp only [c6] at g3 g4
              rw [← h_91] at g3 g4
              refine aw_ifne (tgt := 117) (n := 114) C dX6_seating_111 rfl rfl (by omega) (fun h_111 => ?_) (fun h_111 => ?_)
              · have z1 : z_108 = 1 := by omega
                have cls := g3.mp z1
                have row := g4 z1
                have e10 : S_108 10 = S 10 := (g1 10 (by omega)).trans (st2_o 10 (by decide))
                have e11 : S_108 11 = S 11 := (g1 11 (by omega)).trans (st2_o 11 (by decide))
                have hSW : SW S_108 (S 10 8).toNat (S 10 9).toNat := by
                  unfold SW
                  rw [e10]
                  refine ⟨by omega, by omega, by omega, by omega, fun j j0 j1 => ?_, by omega, by omega, fun m hm p p0 p1 => ?_⟩
                  · rw [row j j0 (by omega)]; exact cls j j0 (by omega)
                  · rw [g1 (19 + m) (by omega), st2_o (19 + m) (by omega)]
                    have := w3 m (by omega) p p0 p1
                    omega
                refine aw_aldn (n := 118) C dX6_seating_117 rfl rfl ?_
                refine aw_ildw (n := 120) C dX6_seating_118 rfl rfl ?_
                refine aw_cVi (n := 123) (vs := [_]) C dX6_seating_120 rfl rfl rfl mm_X6_ofSeating wM_X6_160 rfl rfl (Nat.le_of_ble_eq_true rfl) (c_ofSeating hSW (by omega) (by rw [e11]; exact w2) (by omega)) (by decide) (fun z_120 S_120 q_120 => ?_)
                obtain ⟨r1, r2⟩ := q_120
                rw [r1]
                refine hret 123 _ _ _ dX6_seating_123 (Or.inl rfl) ?_
                rw [if_neg (by omega), if_neg (by omega), if_neg (by omega), if_neg (by omega), if_neg (by omega)]
                refine ⟨fr_tr (fr_w g1 (by omega) (by omega)) (fr_w r2 (by omega) (by omega)), fun h => absurd cls h, fun _ => ?_⟩
                refine aSt_congr (by omega) (by omega) (fun x hx => ?_) (fun m p hm hp => ?_) (fun c c0 c1 => ?_)
                · have hx2 : ((x : Nat) : Int) < n := by
                    rw [h_91]
                    have : ((x : Nat) : Int) < (((S 10 8).toNat * (S 10 9).toNat : Nat) : Int) := by omega
                    rw [Int.natCast_mul, show ((S 10 8).toNat : Int) = S 10 8 by omega, show ((S 10 9).toNat : Int) = S 10 9 by omega] at this
                    exact this
                  exact row x (by omega) hx2
                · rw [duC_fr (lo := 51) (hi := 52) g1 (by omega)]
                  unfold duC
                  rw [st2_o 10 (by decide), st2_o (19 + (min (m : Int) 8).toNat) (by omega)]
                · rw [e11]
              · refine aw_bipush (n := 116) C dX6_seating_114 rfl rfl ?_
                refine hret 116 _ _ _ dX6_seating_116 (Or.inl rfl) ?_
                rw [if_neg (by omega), if_neg (by omega), if_neg (by omega), if_neg (by omega)]
                first | (rw [if_pos h_91]; exact ⟨rfl, rfl⟩) | (rw [if_neg (by omega)]; exact ⟨fr_w g1 (by omega) (by omega), fun _ => rfl, fun h => by have := g3.mpr h; omega⟩)
          · refine aw_bipush (n := 73) C dX6_seating_71 rfl rfl ?_
            refine hret 73 _ _ _ dX6_seating_73 (Or.inl rfl) ?_
            rw [if_neg (by omega), if_neg (by omega), if_neg (by omega), if_pos (by omega)]
            exact ⟨rfl, rfl⟩
        · refine aw_bipush (n := 58) C dX6_seating_56 rfl rfl ?_
          refine aw_aldn (n := 59) C dX6_seating_58 rfl rfl ?_
          refine aw_getI (z := 8) (n := 62) C dX6_seating_59 rfl fl_X6_59 rfl rfl rfl ?_
          rw [st2_s]
          refine aw_isub (n := 63) C dX6_seating_62 rfl ?_
          refine hret 63 _ _ _ dX6_seating_63 (Or.inl rfl) ?_
          rw [if_neg (by omega), if_neg (by omega), if_pos (by omega)]
          exact ⟨rfl, rfl⟩
      · refine aw_bipush (n := 31) C dX6_seating_29 rfl rfl ?_
        refine hret 31 _ _ _ dX6_seating_31 (Or.inl rfl) ?_
        rw [if_neg (by omega), if_pos (by omega)]
        exact ⟨rfl, rfl⟩
  · refine aw_iconst (n := 13) C dX6_seating_12 rfl ?_
    refine hret 13 _ _ _ dX6_seating_13 (Or.inl rfl) ?_
    rw [if_pos (by omega)]
    exact ⟨rfl, rfl⟩
