/-! RegretLine: copies, seatings -/
theorem x_copy {S : Mem} {k i o j n : Int} (hk : rng k) (hi : rng i) (ho : rng o) (hj : rng j) (hn : rng n) (h : ∀ j : Nat, j < 4 → rng (S (2 + j) 1) ∧ 0 ≤ S (2 + j) 2 ∧ S (2 + j) 2 ≤ 60) : AMi 1 yX6_copy cX6_copy 8 (some .int) [.inr (.inr 0), .inl k, .inl i, .inl o, .inl j, .inl n] S (fun z S' => (if k < 0 ∨ 4 ≤ k ∨ o < 0 ∨ 4 ≤ o then z = -1 ∧ S' = st2 S 0 8 0 else if S (2 + k.toNat) 1 = -1 ∨ S (2 + o.toNat) 1 = -1 then z = -11 ∧ S' = st2 S 0 8 1 else if S (2 + k.toNat) 1 ≠ S (2 + o.toNat) 1 then z = -12 ∧ S' = st2 S 0 8 2 else if n < 0 ∨ (i < 0 ∨ S (2 + k.toNat) 2 < i ∨ S (2 + k.toNat) 2 - i < n) ∨ (j < 0 ∨ S (2 + o.toNat) 2 < j ∨ S (2 + o.toNat) 2 - j < n) then z = -13 ∧ S' = st2 S 0 8 3 else z = n ∧ S' = cp2 (st2 S 0 8 0) (6 + k.toNat) i (6 + o.toNat) j n)) := by
  refine ami_intro (L := [_, _, _, _, _, _, none, none]) (by decide) (Or.inl rfl) rfl (Nat.le_of_ble_eq_true rfl) (fun X C hret => ?_)
  refine aw_aldn (n := 1) C dX6_copy_0 rfl rfl ?_
  refine aw_iconst (n := 2) C dX6_copy_1 rfl ?_
  refine aw_put (z := 8) (n := 5) C dX6_copy_2 rfl fp_X6_59 rfl rfl rfl (Or.inl rfl) ?_
  refine aw_ildn (n := 6) C dX6_copy_5 rfl rfl ?_
  refine aw_cSi (n := 9) (vs := [_]) C dX6_copy_6 rfl rfl rfl mm_X6_noSheet wM_X6_62 (Nat.le_of_ble_eq_true rfl) (c_noSheet hk) (by decide) (fun z_6 S_6 q_6 => ?_)
  rw [q_6.1, q_6.2]
  clear q_6 S_6 z_6
  refine aw_ifne (tgt := 19) (n := 12) C dX6_copy_9 rfl rfl (by omega) (fun h_9 => ?_) (fun h_9 => ?_)
  · refine aw_iconst (n := 20) C dX6_copy_19 rfl ?_
    refine hret 20 _ _ _ dX6_copy_20 (Or.inl rfl) ?_
    rw [if_pos (by omega)]
    exact ⟨rfl, rfl⟩
  · refine aw_ildn (n := 13) C dX6_copy_12 rfl rfl ?_
    refine aw_cSi (n := 16) (vs := [_]) C dX6_copy_13 rfl rfl rfl mm_X6_noSheet wM_X6_62 (Nat.le_of_ble_eq_true rfl) (c_noSheet ho) (by decide) (fun z_13 S_13 q_13 => ?_)
    rw [q_13.1, q_13.2]
    clear q_13 S_13 z_13
    refine aw_ifeq (tgt := 21) (n := 19) C dX6_copy_16 rfl rfl (by omega) (fun h_16 => ?_) (fun h_16 => ?_)
    · obtain ⟨a, rfl⟩ : ∃ a : Nat, k = a := ⟨k.toNat, by omega⟩
      obtain ⟨b, rfl⟩ : ∃ b : Nat, o = b := ⟨o.toNat, by omega⟩
      have ha : a < 4 := by omega
      have hb : b < 4 := by omega
      have ha1 := h a ha
      have hb1 := h b hb
      have a1 : st2 S 0 8 0 (2 + a) 1 = S (2 + a) 1 := st2_c (by omega)
      have a2 : st2 S 0 8 0 (2 + a) 2 = S (2 + a) 2 := st2_c (by omega)
      have b1 : st2 S 0 8 0 (2 + b) 1 = S (2 + b) 1 := st2_c (by omega)
      have b2 : st2 S 0 8 0 (2 + b) 2 = S (2 + b) 2 := st2_c (by omega)
      rw [show ((a : Nat) : Int).toNat = a from Int.toNat_natCast a, show ((b : Nat) : Int).toNat = b from Int.toNat_natCast b] at hret
      refine aw_aldn (n := 22) C dX6_copy_21 rfl rfl ?_
      refine aw_getR (n := 25) C dX6_copy_22 rfl fl_X6_13 rfl rfl ?_
      refine aw_ildn (n := 26) C dX6_copy_25 rfl rfl ?_
      refine aw_aald (j := a) (n := 27) C dX6_copy_26 rfl rfl (by decide) rfl (by omega) (se ha) ?_
      refine aw_astw (n := 29) (L' := [_, _, _, _, _, _, _, _]) C dX6_copy_27 rfl (by decide) rfl rfl ?_
      refine aw_aldn (n := 30) C dX6_copy_29 rfl rfl ?_
      refine aw_getR (n := 33) C dX6_copy_30 rfl fl_X6_13 rfl rfl ?_
      refine aw_ildn (n := 34) C dX6_copy_33 rfl rfl ?_
      refine aw_aald (j := b) (n := 35) C dX6_copy_34 rfl rfl (by decide) rfl (by omega) (se hb) ?_
      refine aw_astw (n := 37) (L' := [_, _, _, _, _, _, _, _]) C dX6_copy_35 rfl (by decide) rfl rfl ?_
      refine aw_aldw (n := 39) C dX6_copy_37 rfl rfl ?_
      refine aw_cVi (n := 42) (vs := []) C dX6_copy_39 rfl rfl rfl mm_X3_hasNothing wM_X6_233 (ss ha) rfl (Nat.le_of_ble_eq_true rfl) (c_hasNothing ha (by rw [a1]; exact ha1.1)) (by decide) (fun z_39 S_39 q_39 => ?_)
      rw [q_39.1, q_39.2]
      clear q_39 S_39 z_39
      refine aw_ifne (tgt := 53) (n := 45) C dX6_copy_42 rfl rfl (by omega) (fun h_42 => ?_) (fun h_42 => ?_)
      · refine aw_aldn (n := 54) C dX6_copy_53 rfl rfl ?_
        refine aw_iconst (n := 55) C dX6_copy_54 rfl ?_
        refine aw_cVi (n := 58) (vs := [_]) C dX6_copy_55 rfl rfl rfl mm_X6_comeTo wM_X6_226 rfl rfl (Nat.le_of_ble_eq_true rfl) (c_comeTo) (by decide) (fun z_55 S_55 q_55 => ?_)
        rw [q_55.1, q_55.2]
        clear q_55 S_55 z_55
        refine hret 58 _ _ _ dX6_copy_58 (Or.inl rfl) ?_
        rw [if_neg (by omega), if_pos (by omega), st2_st2]
        exact ⟨rfl, rfl⟩
      · refine aw_aldw (n := 47) C dX6_copy_45 rfl rfl ?_
        refine aw_cVi (n := 50) (vs := []) C dX6_copy_47 rfl rfl rfl mm_X3_hasNothing wM_X6_233 (ss hb) rfl (Nat.le_of_ble_eq_true rfl) (c_hasNothing hb (by rw [b1]; exact hb1.1)) (by decide) (fun z_47 S_47 q_47 => ?_)
        rw [q_47.1, q_47.2]
        clear q_47 S_47 z_47
        refine aw_ifeq (tgt := 59) (n := 53) C dX6_copy_50 rfl rfl (by omega) (fun h_50 => ?_) (fun h_50 => ?_)
        · refine aw_aldw (n := 61) C dX6_copy_59 rfl rfl ?_
          refine aw_getI (z := 1) (n := 64) C dX6_copy_61 rfl fl_X6_236 (ss ha) (ss1 ha) rfl ?_
          refine aw_aldw (n := 66) C dX6_copy_64 rfl rfl ?_
          refine aw_getI (z := 1) (n := 69) C dX6_copy_66 rfl fl_X6_236 (ss hb) (ss1 hb) rfl ?_
          refine aw_iceq (tgt := 78) (n := 72) C dX6_copy_69 rfl rfl (by rw [a1]; exact ha1.1) (by rw [b1]; exact hb1.1) (fun h_69 => ?_) (fun h_69 => ?_)
          · refine aw_ildw (n := 80) C dX6_copy_78 rfl rfl ?_
            refine aw_iflt (tgt := 106) (n := 83) C dX6_copy_80 rfl rfl (by omega) (fun h_80 => ?_) (fun h_80 => ?_)
            · refine aw_aldn (n := 107) C dX6_copy_106 rfl rfl ?_
              refine aw_iconst (n := 108) C dX6_copy_107 rfl ?_
              refine aw_cVi (n := 111) (vs := [_]) C dX6_copy_108 rfl rfl rfl mm_X6_comeTo wM_X6_226 rfl rfl (Nat.le_of_ble_eq_true rfl) (c_comeTo) (by decide) (fun z_108 S_108 q_108 => ?_)
              rw [q_108.1, q_108.2]
              clear q_108 S_108 z_108
              refine hret 111 _ _ _ dX6_copy_111 (Or.inl rfl) ?_
              rw [if_neg (by omega), if_neg (by omega), if_neg (by omega), if_pos (by omega), st2_st2]
              exact ⟨rfl, rfl⟩
            · refine aw_aldw (n := 85) C dX6_copy_83 rfl rfl ?_
              refine aw_ildn (n := 86) C dX6_copy_85 rfl rfl ?_
              refine aw_ildw (n := 88) C dX6_copy_86 rfl rfl ?_
              refine aw_cVi (n := 91) (vs := [_, _]) C dX6_copy_88 rfl rfl rfl mm_X3_lacksCells wM_X6_248 (ss ha) rfl (Nat.le_of_ble_eq_true rfl) (c_lacksCells ha hi hn (by rw [a2]; exact ha1.2)) (by decide) (fun z_88 S_88 q_88 => ?_)
              rw [q_88.1, q_88.2]
              clear q_88 S_88 z_88
              refine aw_ifne (tgt := 106) (n := 94) C dX6_copy_91 rfl rfl (by omega) (fun h_91 => ?_) (fun h_91 => ?_)
              · refine aw_aldn (n := 107) C dX6_copy_106 rfl rfl ?_
                refine aw_iconst (n := 108) C dX6_copy_107 rfl ?_
                refine aw_cVi (n := 111) (vs := [_]) C dX6_copy_108 rfl rfl rfl mm_X6_comeTo wM_X6_226 rfl rfl (Nat.le_of_ble_eq_true rfl) (c_comeTo) (by decide) (fun z_108 S_108 q_108 => ?_)
                rw [q_108.1, q_108.2]
                clear q_108 S_108 z_108
                refine hret 111 _ _ _ dX6_copy_111 (Or.inl rfl) ?_
                rw [if_neg (by omega), if_neg (by omega), if_neg (by omega), if_pos (by omega), st2_st2]
                exact ⟨rfl, rfl⟩
              · refine aw_aldw (n := 96) C dX6_copy_94 rfl rfl ?_
                refine aw_ildw (n := 98) C dX6_copy_96 rfl rfl ?_
                refine aw_ildw (n := 100) C dX6_copy_98 rfl rfl ?_
                refine aw_cVi (n := 103) (vs := [_, _]) C dX6_copy_100 rfl rfl rfl mm_X3_lacksCells wM_X6_248 (ss hb) rfl (Nat.le_of_ble_eq_true rfl) (c_lacksCells hb hj hn (by rw [b2]; exact hb1.2)) (by decide) (fun z_100 S_100 q_100 => ?_)
                rw [q_100.1, q_100.2]
                clear q_100 S_100 z_100
                refine aw_ifeq (tgt := 112) (n := 106) C dX6_copy_103 rfl rfl (by omega) (fun h_103 => ?_) (fun h_103 => ?_)
                · refine aw_aldw (n := 114) C dX6_copy_112 rfl rfl ?_
                  refine aw_getR (n := 117) C dX6_copy_114 rfl fl_X6_73 (ss ha) (ss0 ha) ?_
                  refine aw_ildn (n := 118) C dX6_copy_117 rfl rfl ?_
                  refine aw_aldw (n := 120) C dX6_copy_118 rfl rfl ?_
                  refine aw_getR (n := 123) C dX6_copy_120 rfl fl_X6_73 (ss hb) (ss0 hb) ?_
                  refine aw_ildw (n := 125) C dX6_copy_123 rfl rfl ?_
                  refine aw_ildw (n := 127) C dX6_copy_125 rfl rfl ?_
                  refine aw_copy (n := 130) C dX6_copy_127 rfl wM_X6_251 wNat wS_arraycopyName wI_J10 (by decide) (Nat.le_of_ble_eq_true rfl) (sc ha) (sc hb) (by decide) (by decide) (by omega) (by omega) (by omega) (by omega) (by omega) ?_
                  refine aw_ildw (n := 132) C dX6_copy_130 rfl rfl ?_
                  refine hret 132 _ _ _ dX6_copy_132 (Or.inl rfl) ?_
                  rw [if_neg (by omega), if_neg (by omega), if_neg (by omega), if_neg (by omega)]
                  exact ⟨rfl, rfl⟩
                · refine aw_aldn (n := 107) C dX6_copy_106 rfl rfl ?_
                  refine aw_iconst (n := 108) C dX6_copy_107 rfl ?_
                  refine aw_cVi (n := 111) (vs := [_]) C dX6_copy_108 rfl rfl rfl mm_X6_comeTo wM_X6_226 rfl rfl (Nat.le_of_ble_eq_true rfl) (c_comeTo) (by decide) (fun z_108 S_108 q_108 => ?_)
                  rw [q_108.1, q_108.2]
                  clear q_108 S_108 z_108
                  refine hret 111 _ _ _ dX6_copy_111 (Or.inl rfl) ?_
                  rw [if_neg (by omega), if_neg (by omega), if_neg (by omega), if_pos (by omega), st2_st2]
                  exact ⟨rfl, rfl⟩
          · refine aw_aldn (n := 73) C dX6_copy_72 rfl rfl ?_
            refine aw_iconst (n := 74) C dX6_copy_73 rfl ?_
            refine aw_cVi (n := 77) (vs := [_]) C dX6_copy_74 rfl rfl rfl mm_X6_comeTo wM_X6_226 rfl rfl (Nat.le_of_ble_eq_true rfl) (c_comeTo) (by decide) (fun z_74 S_74 q_74 => ?_)
            rw [q_74.1, q_74.2]
            clear q_74 S_74 z_74
            refine hret 77 _ _ _ dX6_copy_77 (Or.inl rfl) ?_
            rw [if_neg (by omega), if_neg (by omega), if_pos (by omega), st2_st2]
            exact ⟨rfl, rfl⟩
        · refine aw_aldn (n := 54) C dX6_copy_53 rfl rfl ?_
          refine aw_iconst (n := 55) C dX6_copy_54 rfl ?_
          refine aw_cVi (n := 58) (vs := [_]) C dX6_copy_55 rfl rfl rfl mm_X6_comeTo wM_X6_226 rfl rfl (Nat.le_of_ble_eq_true rfl) (c_comeTo) (by decide) (fun z_55 S_55 q_55 => ?_)
          rw [q_55.1, q_55.2]
          clear q_55 S_55 z_55
          refine hret 58 _ _ _ dX6_copy_58 (Or.inl rfl) ?_
          rw [if_neg (by omega), if_pos (by omega), st2_st2]
          exact ⟨rfl, rfl⟩
    · refine aw_iconst (n := 20) C dX6_copy_19 rfl ?_
      refine hret 20 _ _ _ dX6_copy_20 (Or.inl rfl) ?_
      rw [if_pos (by omega)]
      exact ⟨rfl, rfl⟩
/-- what a seating is asked -/
def aSt (q : Fn) (du : Int → Int → Int) (se : Fn) (M P : Nat) (w : Int) : Int :=
  if w = 1 then fst1 (bad q P se) M 0 else if fst1 (bad q P se) M 0 ≠ -9 then -100 - fst1 (bad q P se) M 0 else if w = 0 then sm (fCh q P) ((M - 1) * P) + sm (fLo q P du) (M * P) else if w = 2 then sm (fCh q P) ((M - 1) * P) else if w = 3 then sm (fun p => sm (fAb q P du p) M) P else if (P : Int) ≤ w - 10 then -9 else sm (fAb q P du (w - 10)) M
theorem fst1_r (b : Nat → Bool) : ∀ n i : Nat, fst1 b n i = -9 ∨ ((i : Int) ≤ fst1 b n i ∧ fst1 b n i < i + n)
  | 0, _ => Or.inl rfl
  | n + 1, i => by
    unfold fst1
    split
    · exact Or.inr ⟨Int.le_refl _, by omega⟩
    · rcases fst1_r b n (i + 1) with h | h
      · exact Or.inl h
      · exact Or.inr (by omega)
theorem cn_congr {q q' : Fn} {P m c : Int} {p : Nat} (h : ∀ x : Nat, x < p → q (m * P + x) = q' (m * P + x)) : cn q P m c p = cn q' P m c p := by
  unfold cn
  exact sm_congr (fun x hx => by rw [h x hx])
theorem aSt_congr {q q' : Fn} {du du' : Int → Int → Int} {se se' : Fn} {M P : Nat} {w : Int} (hM : 0 < M) (hw : (0 ≤ w ∧ w ≤ 3) ∨ (10 ≤ w ∧ w ≤ 13)) (hq : ∀ k : Nat, k < M * P → q k = q' k) (hd : ∀ m p : Nat, m < M → p < P → du m p = du' m p) (hs : ∀ c, 0 ≤ c → c < 3 → se c = se' c) : aSt q du se M P w = aSt q' du' se' M P w := by
  have hix : ∀ m p : Nat, m < M → p < P → m * P + p < M * P := fun m p hm hp => by
    have : (m + 1) * P ≤ M * P := Nat.mul_le_mul_right P hm
    rw [Nat.succ_mul] at this
    omega
  have hqi : ∀ m p : Nat, m < M → p < P → q ((m : Int) * P + p) = q' ((m : Int) * P + p) := fun m p hm hp => by
    have := hq (m * P + p) (hix m p hm hp)
    rw [Int.natCast_add, Int.natCast_mul] at this
    exact this
  have e1 : fst1 (bad q P se) M 0 = fst1 (bad q' P se') M 0 := fst1_congr M 0 (fun k _ hk => by
    unfold bad
    rw [Int.toNat_natCast, hs 0 (by omega) (by omega), hs 1 (by omega) (by omega), hs 2 (by omega) (by omega), cn_congr (c := 0) (fun x hx => hqi k x (by omega) hx), cn_congr (c := 1) (fun x hx => hqi k x (by omega) hx), cn_congr (c := 2) (fun x hx => hqi k x (by omega) hx)])
  have e2 : sm (fCh q P) ((M - 1) * P) = sm (fCh q' P) ((M - 1) * P) := sm_congr (fun k hk => by
    have hmp : (M - 1) * P + P = M * P := by rw [← Nat.succ_mul]; congr 1; omega
    unfold fCh
    have h1 := hq k (by omega)
    have h2 := hq (k + P) (by omega)
    rw [Int.natCast_add] at h2
    rw [h1, h2])
  have e3 : sm (fLo q P du) (M * P) = sm (fLo q' P du') (M * P) := sm_congr (fun k hk => by
    have hP : 0 < P := Nat.pos_of_ne_zero (fun h => by rw [h, Nat.mul_zero] at hk; omega)
    have h1 : k / P < M := by rw [Nat.div_lt_iff_lt_mul hP]; exact hk
    have h2 : k % P < P := Nat.mod_lt _ hP
    have hd2 := hd (k / P) (k % P) h1 h2
    rw [Int.natCast_ediv, Int.natCast_emod] at hd2
    unfold fLo
    rw [hq k hk, hd2])
  have e4 : ∀ p : Nat, p < P → sm (fAb q P du p) M = sm (fAb q' P du' p) M := fun p hp => sm_congr (fun m hm => by
    unfold fAb
    rw [hqi m p hm hp, hd m p hm hp])
  unfold aSt
  rw [e1, e2, e3, sm_congr (f := fun p => sm (fAb q P du p) M) (fun p hp => e4 p hp)]
  by_cases h : (P : Int) ≤ w - 10
  · rw [if_pos h, if_pos h]
  · rw [if_neg h, if_neg h]
    by_cases h4 : 10 ≤ w
    · have := e4 (w - 10).toNat (by omega)
      rw [show (((w - 10).toNat : Nat) : Int) = w - 10 by omega] at this
      rw [this]
    · split
      · rfl
      split
      · rfl
      split
      · rfl
      split
      · rfl
      split
      · rfl
      · omega
theorem SW_fr {S S' : Mem} {M P : Nat} (h : SW S M P) (hf : fr 52 53 S S') : SW S' M P := by
  obtain ⟨h1, h2, h3, h4, h5, h6, h7, h8⟩ := h
  unfold SW
  rw [hf 10 (by omega), hf 51 (by omega)]
  exact ⟨h1, h2, h3, h4, h5, h6, h7, fun m hm p p0 p1 => by rw [hf (19 + m) (by omega)]; exact h8 m hm p p0 p1⟩
theorem duC_fr {S S' : Mem} {lo hi : Nat} (hf : fr lo hi S S') (hlo : 28 ≤ lo) : duC S' = duC S := by
  funext m p
  unfold duC
  rw [hf 10 (by omega), hf (19 + (min m 8).toNat) (by omega)]
theorem sm_nn {f : Nat → Int} {n : Nat} (h : ∀ k, k < n → 0 ≤ f k ∧ f k ≤ 2) (hn : n ≤ 1000) : 0 ≤ sm f n ∧ sm f n ≤ 2000 := by
  have := sm_r h
  omega
theorem c_ofSeating {S : Mem} {M P : Nat} {w : Int} (hS : SW S M P) (hM : 0 < M) (hse : ∀ c, 0 ≤ c → c < 3 → 0 ≤ S 11 c ∧ S 11 c ≤ 4) (hw : (0 ≤ w ∧ w ≤ 3) ∨ (10 ≤ w ∧ w ≤ 13)) : AMi 3 yX6_ofSeating cX6_ofSeating 3 (some .int) [.inr (.inr 0), .inl w] S (fun z S' => z = aSt (S 51) (duC S) (S 11) M P w ∧ fr 52 53 S S') := by
  obtain ⟨h1, h2, h3, h4, -⟩ := id hS
  have hfw := fst1_r (bad (S 51) (S 10 9) (S 11)) M 0
  refine ami_intro (L := [_, _, none]) (by decide) (Or.inl rfl) rfl (Nat.le_of_ble_eq_true rfl) (fun X C hret => ?_)
  refine aw_aldn (n := 1) C dX6_ofSeating_0 rfl rfl ?_
  refine aw_getR (n := 4) C dX6_ofSeating_1 rfl fl_X6_40 rfl rfl ?_
  refine aw_cVi (n := 7) (vs := []) C dX6_ofSeating_4 rfl rfl rfl mm_X2_firstWrong wM_X6_164 rfl rfl (Nat.le_of_ble_eq_true rfl) (c_firstWrong hS hse) (by decide) (fun z_4 S_4 q_4 => ?_)
  obtain ⟨e1, hf⟩ := q_4
  rw [e1]
  have hS1 := SW_fr hS hf
  have d1 := duC_fr hf (by omega)
  have d2 : S_4 51 = S 51 := hf 51 (by omega)
  have d3 : S_4 10 9 = S 10 9 := congrFun (hf 10 (by omega)) 9
  unfold aSt at hret
  rw [← h2] at hret
  refine aw_istn (n := 8) (L' := [_, _, _]) C dX6_ofSeating_7 rfl (by decide) rfl rfl ?_
  refine aw_ildn (n := 9) C dX6_ofSeating_8 rfl rfl ?_
  refine aw_iconst (n := 10) C dX6_ofSeating_9 rfl ?_
  refine aw_icne (tgt := 15) (n := 13) C dX6_ofSeating_10 rfl rfl (by omega) (by omega) (fun h_10 => ?_) (fun h_10 => ?_)
  · refine aw_ildn (n := 16) C dX6_ofSeating_15 rfl rfl ?_
    refine aw_bipush (n := 18) C dX6_ofSeating_16 rfl rfl ?_
    refine aw_iceq (tgt := 26) (n := 21) C dX6_ofSeating_18 rfl rfl (by omega) (by omega) (fun h_18 => ?_) (fun h_18 => ?_)
    · refine aw_ildn (n := 27) C dX6_ofSeating_26 rfl rfl ?_
      have r27 : rng w := by omega
      by_cases w0 : w = 0
      · refine aw_tableIn (tgt := 56) (off := 29) C dX6_ofSeating_27 r27 (by omega) (by omega) (by rw [w0]; rfl) rfl ?_
        refine aw_aldn (n := 57) C dX6_ofSeating_56 rfl rfl ?_
        refine aw_getR (n := 60) C dX6_ofSeating_57 rfl fl_X6_40 rfl rfl ?_
        refine aw_cVi (n := 63) (vs := []) C dX6_ofSeating_60 rfl rfl rfl mm_X2_countChanges wM_X6_168 rfl rfl (Nat.le_of_ble_eq_true rfl) (c_countChanges hS1 hM) (by decide) (fun z_60 S_60 q_60 => ?_)
        rw [q_60.1, q_60.2]
        clear q_60 S_60 z_60
        refine aw_aldn (n := 64) C dX6_ofSeating_63 rfl rfl ?_
        refine aw_getR (n := 67) C dX6_ofSeating_64 rfl fl_X6_40 rfl rfl ?_
        refine aw_cVi (n := 70) (vs := []) C dX6_ofSeating_67 rfl rfl rfl mm_X2_countLow wM_X6_171 rfl rfl (Nat.le_of_ble_eq_true rfl) (c_countLow hS1) (by decide) (fun z_67 S_67 q_67 => ?_)
        rw [q_67.1, q_67.2]
        clear q_67 S_67 z_67
        refine aw_iadd (n := 71) C dX6_ofSeating_70 rfl ?_
        refine hret 71 _ _ _ dX6_ofSeating_71 (Or.inl rfl) ?_
        exact ⟨by rw [if_neg (by omega), if_neg (by omega), if_pos w0, d1, d2, h2], hf⟩
      by_cases w2 : w = 2
      · refine aw_tableIn (tgt := 72) (off := 45) C dX6_ofSeating_27 r27 (by omega) (by omega) (by rw [w2]; rfl) rfl ?_
        refine aw_aldn (n := 73) C dX6_ofSeating_72 rfl rfl ?_
        refine aw_getR (n := 76) C dX6_ofSeating_73 rfl fl_X6_40 rfl rfl ?_
        refine aw_cVi (n := 79) (vs := []) C dX6_ofSeating_76 rfl rfl rfl mm_X2_countChanges wM_X6_168 rfl rfl (Nat.le_of_ble_eq_true rfl) (c_countChanges hS1 hM) (by decide) (fun z_76 S_76 q_76 => ?_)
        rw [q_76.1, q_76.2]
        clear q_76 S_76 z_76
        refine hret 79 _ _ _ dX6_ofSeating_79 (Or.inl rfl) ?_
        exact ⟨by rw [if_neg (by omega), if_neg (by omega), if_neg w0, if_pos w2, d2, h2], hf⟩
      by_cases w3 : w = 3
      · refine aw_tableIn (tgt := 80) (off := 53) C dX6_ofSeating_27 r27 (by omega) (by omega) (by rw [w3]; rfl) rfl ?_
        refine aw_aldn (n := 81) C dX6_ofSeating_80 rfl rfl ?_
        refine aw_getR (n := 84) C dX6_ofSeating_81 rfl fl_X6_40 rfl rfl ?_
        refine aw_cVi (n := 87) (vs := []) C dX6_ofSeating_84 rfl rfl rfl mm_X2_countAbove wM_X6_174 rfl rfl (Nat.le_of_ble_eq_true rfl) (c_countAbove hS1) (by decide) (fun z_84 S_84 q_84 => ?_)
        rw [q_84.1, q_84.2]
        clear q_84 S_84 z_84
        refine hret 87 _ _ _ dX6_ofSeating_87 (Or.inl rfl) ?_
        exact ⟨by rw [if_neg (by omega), if_neg (by omega), if_neg w0, if_neg w2, if_pos w3, d1, d2, h2], hf⟩
      refine aw_tableOut (tgt := 88) C dX6_ofSeating_27 r27 (by omega) rfl ?_
      refine aw_aldn (n := 89) C dX6_ofSeating_88 rfl rfl ?_
      refine aw_ildn (n := 90) C dX6_ofSeating_89 rfl rfl ?_
      refine aw_bipush (n := 92) C dX6_ofSeating_90 rfl rfl ?_
      refine aw_isub (n := 93) C dX6_ofSeating_92 rfl ?_
      refine aw_cVi (n := 96) (vs := [_]) C dX6_ofSeating_93 rfl rfl rfl mm_X6_noPassenger wM_X6_96 rfl rfl (Nat.le_of_ble_eq_true rfl) (c_noPassenger (by omega) (by omega)) (by decide) (fun z_93 S_93 q_93 => ?_)
      rw [q_93.1, q_93.2]
      clear q_93 S_93 z_93
      refine aw_ifeq (tgt := 104) (n := 99) C dX6_ofSeating_96 rfl rfl (by omega) (fun h_96 => ?_) (fun h_96 => ?_)
      · refine aw_aldn (n := 105) C dX6_ofSeating_104 rfl rfl ?_
        refine aw_getR (n := 108) C dX6_ofSeating_105 rfl fl_X6_40 rfl rfl ?_
        refine aw_ildn (n := 109) C dX6_ofSeating_108 rfl rfl ?_
        refine aw_bipush (n := 111) C dX6_ofSeating_109 rfl rfl ?_
        refine aw_isub (n := 112) C dX6_ofSeating_111 rfl ?_
        obtain ⟨x, hx⟩ : ∃ x : Nat, w - 10 = x := ⟨(w - 10).toNat, by omega⟩
        rw [hx]
        refine aw_cVi (n := 115) (vs := [_]) C dX6_ofSeating_112 rfl rfl rfl mm_X2_milesAbove wM_X6_177 rfl rfl (Nat.le_of_ble_eq_true rfl) (c_milesAbove (p := x) hS1 (by omega)) (by decide) (fun z_112 S_112 q_112 => ?_)
        rw [q_112.1, q_112.2]
        clear q_112 S_112 z_112
        refine hret 115 _ _ _ dX6_ofSeating_115 (Or.inl rfl) ?_
        first | exact ⟨by rw [if_neg (by omega), if_neg (by omega), if_neg w0, if_neg w2, if_neg w3, if_pos (by omega)], hf⟩ | exact ⟨by rw [if_neg (by omega), if_neg (by omega), if_neg w0, if_neg w2, if_neg w3, if_neg (by omega), d1, d2, hx, h2], hf⟩
      · refine aw_bipush (n := 101) C dX6_ofSeating_99 rfl rfl ?_
        refine aw_goto (tgt := 115) C dX6_ofSeating_101 rfl ?_
        refine hret 115 _ _ _ dX6_ofSeating_115 (Or.inl rfl) ?_
        first | exact ⟨by rw [if_neg (by omega), if_neg (by omega), if_neg w0, if_neg w2, if_neg w3, if_pos (by omega)], hf⟩ | exact ⟨by rw [if_neg (by omega), if_neg (by omega), if_neg w0, if_neg w2, if_neg w3, if_neg (by omega), d1, d2, hx, h2], hf⟩
    · refine aw_bipush (n := 23) C dX6_ofSeating_21 rfl rfl ?_
      refine aw_ildn (n := 24) C dX6_ofSeating_23 rfl rfl ?_
      refine aw_isub (n := 25) C dX6_ofSeating_24 rfl ?_
      refine hret 25 _ _ _ dX6_ofSeating_25 (Or.inl rfl) ?_
      exact ⟨by rw [if_neg (by omega), if_pos (by omega)], hf⟩
  · refine aw_ildn (n := 14) C dX6_ofSeating_13 rfl rfl ?_
    refine hret 14 _ _ _ dX6_ofSeating_14 (Or.inl rfl) ?_
    exact ⟨by rw [if_pos (by omega)], hf⟩
