/-! RegretLine: ease, stuck -/
def EZ (S : Mem) : Prop := S 0 6 = 0 ∨ (S 0 6 = 1 ∧ LE S S (S 10 8).toNat (S 10 9).toNat)
/-- what is least is known now -/
def KN (S S' : Mem) : Prop := (∀ c, c ≠ 0 → c < 53 ∨ 66 ≤ c → S' c = S c) ∧ (∀ i, i ≠ 6 → S' 0 i = S 0 i) ∧ S' 0 6 = 1 ∧ LE S S' (S 10 8).toNat (S 10 9).toNat
theorem XW_EW {S : Mem} (W : XW S) : EW S (S 10 8).toNat (S 10 9).toNat := by
  obtain ⟨T, w2, w3, w4, w5, w6⟩ := W
  obtain ⟨t1, t2, t3, t4, t5, t6⟩ := TW10 T
  exact ⟨by omega, by omega, by omega, by omega, by omega, by omega, fun m hm p p0 p1 => by have := w3 m (by omega) p p0 p1; omega, w2⟩
theorem c_knowLeast {S : Mem} (W : XW S) (hZ : EZ S) (h0 : S 10 8 ≠ 0) : AMv 4 yX6_knowLeast cX6_knowLeast 1 [.inr (.inr 0)] S (KN S) := by
  obtain ⟨T, w2, w3, w4, w5, w6⟩ := id W
  obtain ⟨t1, t2, t3, t4, t5, t6⟩ := TW10 T
  have hz6 : S 0 6 = 0 ∨ S 0 6 = 1 := by rcases hZ with h | h; exact Or.inl h; exact Or.inr h.1
  refine amv_intro (L := [_]) (by decide) rfl (Nat.le_of_ble_eq_true rfl) (fun X C hret => ?_)
  refine aw_aldn (n := 1) C dX6_knowLeast_0 rfl rfl ?_
  refine aw_getI (z := 6) (n := 4) C dX6_knowLeast_1 rfl fl_X6_51 rfl rfl rfl ?_
  refine aw_ifne (tgt := 19) (n := 7) C dX6_knowLeast_4 rfl rfl (by omega) (fun h_4 => ?_) (fun h_4 => ?_)
  · refine hret 19 _ _ dX6_knowLeast_19 ?_
    first | (refine ⟨fun c c0 c1 => by rw [st2_o c c0, g1 c (by omega)], fun i hi => by rw [st2_n hi, g1 0 (by omega)], st2_s _ _ _ _, ?_⟩; obtain ⟨a1, a2, a3⟩ := g2; exact ⟨a1, a2, a3⟩) | (rcases hZ with h | h; exact absurd h h_4; exact ⟨fun _ _ _ => rfl, fun _ _ => rfl, h.1, h.2⟩)
  · refine aw_aldn (n := 8) C dX6_knowLeast_7 rfl rfl ?_
    refine aw_getR (n := 11) C dX6_knowLeast_8 rfl fl_X6_47 rfl rfl ?_
    refine aw_cVv (n := 14) (vs := []) C dX6_knowLeast_11 rfl rfl rfl mm_X0_seek wM_X6_202 rfl rfl (Nat.le_of_ble_eq_true rfl) (c_seek (XW_EW W) (by omega)) (by decide) (fun S_11 q_11 => ?_)
    obtain ⟨g1, g2⟩ := q_11
    refine aw_aldn (n := 15) C dX6_knowLeast_14 rfl rfl ?_
    refine aw_iconst (n := 16) C dX6_knowLeast_15 rfl ?_
    refine aw_put (z := 6) (n := 19) C dX6_knowLeast_16 rfl fp_X6_51 rfl rfl rfl (Or.inr ⟨rfl, by omega⟩) ?_
    refine hret 19 _ _ dX6_knowLeast_19 ?_
    first | (refine ⟨fun c c0 c1 => by rw [st2_o c c0, g1 c (by omega)], fun i hi => by rw [st2_n hi, g1 0 (by omega)], st2_s _ _ _ _, ?_⟩; obtain ⟨a1, a2, a3⟩ := g2; exact ⟨a1, a2, a3⟩) | (rcases hZ with h | h; exact absurd h h_4; exact ⟨fun _ _ _ => rfl, fun _ _ => rfl, h.1, h.2⟩)
theorem KN_duC {S S' : Mem} (h : KN S S') : duC S' = duC S := by
  funext m p
  unfold duC
  rw [h.1 10 (by decide) (by omega), h.1 (19 + (min m 8).toNat) (by omega) (by omega)]
theorem KN_EZ {S S' : Mem} (h : KN S S') : EZ S' := by
  refine Or.inr ⟨h.2.2.1, ?_⟩
  have e := h.2.2.2
  unfold LE at e ⊢
  rw [KN_duC h, h.1 10 (by decide) (by omega), h.1 11 (by decide) (by omega)]
  exact e
theorem eT_r {M P : Nat} {se : Fn} {du : Int → Int → Int} (hP : P ≤ 4) (hd : ∀ m p, 0 ≤ du m p ∧ du m p ≤ 2) : -9 ≤ eT M P se du ∧ eT M P se du ≤ 10000 := by
  unfold eT
  split
  · have := tgF_r (M := M) (se := se) hP hd 0 (rwF M P se du 0) (rwF_lt 0); omega
  · omega
theorem eT_ne {M P : Nat} {se : Fn} {du : Int → Int → Int} (hP : P ≤ 4) (hd : ∀ m p, 0 ≤ du m p ∧ du m p ≤ 2) : ¬ eT M P se du = -9 → eS M P se du = -9 := by
  unfold eT
  split
  · intro _; assumption
  · intro h; exact absurd rfl h
theorem RWS_eR {M P k : Nat} {se : Fn} {du : Int → Int → Int} {S' : Mem} (h : RWS M M P se du S') (hk : k < M * P) : S' 65 k = eR M P se du k := by
  have hP : 0 < P := Nat.pos_of_ne_zero (fun e => by rw [e, Nat.mul_zero] at hk; omega)
  have h1 : k / P < M := by rw [Nat.div_lt_iff_lt_mul hP]; exact hk
  have := h (k / P) h1 (k % P) (Nat.mod_lt _ hP)
  unfold eR
  rw [← this]
  congr 1
  have e := Nat.div_add_mod k P
  have : ((P * (k / P) + k % P : Nat) : Int) = (k : Int) := by rw [e]
  rw [Int.natCast_add, Int.natCast_mul, Int.mul_comm] at this
  omega
theorem x_ease {S : Mem} {k : Int} (hk : rng k) (W : XW S) (hZ : EZ S) : AMi 5 yX6_ease cX6_ease 2 (some .int) [.inr (.inr 0), .inl k] S (fun z S' => z = (if k < -1 then -1 else if S 10 8 = 0 then -3 else if k = -1 ∨ eT (S 10 8).toNat (S 10 9).toNat (S 11) (duC S) = -9 then eT (S 10 8).toNat (S 10 9).toNat (S 11) (duC S) else if k < S 10 8 * S 10 9 then eR (S 10 8).toNat (S 10 9).toNat (S 11) (duC S) k.toNat else -9) ∧ (if k < -1 ∨ S 10 8 = 0 then S' = S else KN S S')) := by
  obtain ⟨T, w2, w3, w4, w5, w6⟩ := id W
  obtain ⟨t1, t2, t3, t4, t5, t6⟩ := TW10 T
  have her := eT_r (M := (S 10 8).toNat) (P := (S 10 9).toNat) (se := S 11) (by omega) (duC_r S)
  have hen := eT_ne (M := (S 10 8).toNat) (P := (S 10 9).toNat) (se := S 11) (by omega) (duC_r S)
  have hmp := mp_in t1.1 t1.2 t2.1 t2.2
  refine ami_intro (L := [_, _]) (by decide) (Or.inl rfl) rfl (Nat.le_of_ble_eq_true rfl) (fun X C hret => ?_)
  refine aw_ildn (n := 1) C dX6_ease_0 rfl rfl ?_
  refine aw_iconst (n := 2) C dX6_ease_1 rfl ?_
  refine aw_icge (tgt := 7) (n := 5) C dX6_ease_2 rfl rfl (by omega) (by omega) (fun h_2 => ?_) (fun h_2 => ?_)
  · refine aw_aldn (n := 8) C dX6_ease_7 rfl rfl ?_
    refine aw_cVi (n := 11) (vs := []) C dX6_ease_8 rfl rfl rfl mm_X6_noLine wM_X6_108 rfl rfl (Nat.le_of_ble_eq_true rfl) (c_noLine (by omega)) (by decide) (fun z_8 S_8 q_8 => ?_)
    rw [q_8.1, q_8.2]
    clear q_8 S_8 z_8
    refine aw_ifeq (tgt := 17) (n := 14) C dX6_ease_11 rfl rfl (by omega) (fun h_11 => ?_) (fun h_11 => ?_)
    · refine aw_aldn (n := 18) C dX6_ease_17 rfl rfl ?_
      refine aw_cVv (n := 21) (vs := []) C dX6_ease_18 rfl rfl rfl mm_X6_knowLeast wM_X6_180 rfl rfl (Nat.le_of_ble_eq_true rfl) (c_knowLeast W hZ (by omega)) (by decide) (fun S_18 q_18 => ?_)
      obtain ⟨g1, g2, g3, g4, g5, g6⟩ := id q_18
      have e10 : S_18 10 = S 10 := g1 10 (by decide) (by omega)
      refine aw_ildn (n := 22) C dX6_ease_21 rfl rfl ?_
      refine aw_iconst (n := 23) C dX6_ease_22 rfl ?_
      refine aw_iceq (tgt := 38) (n := 26) C dX6_ease_23 rfl rfl (by omega) (by omega) (fun h_23 => ?_) (fun h_23 => ?_)
      · refine aw_aldn (n := 39) C dX6_ease_38 rfl rfl ?_
        refine aw_getR (n := 42) C dX6_ease_39 rfl fl_X6_47 rfl rfl ?_
        refine aw_getI (z := 6) (n := 45) C dX6_ease_42 rfl fl_X6_183 rfl rfl rfl ?_
        rw [g4]
        refine hret 45 _ _ _ dX6_ease_45 (Or.inl rfl) ?_
        exact ⟨by rw [if_neg (by omega), if_neg (by omega), if_pos (by omega)], by rw [if_neg (by omega)]; exact q_18⟩
      · refine aw_aldn (n := 27) C dX6_ease_26 rfl rfl ?_
        refine aw_getR (n := 30) C dX6_ease_27 rfl fl_X6_47 rfl rfl ?_
        refine aw_getI (z := 6) (n := 33) C dX6_ease_30 rfl fl_X6_183 rfl rfl rfl ?_
        rw [g4]
        refine aw_bipush (n := 35) C dX6_ease_33 rfl rfl ?_
        refine aw_icne (tgt := 46) (n := 38) C dX6_ease_35 rfl rfl (by omega) (by omega) (fun h_35 => ?_) (fun h_35 => ?_)
        · refine aw_ildn (n := 47) C dX6_ease_46 rfl rfl ?_
          refine aw_aldn (n := 48) C dX6_ease_47 rfl rfl ?_
          refine aw_getR (n := 51) C dX6_ease_48 rfl fl_X6_21 rfl rfl ?_
          refine aw_getI (z := 8) (n := 54) C dX6_ease_51 rfl fl_X6_154 rfl rfl rfl ?_
          refine aw_aldn (n := 55) C dX6_ease_54 rfl rfl ?_
          refine aw_getR (n := 58) C dX6_ease_55 rfl fl_X6_21 rfl rfl ?_
          refine aw_getI (z := 9) (n := 61) C dX6_ease_58 rfl fl_X6_93 rfl rfl rfl ?_
          refine aw_imul (n := 62) C dX6_ease_61 rfl ?_
          rw [e10]
          refine aw_icge (tgt := 77) (n := 65) C dX6_ease_62 rfl rfl (by omega) (by omega) (fun h_62 => ?_) (fun h_62 => ?_)
          · refine aw_bipush (n := 79) C dX6_ease_77 rfl rfl ?_
            refine hret 79 _ _ _ dX6_ease_79 (Or.inl rfl) ?_
            refine ⟨?_, by rw [if_neg (by omega)]; exact q_18⟩
            rw [if_neg (by omega), if_neg (by omega), if_neg (by omega)]
            first | (rw [if_neg (by omega)]) | (rw [if_pos (by omega)]; have hkn : k.toNat < (S 10 8).toNat * (S 10 9).toNat := (by have : ((k.toNat : Nat) : Int) < (((S 10 8).toNat * (S 10 9).toNat : Nat) : Int) := (by rw [Int.natCast_mul, show ((S 10 8).toNat : Int) = S 10 8 by omega, show ((S 10 9).toNat : Int) = S 10 9 by omega]; omega); omega); have hr := RWS_eR (g6 (hen h_35)) hkn; rw [show ((k.toNat : Nat) : Int) = k by omega] at hr; exact hr)
          · refine aw_aldn (n := 66) C dX6_ease_65 rfl rfl ?_
            refine aw_getR (n := 69) C dX6_ease_66 rfl fl_X6_47 rfl rfl ?_
            refine aw_getR (n := 72) C dX6_ease_69 rfl fl_X6_186 rfl rfl ?_
            refine aw_ildn (n := 73) C dX6_ease_72 rfl rfl ?_
            refine aw_iald (n := 74) C dX6_ease_73 rfl rfl (by omega) (by omega) ?_
            refine aw_goto (tgt := 79) C dX6_ease_74 rfl ?_
            refine hret 79 _ _ _ dX6_ease_79 (Or.inl rfl) ?_
            refine ⟨?_, by rw [if_neg (by omega)]; exact q_18⟩
            rw [if_neg (by omega), if_neg (by omega), if_neg (by omega)]
            first | (rw [if_neg (by omega)]) | (rw [if_pos (by omega)]; have hkn : k.toNat < (S 10 8).toNat * (S 10 9).toNat := (by have : ((k.toNat : Nat) : Int) < (((S 10 8).toNat * (S 10 9).toNat : Nat) : Int) := (by rw [Int.natCast_mul, show ((S 10 8).toNat : Int) = S 10 8 by omega, show ((S 10 9).toNat : Int) = S 10 9 by omega]; omega); omega); have hr := RWS_eR (g6 (hen h_35)) hkn; rw [show ((k.toNat : Nat) : Int) = k by omega] at hr; exact hr)
        · refine aw_aldn (n := 39) C dX6_ease_38 rfl rfl ?_
          refine aw_getR (n := 42) C dX6_ease_39 rfl fl_X6_47 rfl rfl ?_
          refine aw_getI (z := 6) (n := 45) C dX6_ease_42 rfl fl_X6_183 rfl rfl rfl ?_
          rw [g4]
          refine hret 45 _ _ _ dX6_ease_45 (Or.inl rfl) ?_
          exact ⟨by rw [if_neg (by omega), if_neg (by omega), if_pos (by omega)], by rw [if_neg (by omega)]; exact q_18⟩
    · refine aw_bipush (n := 16) C dX6_ease_14 rfl rfl ?_
      refine hret 16 _ _ _ dX6_ease_16 (Or.inl rfl) ?_
      exact ⟨by rw [if_neg (by omega), if_pos (by omega)], by rw [if_pos (by omega)]⟩
  · refine aw_iconst (n := 6) C dX6_ease_5 rfl ?_
    refine hret 6 _ _ _ dX6_ease_6 (Or.inl rfl) ?_
    exact ⟨by rw [if_pos (by omega)], by rw [if_pos (by omega)]⟩
theorem x_stuck {S : Mem} (W : XW S) (hZ : EZ S) : AMi 5 yX6_stuck cX6_stuck 1 (some .int) [.inr (.inr 0)] S (fun z S' => z = (if S 10 8 = 0 then -3 else eS (S 10 8).toNat (S 10 9).toNat (S 11) (duC S)) ∧ (if S 10 8 = 0 then S' = S else KN S S')) := by
  obtain ⟨T, w2, w3, w4, w5, w6⟩ := id W
  obtain ⟨t1, t2, t3, t4, t5, t6⟩ := TW10 T
  refine ami_intro (L := [_]) (by decide) (Or.inl rfl) rfl (Nat.le_of_ble_eq_true rfl) (fun X C hret => ?_)
  refine aw_aldn (n := 1) C dX6_stuck_0 rfl rfl ?_
  refine aw_cVi (n := 4) (vs := []) C dX6_stuck_1 rfl rfl rfl mm_X6_noLine wM_X6_108 rfl rfl (Nat.le_of_ble_eq_true rfl) (c_noLine (by omega)) (by decide) (fun z_1 S_1 q_1 => ?_)
  rw [q_1.1, q_1.2]
  clear q_1 S_1 z_1
  refine aw_ifeq (tgt := 10) (n := 7) C dX6_stuck_4 rfl rfl (by omega) (fun h_4 => ?_) (fun h_4 => ?_)
  · refine aw_aldn (n := 11) C dX6_stuck_10 rfl rfl ?_
    refine aw_cVv (n := 14) (vs := []) C dX6_stuck_11 rfl rfl rfl mm_X6_knowLeast wM_X6_180 rfl rfl (Nat.le_of_ble_eq_true rfl) (c_knowLeast W hZ (by omega)) (by decide) (fun S_11 q_11 => ?_)
    obtain ⟨g1, g2, g3, g4, g5, g6⟩ := id q_11
    refine aw_aldn (n := 15) C dX6_stuck_14 rfl rfl ?_
    refine aw_getR (n := 18) C dX6_stuck_15 rfl fl_X6_47 rfl rfl ?_
    refine aw_getI (z := 7) (n := 21) C dX6_stuck_18 rfl fl_X6_189 rfl rfl rfl ?_
    rw [g5]
    refine hret 21 _ _ _ dX6_stuck_21 (Or.inl rfl) ?_
    exact ⟨by rw [if_neg (by omega)], by rw [if_neg (by omega)]; exact q_11⟩
  · refine aw_bipush (n := 9) C dX6_stuck_7 rfl rfl ?_
    refine hret 9 _ _ _ dX6_stuck_9 (Or.inl rfl) ?_
    exact ⟨by rw [if_pos (by omega)], by rw [if_pos (by omega)]⟩
