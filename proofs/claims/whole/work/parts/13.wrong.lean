/-! Seating: the first mile that can't be -/
def cn (q : Fn) (P m c : Int) (p : Nat) : Int := sm (fun x => if q (m * P + (x : Int)) = c then 1 else 0) p
def bad (q : Fn) (P : Int) (se : Fn) (m : Nat) : Bool := decide (se 0 < cn q P m 0 P.toNat ∨ se 1 < cn q P m 1 P.toNat ∨ se 2 < cn q P m 2 P.toNat)
def fst1 (b : Nat → Bool) : Nat → Nat → Int
  | 0, _ => -9
  | n + 1, i => if b i then (i : Int) else fst1 b n (i + 1)
theorem fst1_t {b : Nat → Bool} {n i : Nat} (h : b i = true) : fst1 b (n + 1) i = (i : Int) := by show (if b i then _ else _) = _; rw [h]; rfl
theorem fst1_f {b : Nat → Bool} {n i : Nat} (h : b i = false) : fst1 b (n + 1) i = fst1 b n (i + 1) := by show (if b i then _ else _) = _; rw [h]; rfl
theorem fst1_congr {b b' : Nat → Bool} : ∀ (n i : Nat), (∀ k, i ≤ k → k < i + n → b k = b' k) → fst1 b n i = fst1 b' n i
  | 0, _, _ => rfl
  | n + 1, i, h => by show (if b i then _ else _) = (if b' i then _ else _); rw [h i (by omega) (by omega), fst1_congr n (i + 1) (fun k h1 h2 => h k (by omega) (by omega))]
theorem cn_s (q : Fn) (P m c : Int) (p : Nat) : cn q P m c (p + 1) = cn q P m c p + (if q (m * P + (p : Int)) = c then 1 else 0) := rfl
theorem cn_mono (q : Fn) (P m c : Int) (p : Nat) : ∀ n, cn q P m c p ≤ cn q P m c (p + n)
  | 0 => Int.le_refl _
  | n + 1 => by
    have := cn_mono q P m c p n
    rw [show p + (n + 1) = (p + n) + 1 by omega, cn_s]
    split <;> omega
theorem cn_r (q : Fn) (P m c : Int) : ∀ n : Nat, 0 ≤ cn q P m c n ∧ cn q P m c n ≤ n
  | 0 => ⟨Int.le_refl _, Int.le_refl _⟩
  | n + 1 => by
    have := cn_r q P m c n
    rw [cn_s]
    split <;> omega
section SEATW
variable {X : AMX} {S : Mem} {M P : Nat} {post : Int → Mem → Prop}
theorem c_fw_in {j : Nat} (hS : SW S M P) (hse : ∀ c, 0 ≤ c → c < 3 → 0 ≤ S 11 c ∧ S 11 c ≤ 4) (hj : j < M) (C : CX X 1 RX2 cX2_firstWrong 4) (hret : ∀ (pc : Nat) (L : List (Option AV)) (z : Int) (S' : Mem), decode cX2_firstWrong pc = .ok (.ireturn, 1) → ((some FieldType.int) = some .int ∨ ((some FieldType.int) = some .boolean ∧ (z = 0 ∨ z = 1))) → post z S' → AW X cX2_firstWrong 4 pc L [.inl z] S') (hbad : ∀ S', fr 52 53 S S' → bad (S 51) (S 10 9) (S 11) j = true → post j S') (k : ∀ S' x, fr 52 53 S S' → bad (S 51) (S 10 9) (S 11) j = false → AW X cX2_firstWrong 4 77 [some (.inr (.inr 50)), some (.inl j), some (.inl P), x] [] S') : ∀ (n p : Nat) (S1 : Mem) (x : Option AV), p + n = P → fr 52 53 S S1 → (∀ c, 0 ≤ c → c < 3 → S1 52 c = cn (S 51) (S 10 9) j c p ∧ cn (S 51) (S 10 9) j c p ≤ S 11 c) → AW X cX2_firstWrong 4 23 [some (.inr (.inr 50)), some (.inl j), some (.inl p), x] [] S1 := by
  obtain ⟨h1, h2, h3, h4, h5, h6, h7, h8⟩ := id hS
  intro n
  induction n with
  | zero =>
    intro p S1 x hp hf hv
    obtain rfl : p = P := by omega
    have e9 : S1 10 9 = S 10 9 := congrFun (hf 10 (by omega)) 9
    refine aw_ildn (n := 24) C dX2_firstWrong_23 rfl rfl ?_
    refine aw_aldn (n := 25) C dX2_firstWrong_24 rfl rfl ?_
    refine aw_getR (n := 28) C dX2_firstWrong_25 rfl fl_X2_18 rfl rfl ?_
    refine aw_getI (z := 9) (n := 31) C dX2_firstWrong_28 rfl fl_X2_28 rfl rfl rfl ?_
    refine aw_icge (tgt := 77) (n := 34) C dX2_firstWrong_31 rfl rfl (by omega) (by omega) (fun h_31 => ?_) (fun h_31 => ?_)
    · refine k S1 x hf ?_
      unfold bad
      rw [h2, Int.toNat_natCast]
      have v0 := (hv 0 (by omega) (by omega)).2
      have v1 := (hv 1 (by omega) (by omega)).2
      have v2 := (hv 2 (by omega) (by omega)).2
      rw [h2] at v0 v1 v2
      exact decide_eq_false (by omega)
    · omega
  | succ n ih =>
    intro p S1 x hp hf hv
    have e0 : S1 10 = S 10 := hf 10 (by omega)
    have e9 : S1 10 9 = S 10 9 := congrFun e0 9
    have e8 : S1 10 8 = S 10 8 := congrFun e0 8
    have q2 := SW_q hS (m := j) (p := p) (by omega) (by omega)
    have hv2 := hv (S 51 ((j : Int) * S 10 9 + p)) q2.1 q2.2
    have hs2 := hse (S 51 ((j : Int) * S 10 9 + p)) q2.1 q2.2
    have hcs := cn_s (S 51) (S 10 9) j (S 51 ((j : Int) * S 10 9 + p)) p
    rw [if_pos rfl] at hcs
    have hcr := cn_r (S 51) (S 10 9) j (S 51 ((j : Int) * S 10 9 + p)) p
    have ev : st2 S1 52 (S 51 ((j : Int) * S 10 9 + p)) (S1 52 (S 51 ((j : Int) * S 10 9 + p)) + 1) 11 (S 51 ((j : Int) * S 10 9 + p)) = S 11 (S 51 ((j : Int) * S 10 9 + p)) := by rw [st2_c (by decide), hf 11 (by omega)]
    have hf2 : fr 52 53 S (st2 S1 52 (S 51 ((j : Int) * S 10 9 + p)) (S1 52 (S 51 ((j : Int) * S 10 9 + p)) + 1)) := fr_tr hf (fr_w (fr_st _ _ _ _) (by omega) (by omega))
    refine aw_ildn (n := 24) C dX2_firstWrong_23 rfl rfl ?_
    refine aw_aldn (n := 25) C dX2_firstWrong_24 rfl rfl ?_
    refine aw_getR (n := 28) C dX2_firstWrong_25 rfl fl_X2_18 rfl rfl ?_
    refine aw_getI (z := 9) (n := 31) C dX2_firstWrong_28 rfl fl_X2_28 rfl rfl rfl ?_
    refine aw_icge (tgt := 77) (n := 34) C dX2_firstWrong_31 rfl rfl (by omega) (by omega) (fun h_31 => ?_) (fun h_31 => ?_)
    · omega
    · refine aw_aldn (n := 35) C dX2_firstWrong_34 rfl rfl ?_
      refine aw_ildn (n := 36) C dX2_firstWrong_35 rfl rfl ?_
      refine aw_ildn (n := 37) C dX2_firstWrong_36 rfl rfl ?_
      refine aw_cVi (n := 40) (vs := [_, _]) C dX2_firstWrong_37 rfl rfl rfl mm_X2_classOf wM_X2_41 rfl rfl (Nat.le_of_ble_eq_true rfl) (c_classOf (by omega) (by omega) (by omega) (by omega) (by omega) (by omega)) (by decide) (fun z_37 S_37 q_37 => ?_)
      rw [q_37.1, q_37.2]
      clear q_37 S_37 z_37
      rw [hf 51 (by omega), e9]
      refine aw_istn (n := 41) (L' := [_, _, _, _]) C dX2_firstWrong_40 rfl (by decide) rfl rfl ?_
      refine aw_aldn (n := 42) C dX2_firstWrong_41 rfl rfl ?_
      refine aw_getR (n := 45) C dX2_firstWrong_42 rfl fl_X2_15 rfl rfl ?_
      refine aw_ildn (n := 46) C dX2_firstWrong_45 rfl rfl ?_
      refine aw_dup2 (n := 47) C dX2_firstWrong_46 rfl rfl rfl ?_
      refine aw_iald (n := 48) C dX2_firstWrong_47 rfl rfl (by omega) (by omega) ?_
      refine aw_iconst (n := 49) C dX2_firstWrong_48 rfl ?_
      refine aw_iadd (n := 50) C dX2_firstWrong_49 rfl ?_
      refine aw_iast (n := 51) C dX2_firstWrong_50 rfl rfl (by omega) (by omega) ?_
      refine aw_aldn (n := 52) C dX2_firstWrong_51 rfl rfl ?_
      refine aw_getR (n := 55) C dX2_firstWrong_52 rfl fl_X2_15 rfl rfl ?_
      refine aw_ildn (n := 56) C dX2_firstWrong_55 rfl rfl ?_
      refine aw_iald (n := 57) C dX2_firstWrong_56 rfl rfl (by omega) (by omega) ?_
      rw [st2_s]
      refine aw_aldn (n := 58) C dX2_firstWrong_57 rfl rfl ?_
      refine aw_getR (n := 61) C dX2_firstWrong_58 rfl fl_X2_18 rfl rfl ?_
      refine aw_getR (n := 64) C dX2_firstWrong_61 rfl fl_X2_45 rfl rfl ?_
      refine aw_ildn (n := 65) C dX2_firstWrong_64 rfl rfl ?_
      refine aw_iald (n := 66) C dX2_firstWrong_65 rfl rfl (by omega) (by omega) ?_
      rw [ev]
      refine aw_icle (tgt := 71) (n := 69) C dX2_firstWrong_66 rfl rfl (by omega) (by omega) (fun h_66 => ?_) (fun h_66 => ?_)
      · refine aw_iinc (n := 74) (L' := [_, _, _, _]) C dX2_firstWrong_71 rfl rfl (by decide) rfl rfl ?_
        refine aw_goto (tgt := 23) C dX2_firstWrong_74 rfl ?_
        refine ih (p + 1) _ _ (by omega) hf2 (fun c c0 c1 => ?_)
        by_cases e : c = S 51 ((j : Int) * S 10 9 + p)
        · rw [← e] at h_66 hcs hv2 ⊢
          rw [st2_s]
          omega
        · rw [st2_n e, cn_s, if_neg (fun q => e q.symm), Int.add_zero]
          exact hv c c0 c1
      · refine aw_ildn (n := 70) C dX2_firstWrong_69 rfl rfl ?_
        refine hret 70 _ _ _ dX2_firstWrong_70 (Or.inl rfl) ?_
        refine hbad _ hf2 ?_
        unfold bad
        rw [h2, Int.toNat_natCast, ← h2]
        have hm := cn_mono (S 51) (S 10 9) j (S 51 ((j : Int) * S 10 9 + p)) (p + 1) n
        rw [show p + 1 + n = P by omega] at hm
        refine decide_eq_true ?_
        rcases (show S 51 ((j : Int) * S 10 9 + p) = 0 ∨ S 51 ((j : Int) * S 10 9 + p) = 1 ∨ S 51 ((j : Int) * S 10 9 + p) = 2 by omega) with e | e | e
        · rw [e] at hm hcs h_66 hv2
          exact Or.inl (by omega)
        · rw [e] at hm hcs h_66 hv2
          exact Or.inr (Or.inl (by omega))
        · rw [e] at hm hcs h_66 hv2
          exact Or.inr (Or.inr (by omega))
theorem c_firstWrong_loop (hS : SW S M P) (hse : ∀ c, 0 ≤ c → c < 3 → 0 ≤ S 11 c ∧ S 11 c ≤ 4) (C : CX X 1 RX2 cX2_firstWrong 4) (hret : ∀ (pc : Nat) (L : List (Option AV)) (z : Int) (S' : Mem), decode cX2_firstWrong pc = .ok (.ireturn, 1) → ((some FieldType.int) = some .int ∨ ((some FieldType.int) = some .boolean ∧ (z = 0 ∨ z = 1))) → post z S' → AW X cX2_firstWrong 4 pc L [.inl z] S') (hp : ∀ S', fr 52 53 S S' → post (fst1 (bad (S 51) (S 10 9) (S 11)) M 0) S') : ∀ (n j : Nat) (S1 : Mem) (x y : Option AV), j + n = M → fr 52 53 S S1 → fst1 (bad (S 51) (S 10 9) (S 11)) M 0 = fst1 (bad (S 51) (S 10 9) (S 11)) n j → AW X cX2_firstWrong 4 2 [some (.inr (.inr 50)), some (.inl j), x, y] [] S1 := by
  obtain ⟨h1, h2, h3, h4, h5, h6, h7, h8⟩ := id hS
  intro n
  induction n with
  | zero =>
    intro j S1 x y hj hf hv
    have e8 : S1 10 8 = S 10 8 := congrFun (hf 10 (by omega)) 8
    refine aw_ildn (n := 3) C dX2_firstWrong_2 rfl rfl ?_
    refine aw_aldn (n := 4) C dX2_firstWrong_3 rfl rfl ?_
    refine aw_getR (n := 7) C dX2_firstWrong_4 rfl fl_X2_18 rfl rfl ?_
    refine aw_getI (z := 8) (n := 10) C dX2_firstWrong_7 rfl fl_X2_22 rfl rfl rfl ?_
    refine aw_icge (tgt := 83) (n := 13) C dX2_firstWrong_10 rfl rfl (by omega) (by omega) (fun h_10 => ?_) (fun h_10 => ?_)
    · refine aw_bipush (n := 85) C dX2_firstWrong_83 rfl rfl ?_
      refine hret 85 _ _ _ dX2_firstWrong_85 (Or.inl rfl) ?_
      have := hp S1 hf
      rw [hv] at this
      exact this
    · omega
  | succ n ih =>
    intro j S1 x y hj hf hv
    have e8 : S1 10 8 = S 10 8 := congrFun (hf 10 (by omega)) 8
    have k77 : ∀ S' x, fr 52 53 S S' → bad (S 51) (S 10 9) (S 11) j = false → AW X cX2_firstWrong 4 77 [some (.inr (.inr 50)), some (.inl j), some (.inl P), x] [] S' := by
      intro S' x hf' hb
      refine aw_iinc (n := 80) (L' := [_, _, _, _]) C dX2_firstWrong_77 rfl rfl (by decide) rfl rfl ?_
      refine aw_goto (tgt := 2) C dX2_firstWrong_80 rfl ?_
      exact ih (j + 1) S' _ _ (by omega) hf' (by rw [hv, fst1_f hb])
    refine aw_ildn (n := 3) C dX2_firstWrong_2 rfl rfl ?_
    refine aw_aldn (n := 4) C dX2_firstWrong_3 rfl rfl ?_
    refine aw_getR (n := 7) C dX2_firstWrong_4 rfl fl_X2_18 rfl rfl ?_
    refine aw_getI (z := 8) (n := 10) C dX2_firstWrong_7 rfl fl_X2_22 rfl rfl rfl ?_
    refine aw_icge (tgt := 83) (n := 13) C dX2_firstWrong_10 rfl rfl (by omega) (by omega) (fun h_10 => ?_) (fun h_10 => ?_)
    · omega
    · refine aw_aldn (n := 14) C dX2_firstWrong_13 rfl rfl ?_
      refine aw_getR (n := 17) C dX2_firstWrong_14 rfl fl_X2_15 rfl rfl ?_
      refine aw_iconst (n := 18) C dX2_firstWrong_17 rfl ?_
      refine aw_cSv (n := 21) (vs := [_, _]) C dX2_firstWrong_18 rfl rfl rfl mm_J7_fill_53178 wM_X2_35 (Nat.le_of_ble_eq_true rfl) (c_fill (n := 3) rfl (by decide)) (by decide) (fun S_18 q_18 => ?_)
      rw [q_18]
      clear q_18 S_18
      refine aw_iconst (n := 22) C dX2_firstWrong_21 rfl ?_
      refine aw_istn (n := 23) (L' := [_, _, _, _]) C dX2_firstWrong_22 rfl (by decide) rfl rfl ?_
      refine c_fw_in (j := j) hS hse (by omega) C hret (fun S' hf' hb => ?_) k77 P 0 _ _ (by omega) (fr_tr hf (fun c hc => funext fun i => if_neg (fun q => by omega))) (fun c c0 c1 => ⟨if_pos ⟨rfl, by omega, by omega⟩, (hse c c0 c1).1⟩)
      have := hp S' hf'
      rw [hv, fst1_t hb] at this
      exact this
theorem c_firstWrong (hS : SW S M P) (hse : ∀ c, 0 ≤ c → c < 3 → 0 ≤ S 11 c ∧ S 11 c ≤ 4) : AMi 1 yX2_firstWrong cX2_firstWrong 4 (some .int) [.inr (.inr 50)] S (fun z S' => z = fst1 (bad (S 51) (S 10 9) (S 11)) M 0 ∧ fr 52 53 S S') := by
  refine ami_intro (L := [_, none, none, none]) (by decide) (Or.inl rfl) rfl (Nat.le_of_ble_eq_true rfl) (fun X C hret => ?_)
  refine aw_iconst (n := 1) C dX2_firstWrong_0 rfl ?_
  refine aw_istn (n := 2) (L' := [_, _, _, _]) C dX2_firstWrong_1 rfl (by decide) rfl rfl ?_
  exact c_firstWrong_loop hS hse C hret (fun S' h => ⟨rfl, h⟩) M 0 S _ _ (by omega) (fr_rf _ _ _) rfl
end SEATW
