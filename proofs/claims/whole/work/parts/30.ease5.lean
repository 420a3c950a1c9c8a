/-! Ease: seeking; RegretLine: ease, stuck -/
section EZ5
variable {X : AMX} {S : Mem} {M P : Nat}
/-- what the seeking knows behind j miles -/
def SK (S : Mem) (M P j : Nat) (S1 : Mem) : Prop := fr 53 66 S S1 ∧ S1 53 4 = ((3 ^ P : Nat) : Int) ∧ S1 53 6 = -9 ∧ S1 53 7 = fst1 (fun m => !anyF P (S 11) (duC S) m) j (M - j) ∧ (∀ w : Nat, w < 3 ^ P → S1 63 w = bhF M P (S 11) (duC S) j w) ∧ (∀ m : Nat, M - j ≤ m → m < M → ∀ w : Nat, w < 3 ^ P → S1 (55 + m) w = tgF M P (S 11) (duC S) m w)
theorem anyF_z {se : Fn} {du : Int → Int → Int} {m : Nat} {z : Int} (h1 : z = 0 ∨ z = 1) (h2 : z = 1 ↔ ∃ w, w < 3 ^ P ∧ lwm P se du m w < 10000) : (z = 0 → anyF P se du m = false) ∧ (¬ z = 0 → anyF P se du m = true) := by
  refine ⟨fun h => ?_, fun h => bB_t.mpr (h2.mp (h1.resolve_left h))⟩
  cases e : anyF P se du m with
  | false => rfl
  | true => rw [h2.mpr (bB_t.mp e)] at h; cases h
theorem SK_s {j mN : Nat} {S1 S2 S3 S4 : Mem} {z : Int} (hP : P ≤ 4) (hj : j < M) (hmN : M - 1 - j = mN) (h : SK S M P j S1) (g1 : wgf mN S1 S2) (g2 : ∀ w : Nat, w < 3 ^ P → S2 (55 + mN) w = min 10000 (lwm P (S 11) (duC S) mN w + S1 63 w)) (g3 : (z = 0 → anyF P (S 11) (duC S) mN = false) ∧ (¬ z = 0 → anyF P (S 11) (duC S) mN = true)) (h3 : S3 = if z = 0 then st2 S2 53 7 mN else S2) (hM : M ≤ 8) (g4 : fr 63 64 S3 S4) (g5 : ∀ x : Nat, x < 3 ^ P → S4 63 x = bst (fun v => S3 (55 + mN) v) P x) : SK S M P (j + 1) S4 := by
  obtain ⟨k1, k2, k3, k4, k5, k6⟩ := h
  have o3 : ∀ c, c ≠ 53 → S3 c = S2 c := fun c hc => by rw [h3]; split <;> first | exact st2_o c hc | rfl
  have o3n : ∀ i : Int, i ≠ 7 → S3 53 i = S2 53 i := fun i hi => by rw [h3]; split <;> first | exact st2_n hi | rfl
  have e53 : ∀ i : Int, i ≠ 7 → S4 53 i = S1 53 i := fun i hi => by rw [g4 53 (by omega), o3n i hi, g1 53 (by omega) (by omega)]
  refine ⟨fun c hc => ?_, by rw [e53 4 (by decide)]; exact k2, by rw [e53 6 (by decide)]; exact k3, ?_, fun w hw => ?_, fun m m0 m1 w hw => ?_⟩
  · rw [g4 c (by omega), o3 c (by omega), g1 c (by omega) (by omega), k1 c hc]
  · rw [g4 53 (by omega), h3, show M - (j + 1) = mN by omega]
    by_cases hz : z = 0
    · have hb : (fun m => !anyF P (S 11) (duC S) m) mN = true := by
        show (!anyF P (S 11) (duC S) mN) = true
        rw [g3.1 hz]
        rfl
      rw [if_pos hz, st2_s, fst1_t hb]
    · have hb : (fun m => !anyF P (S 11) (duC S) m) mN = false := by
        show (!anyF P (S 11) (duC S) mN) = false
        rw [g3.2 hz]
        rfl
      rw [if_neg hz, fst1_f hb, g1 53 (by omega) (by omega), k4, show M - j = mN + 1 by omega]
  · rw [g5 w hw]
    show _ = bst (fun v => min 10000 (lwm P (S 11) (duC S) (M - 1 - j) v + bhF M P (S 11) (duC S) j v)) P w
    refine bst_congr hP (fun v hv => ?_) P w (Nat.le_refl P) hw
    rw [o3 (55 + mN) (by omega), g2 v hv, k5 v hv, hmN]
  · by_cases e : m = mN
    · rw [e, g4 (55 + mN) (by omega), o3 (55 + mN) (by omega), g2 w hw, k5 w hw]
      unfold tgF
      rw [show M - 1 - mN = j by omega]
    · rw [g4 (55 + m) (by omega), o3 (55 + m) (by omega), g1 (55 + m) (by omega) (by omega)]
      exact k6 m (by omega) m1 w hw
/-- what has been sought is there -/
def LE (S S' : Mem) (M P : Nat) : Prop := S' 53 6 = eT M P (S 11) (duC S) ∧ S' 53 7 = eS M P (S 11) (duC S) ∧ (eS M P (S 11) (duC S) = -9 → RWS M M P (S 11) (duC S) S')
theorem c_seek2 {post : Mem → Prop} (E : EW S M P) (hM0 : 0 < M) (C : CX X 3 RX0 cX0_seek 2) (hret : ∀ (pc : Nat) (L : List (Option AV)) (S' : Mem), decode cX0_seek pc = .ok (.return_, 1) → post S' → AW X cX0_seek 2 pc L [] S') (hp : ∀ S', fr 53 66 S S' → LE S S' M P → post S') : ∀ (r j : Nat) (S1 : Mem), j + r = M → SK S M P j S1 → AW X cX0_seek 2 64 [some (.inr (.inr 53)), some (.inl ((M : Int) - 1 - j))] [] S1 := by
  obtain ⟨e1, e2, e3, e4, e5, e6, e7, e8⟩ := id E
  intro r
  induction r with
  | zero =>
    intro j S1 hj hs
    obtain rfl : j = M := by omega
    obtain ⟨k1, k2, k3, k4, k5, k6⟩ := id hs
    rw [Nat.sub_self] at k4
    have hfr := fst1_r (fun m => !anyF P (S 11) (duC S) m) j 0
    have heS : S1 53 7 = eS j P (S 11) (duC S) := k4
    refine aw_ildn (n := 65) C dX0_seek_64 rfl rfl ?_
    refine aw_iflt (tgt := 92) (n := 68) C dX0_seek_65 rfl rfl (by omega) (fun h_65 => ?_) (fun h_65 => ?_)
    · refine aw_aldn (n := 93) C dX0_seek_92 rfl rfl ?_
      refine aw_getI (z := 7) (n := 96) C dX0_seek_93 rfl fl_X0_33 rfl rfl rfl ?_
      refine aw_bipush (n := 98) C dX0_seek_96 rfl rfl ?_
      refine aw_icne (tgt := 105) (n := 101) C dX0_seek_98 rfl rfl (by omega) (by omega) (fun h_98 => ?_) (fun h_98 => ?_)
      · have hne : ¬ eS j P (S 11) (duC S) = -9 := by rw [← heS]; exact h_98
        refine hret 105 _ _ dX0_seek_105 ?_
        first | exact hp _ k1 ⟨by rw [k3]; unfold eT; rw [if_neg hne], heS, fun h => absurd h hne⟩ | exact hp _ (fun c hc => by rw [g1 c (by omega), st2_o c (by omega), k1 c hc]) ⟨by rw [g1 53 (by omega), st2_s]; unfold eT; rw [if_pos heq], by rw [g1 53 (by omega), st2_n (by decide)]; exact heS, fun _ => g2⟩
      · have heq : eS j P (S 11) (duC S) = -9 := by rw [← heS]; exact h_98
        refine aw_aldn (n := 102) C dX0_seek_101 rfl rfl ?_
        refine aw_cVv (n := 105) (vs := []) C dX0_seek_102 rfl rfl rfl mm_X0_choose wM_X0_62 rfl rfl (Nat.le_of_ble_eq_true rfl) (c_choose (M := j) (P := P) (se := S 11) (du := duC S) (by rw [k1 10 (by omega)]; exact e1) (by rw [k1 10 (by omega)]; exact e2) hM0 e3 e4 k2 (duC_r S) (fun m hm w hw => k6 m (by omega) hm w hw)) (by decide) (fun S_102 q_102 => ?_)
        obtain ⟨g1, g2⟩ := q_102
        refine hret 105 _ _ dX0_seek_105 ?_
        first | exact hp _ k1 ⟨by rw [k3]; unfold eT; rw [if_neg hne], heS, fun h => absurd h hne⟩ | exact hp _ (fun c hc => by rw [g1 c (by omega), st2_o c (by omega), k1 c hc]) ⟨by rw [g1 53 (by omega), st2_s]; unfold eT; rw [if_pos heq], by rw [g1 53 (by omega), st2_n (by decide)]; exact heS, fun _ => g2⟩
    · omega
  | succ r ih =>
    intro j S1 hj hs
    obtain ⟨k1, k2, k3, k4, k5, k6⟩ := id hs
    obtain ⟨mN, hmN⟩ : ∃ mN : Nat, M - 1 - j = mN := ⟨_, rfl⟩
    have hmI : (M : Int) - 1 - j = (mN : Int) := by omega
    have lo : ∀ c, c < 28 → S1 c = S c := fun c hc => k1 c (by omega)
    have E1 := EW_fr E lo
    have hbr : ∀ w : Nat, w < 3 ^ P → 0 ≤ S1 63 w ∧ S1 63 w ≤ 20000 := fun w hw => by
      rw [k5 w hw]
      have := bhF_r (M := M) (se := S 11) (du := duC S) e4 (duC_r S) j w hw
      omega
    rw [hmI]
    refine aw_ildn (n := 65) C dX0_seek_64 rfl rfl ?_
    refine aw_iflt (tgt := 92) (n := 68) C dX0_seek_65 rfl rfl (by omega) (fun h_65 => ?_) (fun h_65 => ?_)
    · omega
    · refine aw_aldn (n := 69) C dX0_seek_68 rfl rfl ?_
      refine aw_ildn (n := 70) C dX0_seek_69 rfl rfl ?_
      refine aw_cVi (n := 73) (vs := [_]) C dX0_seek_70 rfl rfl rfl mm_X0_weigh wM_X0_54 rfl rfl (Nat.le_of_ble_eq_true rfl) (c_weigh (m := mN) E1 (by omega) k2 hbr) (by decide) (fun z_70 S_70 q_70 => ?_)
      obtain ⟨g1, g2, g3, g4⟩ := q_70
      rw [duC_lo lo, lo 11 (by omega)] at g2 g4
      have g7 := anyF_z g3 g4
      clear g4
      refine aw_ifne (tgt := 81) (n := 76) C dX0_seek_73 rfl rfl (by omega) (fun h_73 => ?_) (fun h_73 => ?_)
      · refine aw_aldn (n := 82) C dX0_seek_81 rfl rfl ?_
        refine aw_ildn (n := 83) C dX0_seek_82 rfl rfl ?_
        obtain ⟨S3, h3⟩ : ∃ S3, S3 = if z_70 = 0 then st2 S_70 53 7 mN else S_70 := ⟨_, rfl⟩
        have h3b : ∀ c, c ≠ 53 → S3 c = S_70 c := fun c hc => by rw [h3]; split <;> first | exact st2_o c hc | rfl
        have h34 : S3 53 4 = ((3 ^ P : Nat) : Int) := by rw [h3, ← k2, ← g1 53 (by omega) (by omega)]; split <;> first | exact st2_n (by decide) | rfl
        first | rw [show st2 S_70 53 7 (mN : Int) = S3 by rw [h3, if_pos h_73]] | rw [show AW X cX0_seek 2 83 [some (.inr (.inr 53)), some (.inl mN)] [.inl mN, .inr (.inr 53)] S_70 = AW X cX0_seek 2 83 [some (.inr (.inr 53)), some (.inl mN)] [.inl mN, .inr (.inr 53)] S3 by rw [h3, if_neg h_73]]
        refine aw_cVv (n := 86) (vs := [_]) C dX0_seek_83 rfl rfl rfl mm_X0_lookBack wM_X0_58 rfl rfl (Nat.le_of_ble_eq_true rfl) (c_lookBack (m := mN) (P := P) (by omega) e4 (fun v hv => by rw [h3b (55 + mN) (by omega), g2 v hv]; have := lwm_r P (S 11) (duC S) mN v e4 (duC_r S); have := hbr v hv; omega) h34) (by decide) (fun S_83 q_83 => ?_)
        obtain ⟨g5, g6⟩ := q_83
        refine aw_iinc (n := 89) (L' := [_, _]) C dX0_seek_86 rfl rfl (by decide) rfl rfl ?_
        refine aw_goto (tgt := 64) C dX0_seek_89 rfl ?_
        have := ih (j + 1) _ (by omega) (SK_s e4 (by omega) hmN hs g1 g2 g7 h3 e3 g5 g6)
        rw [show (M : Int) - 1 - ((j + 1 : Nat) : Int) = (mN : Int) + -1 by omega] at this
        exact this
      · refine aw_aldn (n := 77) C dX0_seek_76 rfl rfl ?_
        refine aw_ildn (n := 78) C dX0_seek_77 rfl rfl ?_
        refine aw_put (z := 7) (n := 81) C dX0_seek_78 rfl fp_X0_33 rfl rfl rfl (Or.inl rfl) ?_
        refine aw_aldn (n := 82) C dX0_seek_81 rfl rfl ?_
        refine aw_ildn (n := 83) C dX0_seek_82 rfl rfl ?_
        obtain ⟨S3, h3⟩ : ∃ S3, S3 = if z_70 = 0 then st2 S_70 53 7 mN else S_70 := ⟨_, rfl⟩
        have h3b : ∀ c, c ≠ 53 → S3 c = S_70 c := fun c hc => by rw [h3]; split <;> first | exact st2_o c hc | rfl
        have h34 : S3 53 4 = ((3 ^ P : Nat) : Int) := by rw [h3, ← k2, ← g1 53 (by omega) (by omega)]; split <;> first | exact st2_n (by decide) | rfl
        first | rw [show st2 S_70 53 7 (mN : Int) = S3 by rw [h3, if_pos h_73]] | rw [show AW X cX0_seek 2 83 [some (.inr (.inr 53)), some (.inl mN)] [.inl mN, .inr (.inr 53)] S_70 = AW X cX0_seek 2 83 [some (.inr (.inr 53)), some (.inl mN)] [.inl mN, .inr (.inr 53)] S3 by rw [h3, if_neg h_73]]
        refine aw_cVv (n := 86) (vs := [_]) C dX0_seek_83 rfl rfl rfl mm_X0_lookBack wM_X0_58 rfl rfl (Nat.le_of_ble_eq_true rfl) (c_lookBack (m := mN) (P := P) (by omega) e4 (fun v hv => by rw [h3b (55 + mN) (by omega), g2 v hv]; have := lwm_r P (S 11) (duC S) mN v e4 (duC_r S); have := hbr v hv; omega) h34) (by decide) (fun S_83 q_83 => ?_)
        obtain ⟨g5, g6⟩ := q_83
        refine aw_iinc (n := 89) (L' := [_, _]) C dX0_seek_86 rfl rfl (by decide) rfl rfl ?_
        refine aw_goto (tgt := 64) C dX0_seek_89 rfl ?_
        have := ih (j + 1) _ (by omega) (SK_s e4 (by omega) hmN hs g1 g2 g7 h3 e3 g5 g6)
        rw [show (M : Int) - 1 - ((j + 1 : Nat) : Int) = (mN : Int) + -1 by omega] at this
        exact this
theorem c_seek1 {post : Mem → Prop} (E : EW S M P) (hM0 : 0 < M) (C : CX X 3 RX0 cX0_seek 2) (hret : ∀ (pc : Nat) (L : List (Option AV)) (S' : Mem), decode cX0_seek pc = .ok (.return_, 1) → post S' → AW X cX0_seek 2 pc L [] S') (hp : ∀ S', fr 53 66 S S' → LE S S' M P → post S') : ∀ (r i : Nat), i + r = P → AW X cX0_seek 2 7 [some (.inr (.inr 53)), some (.inl i)] [] (st2 S 53 4 ((3 ^ i : Nat) : Int)) := by
  obtain ⟨e1, e2, e3, e4, e5, e6, e7, e8⟩ := id E
  intro r
  induction r with
  | zero =>
    intro i hi
    obtain rfl : i = P := by omega
    refine aw_ildn (n := 8) C dX0_seek_7 rfl rfl ?_
    refine aw_aldn (n := 9) C dX0_seek_8 rfl rfl ?_
    refine aw_getR (n := 12) C dX0_seek_9 rfl fl_X0_36 rfl rfl ?_
    skip
    refine aw_getI (z := 9) (n := 15) C dX0_seek_12 rfl fl_X0_40 rfl rfl rfl ?_
    rw [show st2 S 53 4 ((3 ^ i : Nat) : Int) 10 9 = S 10 9 from rfl]
    refine aw_icge (tgt := 34) (n := 18) C dX0_seek_15 rfl rfl (by omega) (by omega) (fun h_15 => ?_) (fun h_15 => ?_)
    · refine aw_aldn (n := 35) C dX0_seek_34 rfl rfl ?_
      refine aw_bipush (n := 37) C dX0_seek_35 rfl rfl ?_
      refine aw_put (z := 7) (n := 40) C dX0_seek_37 rfl fp_X0_33 rfl rfl rfl (Or.inl rfl) ?_
      refine aw_aldn (n := 41) C dX0_seek_40 rfl rfl ?_
      refine aw_bipush (n := 43) C dX0_seek_41 rfl rfl ?_
      refine aw_put (z := 6) (n := 46) C dX0_seek_43 rfl fp_X0_30 rfl rfl rfl (Or.inl rfl) ?_
      refine aw_aldn (n := 47) C dX0_seek_46 rfl rfl ?_
      refine aw_getR (n := 50) C dX0_seek_47 rfl fl_X0_16 rfl rfl ?_
      refine aw_iconst (n := 51) C dX0_seek_50 rfl ?_
      refine aw_cSv (n := 54) (vs := [_, _]) C dX0_seek_51 rfl rfl rfl mm_J7_fill_53178 wM_X0_45 (Nat.le_of_ble_eq_true rfl) (c_fill (n := 81) rfl (by decide)) (by decide) (fun S_51 q_51 => ?_)
      rw [q_51]
      clear q_51 S_51
      refine aw_aldn (n := 55) C dX0_seek_54 rfl rfl ?_
      refine aw_getR (n := 58) C dX0_seek_55 rfl fl_X0_36 rfl rfl ?_
      refine aw_getI (z := 8) (n := 61) C dX0_seek_58 rfl fl_X0_51 rfl rfl rfl ?_
      rw [show ∀ T : Mem, fl2 (st2 (st2 T 53 7 (-9)) 53 6 (-9)) 63 ((81 : Nat) : Int) 0 10 8 = T 10 8 from fun _ => rfl, show st2 S 53 4 ((3 ^ i : Nat) : Int) 10 8 = S 10 8 from rfl, e1]
      refine aw_iconst (n := 62) C dX0_seek_61 rfl ?_
      refine aw_isub (n := 63) C dX0_seek_62 rfl ?_
      refine aw_istn (n := 64) (L' := [_, _]) C dX0_seek_63 rfl (by decide) rfl rfl ?_
      have := c_seek2 E hM0 C hret hp M 0 (fl2 (st2 (st2 (st2 S 53 4 ((3 ^ i : Nat) : Int)) 53 7 (-9)) 53 6 (-9)) 63 ((81 : Nat) : Int) 0) (by omega) ⟨fun c hc => funext fun x => ?_, rfl, rfl, rfl, fun w hw => ?_, fun m m0 m1 => by omega⟩
      · rw [show (M : Int) - 1 - ((0 : Nat) : Int) = (M : Int) - 1 by omega] at this
        exact this
      · simp only [fl2, st2]
        rw [if_neg (by omega), if_neg (by omega), if_neg (by omega), if_neg (by omega)]
      · have := p3_81 i e4
        show fl2 _ 63 81 0 63 w = 0
        unfold fl2
        exact if_pos ⟨rfl, by omega, by omega⟩
    · omega
  | succ r ih =>
    intro i hi
    have e3i : 3 ^ (i + 1) = 3 ^ i * 3 := Nat.pow_succ ..
    refine aw_ildn (n := 8) C dX0_seek_7 rfl rfl ?_
    refine aw_aldn (n := 9) C dX0_seek_8 rfl rfl ?_
    refine aw_getR (n := 12) C dX0_seek_9 rfl fl_X0_36 rfl rfl ?_
    refine aw_getI (z := 9) (n := 15) C dX0_seek_12 rfl fl_X0_40 rfl rfl rfl ?_
    rw [show st2 S 53 4 ((3 ^ i : Nat) : Int) 10 9 = S 10 9 from rfl]
    refine aw_icge (tgt := 34) (n := 18) C dX0_seek_15 rfl rfl (by omega) (by omega) (fun h_15 => ?_) (fun h_15 => ?_)
    · omega
    · refine aw_aldn (n := 19) C dX0_seek_18 rfl rfl ?_
      refine aw_dup (n := 20) C dX0_seek_19 rfl rfl ?_
      refine aw_getI (z := 4) (n := 23) C dX0_seek_20 rfl fl_X0_23 rfl rfl rfl ?_
      rw [st2_s]
      refine aw_iconst (n := 24) C dX0_seek_23 rfl ?_
      refine aw_imul (n := 25) C dX0_seek_24 rfl ?_
      refine aw_put (z := 4) (n := 28) C dX0_seek_25 rfl fp_X0_23 rfl rfl rfl (Or.inl rfl) ?_
      refine aw_iinc (n := 31) (L' := [_, _]) C dX0_seek_28 rfl rfl (by decide) rfl rfl ?_
      refine aw_goto (tgt := 7) C dX0_seek_31 rfl ?_
      rw [st2_st2]
      have := ih (i + 1) (by omega)
      rw [e3i, Int.natCast_mul] at this
      exact this
theorem c_seek (E : EW S M P) (hM0 : 0 < M) : AMv 3 yX0_seek cX0_seek 2 [.inr (.inr 53)] S (fun S' => fr 53 66 S S' ∧ LE S S' M P) := by
  refine amv_intro (L := [_, none]) (by decide) rfl (Nat.le_of_ble_eq_true rfl) (fun X C hret => ?_)
  refine aw_aldn (n := 1) C dX0_seek_0 rfl rfl ?_
  refine aw_iconst (n := 2) C dX0_seek_1 rfl ?_
  refine aw_put (z := 4) (n := 5) C dX0_seek_2 rfl fp_X0_23 rfl rfl rfl (Or.inl rfl) ?_
  refine aw_iconst (n := 6) C dX0_seek_5 rfl ?_
  refine aw_istn (n := 7) (L' := [_, _]) C dX0_seek_6 rfl (by decide) rfl rfl ?_
  exact c_seek1 E hM0 C hret (fun S' a b => ⟨a, b⟩) P 0 (by omega)
end EZ5
