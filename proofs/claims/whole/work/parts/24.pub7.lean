/-! RegretLine: odds -/
/-- in how many ways the miles from m on bring one to a class -/
def wy (kd fd tA tB : Fn) (l1 l2 p c : Int) : Nat → Nat → Fn → Int
  | 0, _, row => if due l1 l2 (row p) = c then 1 else 0
  | r + 1, m, row => wy kd fd tA tB l1 l2 p c r (m + 1) (stp kd fd 0 (tA m) (tB m) row) + wy kd fd tA tB l1 l2 p c r (m + 1) (stp kd fd 1 (tA m) (tB m) row)
theorem wy_congr {kd fd tA tB kd' fd' tA' tB' : Fn} {l1 l2 p c mi pe : Int} (p0 : 0 ≤ p) (p1 : p < pe) (hk : ∀ p, 0 ≤ p → p < pe → kd p = kd' p) (hf : ∀ p, 0 ≤ p → p < pe → fd p = fd' p) (hm : ∀ m, 0 ≤ m → m < mi → tA m = tA' m ∧ tB m = tB' m) (ht : ∀ m, 0 ≤ m → m < mi → tok pe (tA m) (tB m)) : ∀ (r m : Nat) (row row' : Fn), (m : Int) + r ≤ mi → (∀ x, 0 ≤ x → x < pe → row x = row' x) → wy kd fd tA tB l1 l2 p c r m row = wy kd' fd' tA' tB' l1 l2 p c r m row'
  | 0, m, row, row', _, h => by unfold wy; rw [h p p0 p1]
  | r + 1, m, row, row', hmr, h => by
    obtain ⟨e1, e2⟩ := hm m (by omega) (by omega)
    unfold wy
    rw [← e1, ← e2, wy_congr p0 p1 hk hf hm ht r (m + 1) _ _ (by omega) (fun x x0 x1 => stp_congr (t := 0) (ht m (by omega) (by omega)) x0 x1 hk hf h), wy_congr p0 p1 hk hf hm ht r (m + 1) _ _ (by omega) (fun x x0 x1 => stp_congr (t := 1) (ht m (by omega) (by omega)) x0 x1 hk hf h)]
theorem wy_r (kd fd tA tB : Fn) (l1 l2 p c : Int) : ∀ (r m : Nat) (row : Fn), 0 ≤ wy kd fd tA tB l1 l2 p c r m row ∧ wy kd fd tA tB l1 l2 p c r m row ≤ 2 ^ r
  | 0, m, row => by unfold wy; split <;> decide
  | r + 1, m, row => by
    have h1 := wy_r kd fd tA tB l1 l2 p c r (m + 1) (stp kd fd 0 (tA m) (tB m) row)
    have h2 := wy_r kd fd tA tB l1 l2 p c r (m + 1) (stp kd fd 1 (tA m) (tB m) row)
    have e : (2 : Int) ^ (r + 1) = 2 ^ r + 2 ^ r := by rw [Int.pow_succ]; omega
    unfold wy
    rw [e]
    omega
theorem pw8 : ∀ r : Nat, r ≤ 8 → (2 : Int) ^ r ≤ 256 := by decide
theorem TW28_tun {S : Mem} {m b : Int} (T : TW 28 S) (hb : b = 0 ∨ b = 1) : TW 28 (st2 S 30 m b) := by
  obtain ⟨t1, t2, t3, t4, t5, t6⟩ := TW28 T
  refine ⟨t1, t2, t3, t4, fun x x0 x1 => ?_, t6⟩
  refine ⟨?_, (t5 x x0 x1).2⟩
  show st2 S 30 m b 30 x = 0 ∨ st2 S 30 m b 30 x = 1
  by_cases e : x = m
  · rw [e, st2_s]; exact hb
  · rw [st2_n e]; exact (t5 x x0 x1).1
def wfr (m : Nat) (S S' : Mem) : Prop := ∀ x, x ≠ 30 → x < 38 + m ∨ 46 ≤ x → S' x = S x
theorem c_ways {p c : Int} : ∀ (r m d : Nat) (S : Mem), 3 + r ≤ d → TW 28 S → S 10 8 = S 28 8 → (m : Int) + r = S 28 8 → (∀ x, 0 ≤ x → x < S 28 9 → 0 ≤ S (37 + m) x ∧ S (37 + m) x ≤ 99) → 0 ≤ p → p < S 28 9 → 0 ≤ c → c < 3 → AMi d yX6_waysToBeDue cX6_waysToBeDue 5 (some .int) [.inr (.inr 0), .inl p, .inl c, .inl (m : Int)] S (fun z S' => z = wy (S 33) (S 35) (S 31) (S 32) (S 28 10) (S 28 11) p c r m (S (37 + m)) ∧ wfr m S S' ∧ TW 28 S') := by
  intro r
  induction r with
  | zero =>
    intro m d S hd T h10 hm hr p0 p1 c0 c1
    obtain ⟨t1, t2, t3, t4, t5, t6⟩ := TW28 T
    have hdr := due_r (S 28 10) (S 28 11) (S (37 + m) p)
    have hrp := hr p p0 p1
    refine ami_intro (L := [_, _, _, _, none]) (by decide) (Or.inl rfl) rfl (Nat.le_of_ble_eq_true rfl) (fun X C hret => ?_)
    refine aw_ildn (n := 1) C dX6_waysToBeDue_0 rfl rfl ?_
    refine aw_aldn (n := 2) C dX6_waysToBeDue_1 rfl rfl ?_
    refine aw_getR (n := 5) C dX6_waysToBeDue_2 rfl fl_X6_21 rfl rfl ?_
    refine aw_getI (z := 8) (n := 8) C dX6_waysToBeDue_5 rfl fl_X6_154 rfl rfl rfl ?_
    refine aw_iclt (tgt := 30) (n := 11) C dX6_waysToBeDue_8 rfl rfl (by omega) (by omega) (fun h_8 => ?_) (fun h_8 => ?_)
    · omega
    · refine aw_aldn (n := 12) C dX6_waysToBeDue_11 rfl rfl ?_
      refine aw_getR (n := 15) C dX6_waysToBeDue_12 rfl fl_X6_25 rfl rfl ?_
      refine aw_ildn (n := 16) C dX6_waysToBeDue_15 rfl rfl ?_
      refine aw_ildn (n := 17) C dX6_waysToBeDue_16 rfl rfl ?_
      refine aw_cVi (n := 20) (vs := [_, _]) C dX6_waysToBeDue_17 rfl rfl rfl mm_X5_classDue wM_X6_148 rfl rfl (Nat.le_of_ble_eq_true rfl) (c_classDue28 (m := m) (by omega) (by omega) (by omega) (by omega) (by omega) (by omega)) (by omega) (fun z_17 S_17 q_17 => ?_)
      rw [q_17.1, q_17.2]
      clear q_17 S_17 z_17
      refine aw_ildn (n := 21) C dX6_waysToBeDue_20 rfl rfl ?_
      refine aw_icne (tgt := 28) (n := 24) C dX6_waysToBeDue_21 rfl rfl (by omega) (by omega) (fun h_21 => ?_) (fun h_21 => ?_)
      · refine aw_iconst (n := 29) C dX6_waysToBeDue_28 rfl ?_
        refine hret 29 _ _ _ dX6_waysToBeDue_29 (Or.inl rfl) ?_
        refine ⟨?_, fun x _ _ => rfl, T⟩
        unfold wy
        first | rw [if_pos h_21] | rw [if_neg h_21]
      · refine aw_iconst (n := 25) C dX6_waysToBeDue_24 rfl ?_
        refine aw_goto (tgt := 29) C dX6_waysToBeDue_25 rfl ?_
        refine hret 29 _ _ _ dX6_waysToBeDue_29 (Or.inl rfl) ?_
        refine ⟨?_, fun x _ _ => rfl, T⟩
        unfold wy
        first | rw [if_pos h_21] | rw [if_neg h_21]
  | succ r ih =>
    intro m d S hd T h10 hm hr p0 p1 c0 c1
    obtain ⟨t1, t2, t3, t4, t5, t6⟩ := TW28 T
    have htm := t5 m (by omega) (by omega)
    refine ami_intro (L := [_, _, _, _, none]) (by decide) (Or.inl rfl) rfl (Nat.le_of_ble_eq_true rfl) (fun X C hret => ?_)
    refine aw_ildn (n := 1) C dX6_waysToBeDue_0 rfl rfl ?_
    refine aw_aldn (n := 2) C dX6_waysToBeDue_1 rfl rfl ?_
    refine aw_getR (n := 5) C dX6_waysToBeDue_2 rfl fl_X6_21 rfl rfl ?_
    refine aw_getI (z := 8) (n := 8) C dX6_waysToBeDue_5 rfl fl_X6_154 rfl rfl rfl ?_
    refine aw_iclt (tgt := 30) (n := 11) C dX6_waysToBeDue_8 rfl rfl (by omega) (by omega) (fun h_8 => ?_) (fun h_8 => ?_)
    · refine aw_aldn (n := 31) C dX6_waysToBeDue_30 rfl rfl ?_
      refine aw_getR (n := 34) C dX6_waysToBeDue_31 rfl fl_X6_25 rfl rfl ?_
      refine aw_getR (n := 37) C dX6_waysToBeDue_34 rfl fl_X6_127 rfl rfl ?_
      refine aw_ildn (n := 38) C dX6_waysToBeDue_37 rfl rfl ?_
      refine aw_iconst (n := 39) C dX6_waysToBeDue_38 rfl ?_
      refine aw_zast (n := 40) C dX6_waysToBeDue_39 rfl rfl (by omega) (by omega) (by omega) ?_
      refine aw_aldn (n := 41) C dX6_waysToBeDue_40 rfl rfl ?_
      refine aw_getR (n := 44) C dX6_waysToBeDue_41 rfl fl_X6_25 rfl rfl ?_
      refine aw_ildn (n := 45) C dX6_waysToBeDue_44 rfl rfl ?_
      refine aw_cVv (n := 48) (vs := [_]) C dX6_waysToBeDue_45 rfl rfl rfl mm_X5_rideThrough wM_X6_223 rfl rfl (Nat.le_of_ble_eq_true rfl) (c_rideThrough28 (S := st2 S 30 m 0) (m := m) (TW28_tun T (Or.inl rfl)) (show (m : Int) < S 28 8 by omega) (fun x x0 x1 => by rw [st2_o (37 + m) (by omega)]; exact hr x x0 x1)) (by omega) (fun S_45 q_45 => ?_)
      obtain ⟨g1, g2⟩ := q_45
      have T2 : TW 28 S_45 := TW28_fr (TW28_tun T (Or.inl rfl)) (fr_w g1 (by omega) (by omega))
      have o2 : ∀ x, x ≠ 30 → x < 38 + m ∨ 39 + m ≤ x → S_45 x = S x := fun x h1 h2 => by rw [g1 x h2, st2_o x h1]
      have g3 : ∀ x, 0 ≤ x → x < S 28 9 → S_45 (38 + m) x = stp (S 33) (S 35) 0 (S 31 m) (S 32 m) (S (37 + m)) x := fun x x0 x1 => by
        rw [g2 x x0 x1, st2_s, st2_o 33 (by omega), st2_o 35 (by omega), st2_o 31 (by omega), st2_o 32 (by omega), st2_o (37 + m) (by omega)]
      refine aw_aldn (n := 49) C dX6_waysToBeDue_48 rfl rfl ?_
      refine aw_ildn (n := 50) C dX6_waysToBeDue_49 rfl rfl ?_
      refine aw_ildn (n := 51) C dX6_waysToBeDue_50 rfl rfl ?_
      refine aw_ildn (n := 52) C dX6_waysToBeDue_51 rfl rfl ?_
      refine aw_iconst (n := 53) C dX6_waysToBeDue_52 rfl ?_
      refine aw_iadd (n := 54) C dX6_waysToBeDue_53 rfl ?_
      have e28 := o2 28 (by omega) (by omega)
      refine aw_cVi (n := 57) (vs := [_, _, _]) C dX6_waysToBeDue_54 rfl rfl rfl mm_X6_waysToBeDue wM_X6_220 rfl rfl (Nat.le_of_ble_eq_true rfl) (ih (m + 1) (d - 1) S_45 (by omega) T2 (by rw [o2 10 (by omega) (by omega), e28]; exact h10) (by rw [e28]; omega) (fun x x0 x1 => by rw [e28] at x1; rw [show 37 + (m + 1) = 38 + m by omega, g3 x x0 x1]; exact stp_r _ _ _ _ _ _ _) p0 (by rw [e28]; exact p1) c0 c1) (by omega) (fun z_54 S_54 q_54 => ?_)
      obtain ⟨k1, k2, k3⟩ := q_54
      rw [show 37 + (m + 1) = 38 + m by omega, o2 33 (by omega) (by omega), o2 35 (by omega) (by omega), o2 31 (by omega) (by omega), o2 32 (by omega) (by omega), e28] at k1
      have o3 : ∀ x, x ≠ 30 → x < 38 + m ∨ 46 ≤ x → S_54 x = S x := fun x h1 h2 => by rw [k2 x h1 (by omega), o2 x h1 (by omega)]
      have e1 : z_54 = wy (S 33) (S 35) (S 31) (S 32) (S 28 10) (S 28 11) p c r (m + 1) (stp (S 33) (S 35) 0 (S 31 m) (S 32 m) (S (37 + m))) := k1.trans (wy_congr (mi := S 28 8) (pe := S 28 9) p0 p1 (fun _ _ _ => rfl) (fun _ _ _ => rfl) (fun _ _ _ => ⟨rfl, rfl⟩) (fun x x0 x1 => (t5 x x0 x1).2) r (m + 1) _ _ (by omega) g3)
      refine aw_istw (n := 59) (L' := [_, _, _, _, _]) C dX6_waysToBeDue_57 rfl (by decide) rfl rfl ?_
      refine aw_aldn (n := 60) C dX6_waysToBeDue_59 rfl rfl ?_
      refine aw_getR (n := 63) C dX6_waysToBeDue_60 rfl fl_X6_25 rfl rfl ?_
      refine aw_getR (n := 66) C dX6_waysToBeDue_63 rfl fl_X6_127 rfl rfl ?_
      refine aw_ildn (n := 67) C dX6_waysToBeDue_66 rfl rfl ?_
      refine aw_iconst (n := 68) C dX6_waysToBeDue_67 rfl ?_
      refine aw_zast (n := 69) C dX6_waysToBeDue_68 rfl rfl (by omega) (by omega) (by omega) ?_
      refine aw_aldn (n := 70) C dX6_waysToBeDue_69 rfl rfl ?_
      refine aw_getR (n := 73) C dX6_waysToBeDue_70 rfl fl_X6_25 rfl rfl ?_
      refine aw_ildn (n := 74) C dX6_waysToBeDue_73 rfl rfl ?_
      refine aw_cVv (n := 77) (vs := [_]) C dX6_waysToBeDue_74 rfl rfl rfl mm_X5_rideThrough wM_X6_223 rfl rfl (Nat.le_of_ble_eq_true rfl) (c_rideThrough28 (S := st2 S_54 30 m 1) (m := m) (TW28_tun k3 (Or.inr rfl)) (by rw [st2_o 28 (by omega), o3 28 (by omega) (by omega)]; omega) (fun x x0 x1 => by rw [st2_o 28 (by omega), o3 28 (by omega) (by omega)] at x1; rw [st2_o (37 + m) (by omega), o3 (37 + m) (by omega) (by omega)]; exact hr x x0 x1)) (by omega) (fun S_74 q_74 => ?_)
      obtain ⟨g4, g5⟩ := q_74
      have T5 : TW 28 S_74 := TW28_fr (TW28_tun k3 (Or.inr rfl)) (fr_w g4 (by omega) (by omega))
      have o5 : ∀ x, x ≠ 30 → x < 38 + m ∨ 46 ≤ x → S_74 x = S x := fun x h1 h2 => by rw [g4 x (by omega), st2_o x h1, o3 x h1 h2]
      have g6 : ∀ x, 0 ≤ x → x < S 28 9 → S_74 (38 + m) x = stp (S 33) (S 35) 1 (S 31 m) (S 32 m) (S (37 + m)) x := fun x x0 x1 => by
        rw [g5 x x0 (by rw [st2_o 28 (by omega), o3 28 (by omega) (by omega)]; exact x1), st2_s, st2_o 33 (by omega), st2_o 35 (by omega), st2_o 31 (by omega), st2_o 32 (by omega), st2_o (37 + m) (by omega), o3 33 (by omega) (by omega), o3 35 (by omega) (by omega), o3 31 (by omega) (by omega), o3 32 (by omega) (by omega), o3 (37 + m) (by omega) (by omega)]
      have e5 := o5 28 (by omega) (by omega)
      refine aw_ildw (n := 79) C dX6_waysToBeDue_77 rfl rfl ?_
      refine aw_aldn (n := 80) C dX6_waysToBeDue_79 rfl rfl ?_
      refine aw_ildn (n := 81) C dX6_waysToBeDue_80 rfl rfl ?_
      refine aw_ildn (n := 82) C dX6_waysToBeDue_81 rfl rfl ?_
      refine aw_ildn (n := 83) C dX6_waysToBeDue_82 rfl rfl ?_
      refine aw_iconst (n := 84) C dX6_waysToBeDue_83 rfl ?_
      refine aw_iadd (n := 85) C dX6_waysToBeDue_84 rfl ?_
      refine aw_cVi (n := 88) (vs := [_, _, _]) C dX6_waysToBeDue_85 rfl rfl rfl mm_X6_waysToBeDue wM_X6_220 rfl rfl (Nat.le_of_ble_eq_true rfl) (ih (m + 1) (d - 1) S_74 (by omega) T5 (by rw [o5 10 (by omega) (by omega), e5]; exact h10) (by rw [e5]; omega) (fun x x0 x1 => by rw [e5] at x1; rw [show 37 + (m + 1) = 38 + m by omega, g6 x x0 x1]; exact stp_r _ _ _ _ _ _ _) p0 (by rw [e5]; exact p1) c0 c1) (by omega) (fun z_85 S_85 q_85 => ?_)
      obtain ⟨l1, l2, l3⟩ := q_85
      rw [show 37 + (m + 1) = 38 + m by omega, o5 33 (by omega) (by omega), o5 35 (by omega) (by omega), o5 31 (by omega) (by omega), o5 32 (by omega) (by omega), e5] at l1
      have e2 : z_85 = wy (S 33) (S 35) (S 31) (S 32) (S 28 10) (S 28 11) p c r (m + 1) (stp (S 33) (S 35) 1 (S 31 m) (S 32 m) (S (37 + m))) := l1.trans (wy_congr (mi := S 28 8) (pe := S 28 9) p0 p1 (fun _ _ _ => rfl) (fun _ _ _ => rfl) (fun _ _ _ => ⟨rfl, rfl⟩) (fun x x0 x1 => (t5 x x0 x1).2) r (m + 1) _ _ (by omega) g6)
      refine aw_iadd (n := 89) C dX6_waysToBeDue_88 rfl ?_
      refine hret 89 _ _ _ dX6_waysToBeDue_89 (Or.inl rfl) ?_
      refine ⟨by rw [e1, e2]; rfl, fun x h1 h2 => by rw [l2 x h1 (by omega), o5 x h1 h2], l3⟩
    · omega
/-- a share in least terms, by halves -/
def rdc : Nat → Int → Int → Int × Int
  | 0, u, l => (u, l)
  | n + 1, u, l => if 1 < l ∧ u % 2 = 0 then rdc n (u / 2) (l / 2) else (u, l)
section ODDS
variable {X : AMX} {S : Mem} {p c w : Int}
theorem x_odds_loop {post : Int → Mem → Prop} {S1 : Mem} (hw : w = 0 ∨ w = 1) (C : CX X 12 RX6 cX6_odds 6) (hret : ∀ (pc : Nat) (L : List (Option AV)) (z : Int) (S' : Mem), decode cX6_odds pc = .ok (.lreturn, 1) → post z S' → AW X cX6_odds 6 pc L [.inr (.inl z)] S') : ∀ (j : Nat) (u : Int), j ≤ 8 → 0 ≤ u → u ≤ 256 → post (if w = 0 then (rdc j u (2 ^ j)).1 else (rdc j u (2 ^ j)).2) S1 → AW X cX6_odds 6 59 [some (.inr (.inr 0)), some (.inl p), some (.inl c), some (.inl w), some (.inl u), some (.inl (2 ^ j))] [] S1 := by
  have k87 : ∀ u l : Int, rng u → rng l → post (if w = 0 then u else l) S1 → AW X cX6_odds 6 87 [some (.inr (.inr 0)), some (.inl p), some (.inl c), some (.inl w), some (.inl u), some (.inl l)] [] S1 := by
    intro u l hu hl hp
    refine aw_ildn (n := 88) C dX6_odds_87 rfl rfl ?_
    refine aw_ifne (tgt := 97) (n := 91) C dX6_odds_88 rfl rfl (by omega) (fun h_88 => ?_) (fun h_88 => ?_)
    · refine aw_ildw (n := 99) C dX6_odds_97 rfl rfl ?_
      refine aw_i2l (n := 100) C dX6_odds_99 rfl (by omega) ?_
      refine hret 100 _ _ _ dX6_odds_100 ?_
      first | (rw [if_pos h_88] at hp; exact hp) | (rw [if_neg h_88] at hp; exact hp)
    · refine aw_ildw (n := 93) C dX6_odds_91 rfl rfl ?_
      refine aw_i2l (n := 94) C dX6_odds_93 rfl (by omega) ?_
      refine aw_goto (tgt := 100) C dX6_odds_94 rfl ?_
      refine hret 100 _ _ _ dX6_odds_100 ?_
      first | (rw [if_pos h_88] at hp; exact hp) | (rw [if_neg h_88] at hp; exact hp)
  intro j
  induction j with
  | zero =>
    intro u hj u0 u1 hp
    have e1 : (2 : Int) ^ 0 = 1 := rfl
    rw [e1] at hp ⊢
    refine aw_ildw (n := 61) C dX6_odds_59 rfl rfl ?_
    refine aw_iconst (n := 62) C dX6_odds_61 rfl ?_
    refine aw_icle (tgt := 87) (n := 65) C dX6_odds_62 rfl rfl (by omega) (by omega) (fun h_62 => ?_) (fun h_62 => ?_)
    · exact k87 u 1 (by omega) (by omega) hp
    · omega
  | succ j ih =>
    intro u hj u0 u1 hp
    have hp8 := pw8 (j + 1) hj
    have hpos : (0 : Int) < 2 ^ j := Int.pow_pos (by decide)
    have e1 : (2 : Int) ^ (j + 1) = 2 ^ j + 2 ^ j := by rw [Int.pow_succ]; omega
    have e2 : (2 : Int) ^ (j + 1) / 2 = 2 ^ j := by omega
    unfold rdc at hp
    refine aw_ildw (n := 61) C dX6_odds_59 rfl rfl ?_
    refine aw_iconst (n := 62) C dX6_odds_61 rfl ?_
    refine aw_icle (tgt := 87) (n := 65) C dX6_odds_62 rfl rfl (by omega) (by omega) (fun h_62 => ?_) (fun h_62 => ?_)
    · first | (exfalso; omega) | (rw [if_neg (show ¬ (1 < (2 : Int) ^ (j + 1) ∧ u % 2 = 0) by omega)] at hp; exact k87 u _ (by omega) (by omega) hp)
    · refine aw_ildw (n := 67) C dX6_odds_65 rfl rfl ?_
      refine aw_iconst (n := 68) C dX6_odds_67 rfl ?_
      refine aw_irem (n := 69) C dX6_odds_68 rfl (by omega) (by omega) ?_
      refine aw_ifne (tgt := 87) (n := 72) C dX6_odds_69 rfl rfl (by omega) (fun h_69 => ?_) (fun h_69 => ?_)
      · first | (exfalso; omega) | (rw [if_neg (show ¬ (1 < (2 : Int) ^ (j + 1) ∧ u % 2 = 0) by omega)] at hp; exact k87 u _ (by omega) (by omega) hp)
      · refine aw_ildw (n := 74) C dX6_odds_72 rfl rfl ?_
        refine aw_iconst (n := 75) C dX6_odds_74 rfl ?_
        refine aw_idiv (n := 76) C dX6_odds_75 rfl (by omega) (by omega) ?_
        refine aw_istw (n := 78) (L' := [_, _, _, _, _, _]) C dX6_odds_76 rfl (by decide) rfl rfl ?_
        refine aw_ildw (n := 80) C dX6_odds_78 rfl rfl ?_
        refine aw_iconst (n := 81) C dX6_odds_80 rfl ?_
        refine aw_idiv (n := 82) C dX6_odds_81 rfl (by omega) (by omega) ?_
        refine aw_istw (n := 84) (L' := [_, _, _, _, _, _]) C dX6_odds_82 rfl (by decide) rfl rfl ?_
        refine aw_goto (tgt := 59) C dX6_odds_84 rfl ?_
        rw [if_pos (show 1 < (2 : Int) ^ (j + 1) ∧ u % 2 = 0 by omega), e2] at hp
        rw [e2]
        exact ih (u / 2) (by omega) (by omega) (by omega) hp
theorem x_odds (hp : rng p) (hc : rng c) (hw : rng w) (W : XW S) (G : CG S) : AMl 12 yX6_odds cX6_odds 6 (some .long) [.inr (.inr 0), .inl p, .inl c, .inl w] S (fun z S' => fr 28 46 S S' ∧ z = (if p < 0 ∨ S 10 9 ≤ p ∨ c < 0 ∨ 3 ≤ c ∨ w < 0 ∨ 1 < w then -9223372036854775808 else if w = 0 then (rdc (S 10 8).toNat (wy (S 15) (S 17) (S 13) (S 14) (S 10 10) (S 10 11) p c (S 10 8).toNat 0 (S 16)) (2 ^ (S 10 8).toNat)).1 else (rdc (S 10 8).toNat (wy (S 15) (S 17) (S 13) (S 14) (S 10 10) (S 10 11) p c (S 10 8).toNat 0 (S 16)) (2 ^ (S 10 8).toNat)).2)) := by
  obtain ⟨T, w2, w3, w4, w5, w6⟩ := W
  obtain ⟨t1, t2, t3, t4, t5, t6⟩ := TW10 T
  refine aml_intro (L := [_, _, _, _, none, none]) (by decide) rfl (Nat.le_of_ble_eq_true rfl) (fun X C hret => ?_)
  refine aw_aldn (n := 1) C dX6_odds_0 rfl rfl ?_
  refine aw_ildn (n := 2) C dX6_odds_1 rfl rfl ?_
  refine aw_cVi (n := 5) (vs := [_]) C dX6_odds_2 rfl rfl rfl mm_X6_noPassenger wM_X6_96 rfl rfl (Nat.le_of_ble_eq_true rfl) (c_noPassenger hp (by omega)) (by decide) (fun z_2 S_2 q_2 => ?_)
  rw [q_2.1, q_2.2]
  clear q_2 S_2 z_2
  refine aw_ifne (tgt := 24) (n := 8) C dX6_odds_5 rfl rfl (by omega) (fun h_5 => ?_) (fun h_5 => ?_)
  · refine aw_ldc2 (z := -9223372036854775808) (n := 27) C dX6_odds_24 rfl wL_X6_218 (by decide) ?_
    refine hret 27 _ _ _ dX6_odds_27 ?_
    exact ⟨fr_rf _ _ _, by rw [if_pos (by omega)]⟩
  · refine aw_ildn (n := 9) C dX6_odds_8 rfl rfl ?_
    refine aw_cSi (n := 12) (vs := [_]) C dX6_odds_9 rfl rfl rfl mm_X6_noClass wM_X6_112 (Nat.le_of_ble_eq_true rfl) (c_noClass hc) (by decide) (fun z_9 S_9 q_9 => ?_)
    rw [q_9.1, q_9.2]
    clear q_9 S_9 z_9
    refine aw_ifne (tgt := 24) (n := 15) C dX6_odds_12 rfl rfl (by omega) (fun h_12 => ?_) (fun h_12 => ?_)
    · refine aw_ldc2 (z := -9223372036854775808) (n := 27) C dX6_odds_24 rfl wL_X6_218 (by decide) ?_
      refine hret 27 _ _ _ dX6_odds_27 ?_
      exact ⟨fr_rf _ _ _, by rw [if_pos (by omega)]⟩
    · refine aw_ildn (n := 16) C dX6_odds_15 rfl rfl ?_
      refine aw_iflt (tgt := 24) (n := 19) C dX6_odds_16 rfl rfl (by omega) (fun h_16 => ?_) (fun h_16 => ?_)
      · refine aw_ldc2 (z := -9223372036854775808) (n := 27) C dX6_odds_24 rfl wL_X6_218 (by decide) ?_
        refine hret 27 _ _ _ dX6_odds_27 ?_
        exact ⟨fr_rf _ _ _, by rw [if_pos (by omega)]⟩
      · refine aw_ildn (n := 20) C dX6_odds_19 rfl rfl ?_
        refine aw_iconst (n := 21) C dX6_odds_20 rfl ?_
        refine aw_icle (tgt := 28) (n := 24) C dX6_odds_21 rfl rfl (by omega) (by omega) (fun h_21 => ?_) (fun h_21 => ?_)
        · refine aw_aldn (n := 29) C dX6_odds_28 rfl rfl ?_
          refine aw_getR (n := 32) C dX6_odds_29 rfl fl_X6_25 rfl rfl ?_
          refine aw_aldn (n := 33) C dX6_odds_32 rfl rfl ?_
          refine aw_getR (n := 36) C dX6_odds_33 rfl fl_X6_21 rfl rfl ?_
          refine aw_cVv (n := 39) (vs := [_]) C dX6_odds_36 rfl rfl rfl mm_X5_becomeLike wM_X6_192 rfl rfl (Nat.le_of_ble_eq_true rfl) (c_becomeLike t1 t2 (fun m m0 m1 => (t5 m m0 m1).1)) (by decide) (fun S_36 q_36 => ?_)
          obtain ⟨⟨f1, f2, f3, f4, f5⟩, km, kp, kr⟩ := id q_36
          have T28 := LK_TW T q_36
          obtain ⟨M, hM⟩ : ∃ M : Nat, S 10 8 = M := ⟨(S 10 8).toNat, by omega⟩
          refine aw_aldn (n := 40) C dX6_odds_39 rfl rfl ?_
          refine aw_ildn (n := 41) C dX6_odds_40 rfl rfl ?_
          refine aw_ildn (n := 42) C dX6_odds_41 rfl rfl ?_
          refine aw_iconst (n := 43) C dX6_odds_42 rfl ?_
          refine aw_cVi (n := 46) (vs := [_, _, _]) C dX6_odds_43 rfl rfl rfl mm_X6_waysToBeDue wM_X6_220 rfl rfl (Nat.le_of_ble_eq_true rfl) (c_ways M 0 11 S_36 (by omega) T28 (by rw [f1 10 (by omega), f2]) (by rw [f2]; omega) (fun x x0 x1 => by rw [f3] at x1; rw [kr 0 (by omega) x x0 x1]; exact w3 0 (by omega) x x0 x1) (by omega) (by rw [f3]; omega) (by omega) (by omega)) (by decide) (fun z_43 S_43 q_43 => ?_)
          obtain ⟨g1, g2, g3⟩ := q_43
          have e10 : S_43 10 = S 10 := by rw [g2 10 (by omega) (by omega), f1 10 (by omega)]
          have e1 : z_43 = wy (S 15) (S 17) (S 13) (S 14) (S 10 10) (S 10 11) p c M 0 (S 16) := by
            rw [g1, f4, f5]
            refine wy_congr (mi := S 10 8) (pe := S 10 9) (by omega) (by omega) (fun x x0 x1 => (kp x x0 x1).1) (fun x x0 x1 => (kp x x0 x1).2.2) (fun x x0 x1 => (km x x0 x1).2) (fun x x0 x1 => by rw [(km x x0 x1).2.1, (km x x0 x1).2.2]; exact (t5 x x0 x1).2) M 0 _ _ (by omega) (fun x x0 x1 => ?_)
            rw [kr 0 (by omega) x x0 x1]
            exact G 0 (by omega) x x0 x1
          have hwr := wy_r (S 15) (S 17) (S 13) (S 14) (S 10 10) (S 10 11) p c M 0 (S 16)
          have hp8 := pw8 M (by omega)
          rw [← e1] at hwr
          have hfr : fr 28 46 S S_43 := fun x hx => by rw [g2 x (by omega) (by omega), f1 x (by omega)]
          refine aw_istw (n := 48) (L' := [_, _, _, _, _, _]) C dX6_odds_46 rfl (by decide) rfl rfl ?_
          refine aw_iconst (n := 49) C dX6_odds_48 rfl ?_
          refine aw_aldn (n := 50) C dX6_odds_49 rfl rfl ?_
          refine aw_getR (n := 53) C dX6_odds_50 rfl fl_X6_21 rfl rfl ?_
          refine aw_getI (z := 8) (n := 56) C dX6_odds_53 rfl fl_X6_154 rfl rfl rfl ?_
          rw [e10, hM]
          refine aw_ishl (n := 57) C dX6_odds_56 rfl (shl_bitI (by omega)) ?_
          refine aw_istw (n := 59) (L' := [_, _, _, _, _, _]) C dX6_odds_57 rfl (by decide) rfl rfl ?_
          refine x_odds_loop (by omega) C hret M z_43 (by omega) (by omega) (by omega) ⟨hfr, ?_⟩
          rw [if_neg (show ¬ (p < 0 ∨ S 10 9 ≤ p ∨ c < 0 ∨ 3 ≤ c ∨ w < 0 ∨ 1 < w) by omega), hM, Int.toNat_natCast, e1]
        · refine aw_ldc2 (z := -9223372036854775808) (n := 27) C dX6_odds_24 rfl wL_X6_218 (by decide) ?_
          refine hret 27 _ _ _ dX6_odds_27 ?_
          exact ⟨fr_rf _ _ _, by rw [if_pos (by omega)]⟩
end ODDS
