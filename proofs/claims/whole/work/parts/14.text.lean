/-! a text: where its first fault is -/
def fitH (at0 : Nat) (c : Int) : Bool := if at0 = 0 then decide (c = 114) else if at0 = 4 then decide (c = 59) else decide (48 ≤ c ∧ c ≤ 52)
def isM (c : Int) : Bool := decide (c = 45 ∨ c = 117)
def kdOf (c : Int) : Int := if c = 112 then 0 else if c = 119 then 1 else if c = 104 then 2 else -9
def fitP (part : Nat) (c : Int) : Bool := if part = 0 then decide (c = 44) else if part = 1 then decide (c = 112 ∨ c = 119 ∨ c = 104) else if part = 2 then decide (48 ≤ c ∧ c ≤ 53) else decide (48 ≤ c ∧ c ≤ 57)
def ffH (q : Fn) (n K : Int) : Nat → Nat → Int
  | 0, _ => K
  | r + 1, a => if n ≤ (a : Int) ∨ fitH a (q a) = false then (a : Int) else ffH q n K r (a + 1)
def mcF (q : Fn) (n : Int) : Nat → Nat → Nat
  | 0, a => a
  | r + 1, a => if (a : Int) < n ∧ isM (q a) = true then mcF q n r (a + 1) else a
def ffP (q : Fn) (n K : Int) : Nat → Nat → Nat → Int
  | 0, _, _ => K
  | r + 1, part, a => if n ≤ (a : Int) ∨ fitP part (q a) = false then (a : Int) else ffP q n K r (part + 1) (a + 1)
def ffE (n : Int) (a : Nat) : Int := if (a : Int) < n then (a : Int) else -1
def ffA (q : Fn) (n : Int) : Nat → Nat → Nat → Int
  | 0, _, a => ffE n a
  | r + 1, p, a => if p = 0 ∨ (a : Int) < n then ffP q n (ffA q n r (p + 1) (a + 5)) 5 0 a else ffE n a
def ffM (q : Fn) (n : Int) (a : Nat) : Int := if a = 5 then 5 else ffA q n 4 0 a
/-- the first fault of a text of n codes; -1: it is whole -/
def ff (q : Fn) (n : Int) : Int := ffH q n (ffM q n (mcF q n 8 5)) 5 0
theorem bb {b : Bool} {z : Int} (h : z = if b = true then 1 else 0) : (z = 0 ↔ b = false) ∧ (z = 1 ↔ b = true) := by cases b <;> simp [h]
theorem c_isDigit {S : Mem} {c h : Int} (hc : rng c) (hh : 0 ≤ h ∧ h ≤ 9) : AMi 0 yX4_isDigit cX4_isDigit 2 (some .boolean) [.inl c, .inl h] S (fun z S' => z = (if decide (48 ≤ c ∧ c ≤ 48 + h) = true then 1 else 0) ∧ S' = S) := by
  refine ami_intro (L := [_, _]) (by decide) (Or.inr rfl) rfl (Nat.le_of_ble_eq_true rfl) (fun X C hret => ?_)
  refine aw_ildn (n := 1) C dX4_isDigit_0 rfl rfl ?_
  refine aw_bipush (n := 3) C dX4_isDigit_1 rfl rfl ?_
  refine aw_iclt (tgt := 18) (n := 6) C dX4_isDigit_3 rfl rfl (by omega) (by omega) (fun h_3 => ?_) (fun h_3 => ?_)
  · refine aw_iconst (n := 19) C dX4_isDigit_18 rfl ?_
    refine hret 19 _ _ _ dX4_isDigit_19 (Or.inr ⟨rfl, by omega⟩) ?_
    exact ⟨by simp only [decide_eq_true_eq]; omega, rfl⟩
  · refine aw_ildn (n := 7) C dX4_isDigit_6 rfl rfl ?_
    refine aw_bipush (n := 9) C dX4_isDigit_7 rfl rfl ?_
    refine aw_ildn (n := 10) C dX4_isDigit_9 rfl rfl ?_
    refine aw_iadd (n := 11) C dX4_isDigit_10 rfl ?_
    refine aw_icgt (tgt := 18) (n := 14) C dX4_isDigit_11 rfl rfl (by omega) (by omega) (fun h_11 => ?_) (fun h_11 => ?_)
    · refine aw_iconst (n := 19) C dX4_isDigit_18 rfl ?_
      refine hret 19 _ _ _ dX4_isDigit_19 (Or.inr ⟨rfl, by omega⟩) ?_
      exact ⟨by simp only [decide_eq_true_eq]; omega, rfl⟩
    · refine aw_iconst (n := 15) C dX4_isDigit_14 rfl ?_
      refine aw_goto (tgt := 19) C dX4_isDigit_15 rfl ?_
      refine hret 19 _ _ _ dX4_isDigit_19 (Or.inr ⟨rfl, by omega⟩) ?_
      exact ⟨by simp only [decide_eq_true_eq]; omega, rfl⟩
theorem c_isMile {S : Mem} {c : Int} (hc : rng c) : AMi 0 yX4_isMile cX4_isMile 1 (some .boolean) [.inl c] S (fun z S' => z = (if isM c = true then 1 else 0) ∧ S' = S) := by
  refine ami_intro (L := [_]) (by decide) (Or.inr rfl) rfl (Nat.le_of_ble_eq_true rfl) (fun X C hret => ?_)
  refine aw_ildn (n := 1) C dX4_isMile_0 rfl rfl ?_
  refine aw_bipush (n := 3) C dX4_isMile_1 rfl rfl ?_
  refine aw_iceq (tgt := 12) (n := 6) C dX4_isMile_3 rfl rfl (by omega) (by omega) (fun h_3 => ?_) (fun h_3 => ?_)
  · refine aw_iconst (n := 13) C dX4_isMile_12 rfl ?_
    refine aw_goto (tgt := 17) C dX4_isMile_13 rfl ?_
    refine hret 17 _ _ _ dX4_isMile_17 (Or.inr ⟨rfl, by omega⟩) ?_
    exact ⟨by unfold isM; simp only [decide_eq_true_eq]; omega, rfl⟩
  · refine aw_ildn (n := 7) C dX4_isMile_6 rfl rfl ?_
    refine aw_bipush (n := 9) C dX4_isMile_7 rfl rfl ?_
    refine aw_icne (tgt := 16) (n := 12) C dX4_isMile_9 rfl rfl (by omega) (by omega) (fun h_9 => ?_) (fun h_9 => ?_)
    · refine aw_iconst (n := 17) C dX4_isMile_16 rfl ?_
      refine hret 17 _ _ _ dX4_isMile_17 (Or.inr ⟨rfl, by omega⟩) ?_
      exact ⟨by unfold isM; simp only [decide_eq_true_eq]; omega, rfl⟩
    · refine aw_iconst (n := 13) C dX4_isMile_12 rfl ?_
      refine aw_goto (tgt := 17) C dX4_isMile_13 rfl ?_
      refine hret 17 _ _ _ dX4_isMile_17 (Or.inr ⟨rfl, by omega⟩) ?_
      exact ⟨by unfold isM; simp only [decide_eq_true_eq]; omega, rfl⟩
theorem c_kindOf {S : Mem} {c : Int} (hc : rng c) : AMi 0 yX4_kindOf cX4_kindOf 1 (some .int) [.inl c] S (fun z S' => z = kdOf c ∧ S' = S) := by
  refine ami_intro (L := [_]) (by decide) (Or.inl rfl) rfl (Nat.le_of_ble_eq_true rfl) (fun X C hret => ?_)
  refine aw_ildn (n := 1) C dX4_kindOf_0 rfl rfl ?_
  by_cases e1 : c = 104
  · refine aw_lookup (tgt := 40) (off := 39) C dX4_kindOf_1 hc rfl (by rw [e1]; rfl) rfl ?_
    refine aw_iconst (n := 41) C dX4_kindOf_40 rfl ?_
    refine hret 41 _ _ _ dX4_kindOf_41 (Or.inl rfl) ?_
    exact ⟨by unfold kdOf; omega, rfl⟩
  by_cases e2 : c = 112
  · refine aw_lookup (tgt := 36) (off := 35) C dX4_kindOf_1 hc rfl (by rw [e2]; rfl) rfl ?_
    refine aw_iconst (n := 37) C dX4_kindOf_36 rfl ?_
    refine hret 37 _ _ _ dX4_kindOf_37 (Or.inl rfl) ?_
    exact ⟨by unfold kdOf; omega, rfl⟩
  by_cases e3 : c = 119
  · refine aw_lookup (tgt := 38) (off := 37) C dX4_kindOf_1 hc rfl (by rw [e3]; rfl) rfl ?_
    refine aw_iconst (n := 39) C dX4_kindOf_38 rfl ?_
    refine hret 39 _ _ _ dX4_kindOf_39 (Or.inl rfl) ?_
    exact ⟨by unfold kdOf; omega, rfl⟩
  refine aw_lookup (tgt := 42) (off := 41) C dX4_kindOf_1 hc rfl (by show (if (104 : Int) = c then (39 : Int) else if (112 : Int) = c then 35 else if (119 : Int) = c then 37 else 41) = 41; omega) rfl ?_
  refine aw_bipush (n := 44) C dX4_kindOf_42 rfl rfl ?_
  refine hret 44 _ _ _ dX4_kindOf_44 (Or.inl rfl) ?_
  exact ⟨by unfold kdOf; omega, rfl⟩
theorem c_fitsHead {S : Mem} {c : Int} {p : Nat} (hc : rng c) (hp : p < 5) : AMi 1 yX4_fitsHead cX4_fitsHead 2 (some .boolean) [.inl (p : Int), .inl c] S (fun z S' => z = (if fitH p c = true then 1 else 0) ∧ S' = S) := by
  refine ami_intro (L := [_, _]) (by decide) (Or.inr rfl) rfl (Nat.le_of_ble_eq_true rfl) (fun X C hret => ?_)
  refine aw_ildn (n := 1) C dX4_fitsHead_0 rfl rfl ?_
  by_cases e1 : p = 0
  · refine aw_lookup (tgt := 28) (off := 27) C dX4_fitsHead_1 (by omega) rfl (by rw [e1]; rfl) rfl ?_
    refine aw_ildn (n := 29) C dX4_fitsHead_28 rfl rfl ?_
    refine aw_bipush (n := 31) C dX4_fitsHead_29 rfl rfl ?_
    refine aw_icne (tgt := 38) (n := 34) C dX4_fitsHead_31 rfl rfl (by omega) (by omega) (fun h_31 => ?_) (fun h_31 => ?_)
    · refine aw_iconst (n := 39) C dX4_fitsHead_38 rfl ?_
      refine hret 39 _ _ _ dX4_fitsHead_39 (Or.inr ⟨rfl, by omega⟩) ?_
      exact ⟨by unfold fitH; rw [if_pos e1]; simp only [decide_eq_true_eq]; omega, rfl⟩
    · refine aw_iconst (n := 35) C dX4_fitsHead_34 rfl ?_
      refine aw_goto (tgt := 39) C dX4_fitsHead_35 rfl ?_
      refine hret 39 _ _ _ dX4_fitsHead_39 (Or.inr ⟨rfl, by omega⟩) ?_
      exact ⟨by unfold fitH; rw [if_pos e1]; simp only [decide_eq_true_eq]; omega, rfl⟩
  by_cases e2 : p = 4
  · refine aw_lookup (tgt := 40) (off := 39) C dX4_fitsHead_1 (by omega) rfl (by rw [e2]; rfl) rfl ?_
    refine aw_ildn (n := 41) C dX4_fitsHead_40 rfl rfl ?_
    refine aw_bipush (n := 43) C dX4_fitsHead_41 rfl rfl ?_
    refine aw_icne (tgt := 50) (n := 46) C dX4_fitsHead_43 rfl rfl (by omega) (by omega) (fun h_43 => ?_) (fun h_43 => ?_)
    · refine aw_iconst (n := 51) C dX4_fitsHead_50 rfl ?_
      refine hret 51 _ _ _ dX4_fitsHead_51 (Or.inr ⟨rfl, by omega⟩) ?_
      exact ⟨by unfold fitH; rw [if_neg e1, if_pos e2]; simp only [decide_eq_true_eq]; omega, rfl⟩
    · refine aw_iconst (n := 47) C dX4_fitsHead_46 rfl ?_
      refine aw_goto (tgt := 51) C dX4_fitsHead_47 rfl ?_
      refine hret 51 _ _ _ dX4_fitsHead_51 (Or.inr ⟨rfl, by omega⟩) ?_
      exact ⟨by unfold fitH; rw [if_neg e1, if_pos e2]; simp only [decide_eq_true_eq]; omega, rfl⟩
  refine aw_lookup (tgt := 52) (off := 51) C dX4_fitsHead_1 (by omega) rfl (by show (if (0 : Int) = (p : Int) then (27 : Int) else if (4 : Int) = (p : Int) then 39 else 51) = 51; omega) rfl ?_
  refine aw_ildn (n := 53) C dX4_fitsHead_52 rfl rfl ?_
  refine aw_iconst (n := 54) C dX4_fitsHead_53 rfl ?_
  refine aw_cSi (n := 57) (vs := [_, _]) C dX4_fitsHead_54 rfl rfl rfl mm_X4_isDigit wM_X4_22 (Nat.le_of_ble_eq_true rfl) (c_isDigit hc (by decide)) (by decide) (fun z_54 S_54 q_54 => ?_)
  rw [q_54.1, q_54.2]
  clear q_54 S_54 z_54
  refine hret 57 _ _ _ dX4_fitsHead_57 (Or.inr ⟨rfl, (by split <;> simp)⟩) ?_
  exact ⟨by unfold fitH; rw [if_neg e1, if_neg e2]; rfl, rfl⟩
theorem c_fitsPassenger {S : Mem} {c : Int} {p : Nat} (hc : rng c) (hp : p < 5) : AMi 1 yX4_fitsPassenger cX4_fitsPassenger 2 (some .boolean) [.inl (p : Int), .inl c] S (fun z S' => z = (if fitP p c = true then 1 else 0) ∧ S' = S) := by
  have hk : -9 ≤ kdOf c ∧ kdOf c ≤ 2 := by unfold kdOf; omega
  refine ami_intro (L := [_, _]) (by decide) (Or.inr rfl) rfl (Nat.le_of_ble_eq_true rfl) (fun X C hret => ?_)
  refine aw_ildn (n := 1) C dX4_fitsPassenger_0 rfl rfl ?_
  by_cases e1 : p = 0
  · refine aw_tableIn (tgt := 28) (off := 27) C dX4_fitsPassenger_1 (by omega) (by omega) (by omega) (by rw [e1]; rfl) rfl ?_
    refine aw_ildn (n := 29) C dX4_fitsPassenger_28 rfl rfl ?_
    refine aw_bipush (n := 31) C dX4_fitsPassenger_29 rfl rfl ?_
    refine aw_icne (tgt := 38) (n := 34) C dX4_fitsPassenger_31 rfl rfl (by omega) (by omega) (fun h_31 => ?_) (fun h_31 => ?_)
    · refine aw_iconst (n := 39) C dX4_fitsPassenger_38 rfl ?_
      refine hret 39 _ _ _ dX4_fitsPassenger_39 (Or.inr ⟨rfl, by omega⟩) ?_
      exact ⟨by unfold fitP; rw [if_pos e1]; simp only [decide_eq_true_eq]; omega, rfl⟩
    · refine aw_iconst (n := 35) C dX4_fitsPassenger_34 rfl ?_
      refine aw_goto (tgt := 39) C dX4_fitsPassenger_35 rfl ?_
      refine hret 39 _ _ _ dX4_fitsPassenger_39 (Or.inr ⟨rfl, by omega⟩) ?_
      exact ⟨by unfold fitP; rw [if_pos e1]; simp only [decide_eq_true_eq]; omega, rfl⟩
  by_cases e2 : p = 1
  · refine aw_tableIn (tgt := 40) (off := 39) C dX4_fitsPassenger_1 (by omega) (by omega) (by omega) (by rw [e2]; rfl) rfl ?_
    refine aw_ildn (n := 41) C dX4_fitsPassenger_40 rfl rfl ?_
    refine aw_cSi (n := 44) (vs := [_]) C dX4_fitsPassenger_41 rfl rfl rfl mm_X4_kindOf wM_X4_25 (Nat.le_of_ble_eq_true rfl) (c_kindOf hc) (by decide) (fun z_41 S_41 q_41 => ?_)
    rw [q_41.1, q_41.2]
    clear q_41 S_41 z_41
    refine aw_bipush (n := 46) C dX4_fitsPassenger_44 rfl rfl ?_
    refine aw_iceq (tgt := 53) (n := 49) C dX4_fitsPassenger_46 rfl rfl (by omega) (by omega) (fun h_46 => ?_) (fun h_46 => ?_)
    · refine aw_iconst (n := 54) C dX4_fitsPassenger_53 rfl ?_
      refine hret 54 _ _ _ dX4_fitsPassenger_54 (Or.inr ⟨rfl, by omega⟩) ?_
      exact ⟨by unfold fitP; rw [if_neg e1, if_pos e2]; simp only [decide_eq_true_eq]; unfold kdOf at h_46; omega, rfl⟩
    · refine aw_iconst (n := 50) C dX4_fitsPassenger_49 rfl ?_
      refine aw_goto (tgt := 54) C dX4_fitsPassenger_50 rfl ?_
      refine hret 54 _ _ _ dX4_fitsPassenger_54 (Or.inr ⟨rfl, by omega⟩) ?_
      exact ⟨by unfold fitP; rw [if_neg e1, if_pos e2]; simp only [decide_eq_true_eq]; unfold kdOf at h_46; omega, rfl⟩
  by_cases e3 : p = 2
  · refine aw_tableIn (tgt := 55) (off := 54) C dX4_fitsPassenger_1 (by omega) (by omega) (by omega) (by rw [e3]; rfl) rfl ?_
    refine aw_ildn (n := 56) C dX4_fitsPassenger_55 rfl rfl ?_
    refine aw_iconst (n := 57) C dX4_fitsPassenger_56 rfl ?_
    refine aw_cSi (n := 60) (vs := [_, _]) C dX4_fitsPassenger_57 rfl rfl rfl mm_X4_isDigit wM_X4_22 (Nat.le_of_ble_eq_true rfl) (c_isDigit hc (by decide)) (by decide) (fun z_57 S_57 q_57 => ?_)
    rw [q_57.1, q_57.2]
    clear q_57 S_57 z_57
    refine hret 60 _ _ _ dX4_fitsPassenger_60 (Or.inr ⟨rfl, (by split <;> simp)⟩) ?_
    exact ⟨by unfold fitP; rw [if_neg e1, if_neg e2, if_pos e3]; rfl, rfl⟩
  refine aw_tableOut (tgt := 61) C dX4_fitsPassenger_1 (by omega) (by omega) rfl ?_
  refine aw_ildn (n := 62) C dX4_fitsPassenger_61 rfl rfl ?_
  refine aw_bipush (n := 64) C dX4_fitsPassenger_62 rfl rfl ?_
  refine aw_cSi (n := 67) (vs := [_, _]) C dX4_fitsPassenger_64 rfl rfl rfl mm_X4_isDigit wM_X4_22 (Nat.le_of_ble_eq_true rfl) (c_isDigit hc (by decide)) (by decide) (fun z_64 S_64 q_64 => ?_)
  rw [q_64.1, q_64.2]
  clear q_64 S_64 z_64
  refine hret 67 _ _ _ dX4_fitsPassenger_67 (Or.inr ⟨rfl, (by split <;> simp)⟩) ?_
  exact ⟨by unfold fitP; rw [if_neg e1, if_neg e2, if_neg e3]; rfl, rfl⟩
section FF
variable {X : AMX} {S : Mem} {k : Nat} {i n : Int} {post : Int → Mem → Prop}
theorem c_ff4 {K : Int} {p : Nat} (hk : k < 4) (hi : 0 ≤ i) (hn : 0 ≤ n) (hin : i + n ≤ 60) (hc : ∀ j, rng (S (6 + k) j)) (C : CX X 2 RX4 cX4_firstFault 6) (hret : ∀ (pc : Nat) (L : List (Option AV)) (z : Int) (S' : Mem), decode cX4_firstFault pc = .ok (.ireturn, 1) → ((some FieldType.int) = some .int ∨ ((some FieldType.int) = some .boolean ∧ (z = 0 ∨ z = 1))) → post z S' → AW X cX4_firstFault 6 pc L [.inl z] S') : ∀ (r part a : Nat) (kk : ∀ y, post K S → AW X cX4_firstFault 6 124 [some (.inr (.inr (6 + k))), some (.inl i), some (.inl n), some (.inl ((a + r : Nat) : Int)), some (.inl p), y] [] S), part + r = 5 → a ≤ 60 → post (ffP (fun j => S (6 + k) (i + j)) n K r part a) S → AW X cX4_firstFault 6 89 [some (.inr (.inr (6 + k))), some (.inl i), some (.inl n), some (.inl a), some (.inl p), some (.inl part)] [] S := by
  intro r
  induction r with
  | zero =>
    intro part a kk hpr ha hp
    refine aw_ildw (n := 91) C dX4_firstFault_89 rfl rfl ?_
    refine aw_iconst (n := 92) C dX4_firstFault_91 rfl ?_
    refine aw_icge (tgt := 124) (n := 95) C dX4_firstFault_92 rfl rfl (by omega) (by omega) (fun h_92 => ?_) (fun h_92 => ?_)
    · exact kk _ hp
    · omega
  | succ r ih =>
    intro part a kk hpr ha hp
    have hca := hc (i + a)
    unfold ffP at hp
    refine aw_ildw (n := 91) C dX4_firstFault_89 rfl rfl ?_
    refine aw_iconst (n := 92) C dX4_firstFault_91 rfl ?_
    refine aw_icge (tgt := 124) (n := 95) C dX4_firstFault_92 rfl rfl (by omega) (by omega) (fun h_92 => ?_) (fun h_92 => ?_)
    · omega
    · refine aw_ildn (n := 96) C dX4_firstFault_95 rfl rfl ?_
      refine aw_ildn (n := 97) C dX4_firstFault_96 rfl rfl ?_
      refine aw_icge (tgt := 113) (n := 100) C dX4_firstFault_97 rfl rfl (by omega) (by omega) (fun h_97 => ?_) (fun h_97 => ?_)
      · refine aw_ildn (n := 114) C dX4_firstFault_113 rfl rfl ?_
        refine hret 114 _ _ _ dX4_firstFault_114 (Or.inl rfl) ?_
        first | (rw [if_pos (Or.inl h_97)] at hp; exact hp) | (rw [if_pos (Or.inr ((bb rfl).1.mp h_110))] at hp; exact hp)
      · refine aw_ildw (n := 102) C dX4_firstFault_100 rfl rfl ?_
        refine aw_aldn (n := 103) C dX4_firstFault_102 rfl rfl ?_
        refine aw_ildn (n := 104) C dX4_firstFault_103 rfl rfl ?_
        refine aw_ildn (n := 105) C dX4_firstFault_104 rfl rfl ?_
        refine aw_iadd (n := 106) C dX4_firstFault_105 rfl ?_
        refine aw_iald (n := 107) C dX4_firstFault_106 rfl (sc hk) (by omega) (by omega) ?_
        refine aw_cSi (n := 110) (vs := [_, _]) C dX4_firstFault_107 rfl rfl rfl mm_X4_fitsPassenger wM_X4_19 (Nat.le_of_ble_eq_true rfl) (c_fitsPassenger hca (by omega)) (by decide) (fun z_107 S_107 q_107 => ?_)
        rw [q_107.1, q_107.2]
        clear q_107 S_107 z_107
        refine aw_ifne (tgt := 115) (n := 113) C dX4_firstFault_110 rfl rfl (by split <;> omega) (fun h_110 => ?_) (fun h_110 => ?_)
        · refine aw_iinc (n := 118) (L' := [_, _, _, _, _, _]) C dX4_firstFault_115 rfl rfl (by decide) rfl rfl ?_
          refine aw_iinc (n := 121) (L' := [_, _, _, _, _, _]) C dX4_firstFault_118 rfl rfl (by decide) rfl rfl ?_
          refine aw_goto (tgt := 89) C dX4_firstFault_121 rfl ?_
          have hb : ¬ (n ≤ (a : Int) ∨ fitP part (S (6 + k) (i + a)) = false) := by
            intro q
            rcases q with q | q
            · omega
            · exact h_110 ((bb rfl).1.mpr q)
          rw [if_neg hb] at hp
          exact ih (part + 1) (a + 1) (by rw [show a + 1 + r = a + (r + 1) by omega]; exact kk) (by omega) (by omega) hp
        · refine aw_ildn (n := 114) C dX4_firstFault_113 rfl rfl ?_
          refine hret 114 _ _ _ dX4_firstFault_114 (Or.inl rfl) ?_
          first | (rw [if_pos (Or.inl h_97)] at hp; exact hp) | (rw [if_pos (Or.inr ((bb rfl).1.mp h_110))] at hp; exact hp)
theorem c_ff3 (hk : k < 4) (hi : 0 ≤ i) (hn : 0 ≤ n) (hin : i + n ≤ 60) (hc : ∀ j, rng (S (6 + k) j)) (C : CX X 2 RX4 cX4_firstFault 6) (hret : ∀ (pc : Nat) (L : List (Option AV)) (z : Int) (S' : Mem), decode cX4_firstFault pc = .ok (.ireturn, 1) → ((some FieldType.int) = some .int ∨ ((some FieldType.int) = some .boolean ∧ (z = 0 ∨ z = 1))) → post z S' → AW X cX4_firstFault 6 pc L [.inl z] S') : ∀ (r p a : Nat) (y : Option AV), p + r = 4 → a ≤ 13 + 5 * p → post (ffA (fun j => S (6 + k) (i + j)) n r p a) S → AW X cX4_firstFault 6 70 [some (.inr (.inr (6 + k))), some (.inl i), some (.inl n), some (.inl a), some (.inl p), y] [] S := by
  intro r
  induction r with
  | zero =>
    intro p a y hpr ha hp
    unfold ffA ffE at hp
    refine aw_ildw (n := 72) C dX4_firstFault_70 rfl rfl ?_
    refine aw_iconst (n := 73) C dX4_firstFault_72 rfl ?_
    refine aw_icge (tgt := 130) (n := 76) C dX4_firstFault_73 rfl rfl (by omega) (by omega) (fun h_73 => ?_) (fun h_73 => ?_)
    · refine aw_ildn (n := 131) C dX4_firstFault_130 rfl rfl ?_
      refine aw_ildn (n := 132) C dX4_firstFault_131 rfl rfl ?_
      refine aw_icge (tgt := 139) (n := 135) C dX4_firstFault_132 rfl rfl (by omega) (by omega) (fun h_132 => ?_) (fun h_132 => ?_)
      · refine aw_iconst (n := 140) C dX4_firstFault_139 rfl ?_
        refine hret 140 _ _ _ dX4_firstFault_140 (Or.inl rfl) ?_
        first | (rw [if_pos h_132] at hp; exact hp) | (rw [if_neg (by omega)] at hp; exact hp)
      · refine aw_ildn (n := 136) C dX4_firstFault_135 rfl rfl ?_
        refine aw_goto (tgt := 140) C dX4_firstFault_136 rfl ?_
        refine hret 140 _ _ _ dX4_firstFault_140 (Or.inl rfl) ?_
        first | (rw [if_pos h_132] at hp; exact hp) | (rw [if_neg (by omega)] at hp; exact hp)
    · omega
  | succ r ih =>
    intro p a y hpr ha hp
    unfold ffA at hp
    have k124 : ∀ y, post (ffA (fun j => S (6 + k) (i + j)) n r (p + 1) (a + 5)) S → AW X cX4_firstFault 6 124 [some (.inr (.inr (6 + k))), some (.inl i), some (.inl n), some (.inl ((a + 5 : Nat) : Int)), some (.inl p), y] [] S := by
      intro y hp
      refine aw_iinc (n := 127) (L' := [_, _, _, _, _, _]) C dX4_firstFault_124 rfl rfl (by decide) rfl rfl ?_
      refine aw_goto (tgt := 70) C dX4_firstFault_127 rfl ?_
      exact ih (p + 1) (a + 5) y (by omega) (by omega) hp
    refine aw_ildw (n := 72) C dX4_firstFault_70 rfl rfl ?_
    refine aw_iconst (n := 73) C dX4_firstFault_72 rfl ?_
    refine aw_icge (tgt := 130) (n := 76) C dX4_firstFault_73 rfl rfl (by omega) (by omega) (fun h_73 => ?_) (fun h_73 => ?_)
    · omega
    · refine aw_ildw (n := 78) C dX4_firstFault_76 rfl rfl ?_
      refine aw_ifeq (tgt := 86) (n := 81) C dX4_firstFault_78 rfl rfl (by omega) (fun h_78 => ?_) (fun h_78 => ?_)
      · refine aw_iconst (n := 87) C dX4_firstFault_86 rfl ?_
        refine aw_istw (n := 89) (L' := [_, _, _, _, _, _]) C dX4_firstFault_87 rfl (by decide) rfl rfl ?_
        rw [if_pos (by omega)] at hp
        exact c_ff4 hk hi hn hin hc C hret 5 0 a k124 rfl (by omega) hp
      · refine aw_ildn (n := 82) C dX4_firstFault_81 rfl rfl ?_
        refine aw_ildn (n := 83) C dX4_firstFault_82 rfl rfl ?_
        refine aw_icge (tgt := 130) (n := 86) C dX4_firstFault_83 rfl rfl (by omega) (by omega) (fun h_83 => ?_) (fun h_83 => ?_)
        · refine aw_ildn (n := 131) C dX4_firstFault_130 rfl rfl ?_
          refine aw_ildn (n := 132) C dX4_firstFault_131 rfl rfl ?_
          refine aw_icge (tgt := 139) (n := 135) C dX4_firstFault_132 rfl rfl (by omega) (by omega) (fun h_132 => ?_) (fun h_132 => ?_)
          · refine aw_iconst (n := 140) C dX4_firstFault_139 rfl ?_
            refine hret 140 _ _ _ dX4_firstFault_140 (Or.inl rfl) ?_
            rw [if_neg (by omega)] at hp
            unfold ffE at hp
            first | (rw [if_pos h_132] at hp; exact hp) | (rw [if_neg (by omega)] at hp; exact hp)
          · refine aw_ildn (n := 136) C dX4_firstFault_135 rfl rfl ?_
            refine aw_goto (tgt := 140) C dX4_firstFault_136 rfl ?_
            refine hret 140 _ _ _ dX4_firstFault_140 (Or.inl rfl) ?_
            rw [if_neg (by omega)] at hp
            unfold ffE at hp
            first | (rw [if_pos h_132] at hp; exact hp) | (rw [if_neg (by omega)] at hp; exact hp)
        · refine aw_iconst (n := 87) C dX4_firstFault_86 rfl ?_
          refine aw_istw (n := 89) (L' := [_, _, _, _, _, _]) C dX4_firstFault_87 rfl (by decide) rfl rfl ?_
          rw [if_pos (by omega)] at hp
          exact c_ff4 hk hi hn hin hc C hret 5 0 a k124 rfl (by omega) hp
theorem c_ff2 (hk : k < 4) (hi : 0 ≤ i) (hn : 0 ≤ n) (hin : i + n ≤ 60) (hc : ∀ j, rng (S (6 + k) j)) (C : CX X 2 RX4 cX4_firstFault 6) (hret : ∀ (pc : Nat) (L : List (Option AV)) (z : Int) (S' : Mem), decode cX4_firstFault pc = .ok (.ireturn, 1) → ((some FieldType.int) = some .int ∨ ((some FieldType.int) = some .boolean ∧ (z = 0 ∨ z = 1))) → post z S' → AW X cX4_firstFault 6 pc L [.inl z] S') : ∀ (r a : Nat), a + r = 13 → post (ffM (fun j => S (6 + k) (i + j)) n (mcF (fun j => S (6 + k) (i + j)) n r a)) S → AW X cX4_firstFault 6 32 [some (.inr (.inr (6 + k))), some (.inl i), some (.inl n), some (.inl a), none, none] [] S := by
  have k60 : ∀ a : Nat, a ≤ 13 → post (ffM (fun j => S (6 + k) (i + j)) n a) S → AW X cX4_firstFault 6 60 [some (.inr (.inr (6 + k))), some (.inl i), some (.inl n), some (.inl a), none, none] [] S := by
    intro a ha hp
    unfold ffM at hp
    refine aw_ildn (n := 61) C dX4_firstFault_60 rfl rfl ?_
    refine aw_iconst (n := 62) C dX4_firstFault_61 rfl ?_
    refine aw_icne (tgt := 67) (n := 65) C dX4_firstFault_62 rfl rfl (by omega) (by omega) (fun h_62 => ?_) (fun h_62 => ?_)
    · refine aw_iconst (n := 68) C dX4_firstFault_67 rfl ?_
      refine aw_istw (n := 70) (L' := [_, _, _, _, _, _]) C dX4_firstFault_68 rfl (by decide) rfl rfl ?_
      rw [if_neg (by omega)] at hp
      exact c_ff3 hk hi hn hin hc C hret 4 0 a _ rfl (by omega) hp
    · refine aw_ildn (n := 66) C dX4_firstFault_65 rfl rfl ?_
      refine hret 66 _ _ _ dX4_firstFault_66 (Or.inl rfl) ?_
      rw [if_pos (by omega)] at hp
      rw [h_62]
      exact hp
  intro r
  induction r with
  | zero =>
    intro a har hp
    refine aw_ildn (n := 33) C dX4_firstFault_32 rfl rfl ?_
    refine aw_bipush (n := 35) C dX4_firstFault_33 rfl rfl ?_
    refine aw_icge (tgt := 60) (n := 38) C dX4_firstFault_35 rfl rfl (by omega) (by omega) (fun h_35 => ?_) (fun h_35 => ?_)
    · exact k60 a (by omega) hp
    · omega
  | succ r ih =>
    intro a har hp
    have hca := hc (i + a)
    unfold mcF at hp
    refine aw_ildn (n := 33) C dX4_firstFault_32 rfl rfl ?_
    refine aw_bipush (n := 35) C dX4_firstFault_33 rfl rfl ?_
    refine aw_icge (tgt := 60) (n := 38) C dX4_firstFault_35 rfl rfl (by omega) (by omega) (fun h_35 => ?_) (fun h_35 => ?_)
    · omega
    · refine aw_ildn (n := 39) C dX4_firstFault_38 rfl rfl ?_
      refine aw_ildn (n := 40) C dX4_firstFault_39 rfl rfl ?_
      refine aw_icge (tgt := 60) (n := 43) C dX4_firstFault_40 rfl rfl (by omega) (by omega) (fun h_40 => ?_) (fun h_40 => ?_)
      · first | (rw [if_neg (by omega)] at hp; exact k60 a (by omega) hp) | (rw [if_neg (fun q => by have := (bb rfl).1.mp h_51; rw [this] at q; cases q.2)] at hp; exact k60 a (by omega) hp)
      · refine aw_aldn (n := 44) C dX4_firstFault_43 rfl rfl ?_
        refine aw_ildn (n := 45) C dX4_firstFault_44 rfl rfl ?_
        refine aw_ildn (n := 46) C dX4_firstFault_45 rfl rfl ?_
        refine aw_iadd (n := 47) C dX4_firstFault_46 rfl ?_
        refine aw_iald (n := 48) C dX4_firstFault_47 rfl (sc hk) (by omega) (by omega) ?_
        refine aw_cSi (n := 51) (vs := [_]) C dX4_firstFault_48 rfl rfl rfl mm_X4_isMile wM_X4_15 (Nat.le_of_ble_eq_true rfl) (c_isMile hca) (by decide) (fun z_48 S_48 q_48 => ?_)
        rw [q_48.1, q_48.2]
        clear q_48 S_48 z_48
        refine aw_ifeq (tgt := 60) (n := 54) C dX4_firstFault_51 rfl rfl (by split <;> omega) (fun h_51 => ?_) (fun h_51 => ?_)
        · first | (rw [if_neg (by omega)] at hp; exact k60 a (by omega) hp) | (rw [if_neg (fun q => by have := (bb rfl).1.mp h_51; rw [this] at q; cases q.2)] at hp; exact k60 a (by omega) hp)
        · refine aw_iinc (n := 57) (L' := [_, _, _, _, _, _]) C dX4_firstFault_54 rfl rfl (by decide) rfl rfl ?_
          refine aw_goto (tgt := 32) C dX4_firstFault_57 rfl ?_
          have hb : isM (S (6 + k) (i + a)) = true := by
            cases e : isM (S (6 + k) (i + a)) with
            | true => rfl
            | false => exact absurd ((bb rfl).1.mpr e) h_51
          rw [if_pos ⟨by omega, hb⟩] at hp
          exact ih (a + 1) (by omega) hp
theorem c_ff1 (hk : k < 4) (hi : 0 ≤ i) (hn : 0 ≤ n) (hin : i + n ≤ 60) (hc : ∀ j, rng (S (6 + k) j)) (C : CX X 2 RX4 cX4_firstFault 6) (hret : ∀ (pc : Nat) (L : List (Option AV)) (z : Int) (S' : Mem), decode cX4_firstFault pc = .ok (.ireturn, 1) → ((some FieldType.int) = some .int ∨ ((some FieldType.int) = some .boolean ∧ (z = 0 ∨ z = 1))) → post z S' → AW X cX4_firstFault 6 pc L [.inl z] S') : ∀ (r a : Nat), a + r = 5 → post (ffH (fun j => S (6 + k) (i + j)) n (ffM (fun j => S (6 + k) (i + j)) n (mcF (fun j => S (6 + k) (i + j)) n 8 5)) r a) S → AW X cX4_firstFault 6 2 [some (.inr (.inr (6 + k))), some (.inl i), some (.inl n), some (.inl a), none, none] [] S := by
  intro r
  induction r with
  | zero =>
    intro a har hp
    obtain rfl : a = 5 := by omega
    refine aw_ildn (n := 3) C dX4_firstFault_2 rfl rfl ?_
    refine aw_iconst (n := 4) C dX4_firstFault_3 rfl ?_
    refine aw_icge (tgt := 32) (n := 7) C dX4_firstFault_4 rfl rfl (by omega) (by omega) (fun h_4 => ?_) (fun h_4 => ?_)
    · exact c_ff2 hk hi hn hin hc C hret 8 5 rfl hp
    · omega
  | succ r ih =>
    intro a har hp
    have hca := hc (i + a)
    unfold ffH at hp
    refine aw_ildn (n := 3) C dX4_firstFault_2 rfl rfl ?_
    refine aw_iconst (n := 4) C dX4_firstFault_3 rfl ?_
    refine aw_icge (tgt := 32) (n := 7) C dX4_firstFault_4 rfl rfl (by omega) (by omega) (fun h_4 => ?_) (fun h_4 => ?_)
    · omega
    · refine aw_ildn (n := 8) C dX4_firstFault_7 rfl rfl ?_
      refine aw_ildn (n := 9) C dX4_firstFault_8 rfl rfl ?_
      refine aw_icge (tgt := 24) (n := 12) C dX4_firstFault_9 rfl rfl (by omega) (by omega) (fun h_9 => ?_) (fun h_9 => ?_)
      · refine aw_ildn (n := 25) C dX4_firstFault_24 rfl rfl ?_
        refine hret 25 _ _ _ dX4_firstFault_25 (Or.inl rfl) ?_
        first | (rw [if_pos (Or.inl h_9)] at hp; exact hp) | (rw [if_pos (Or.inr ((bb rfl).1.mp h_21))] at hp; exact hp)
      · refine aw_ildn (n := 13) C dX4_firstFault_12 rfl rfl ?_
        refine aw_aldn (n := 14) C dX4_firstFault_13 rfl rfl ?_
        refine aw_ildn (n := 15) C dX4_firstFault_14 rfl rfl ?_
        refine aw_ildn (n := 16) C dX4_firstFault_15 rfl rfl ?_
        refine aw_iadd (n := 17) C dX4_firstFault_16 rfl ?_
        refine aw_iald (n := 18) C dX4_firstFault_17 rfl (sc hk) (by omega) (by omega) ?_
        refine aw_cSi (n := 21) (vs := [_, _]) C dX4_firstFault_18 rfl rfl rfl mm_X4_fitsHead wM_X4_9 (Nat.le_of_ble_eq_true rfl) (c_fitsHead hca (by omega)) (by decide) (fun z_18 S_18 q_18 => ?_)
        rw [q_18.1, q_18.2]
        clear q_18 S_18 z_18
        refine aw_ifne (tgt := 26) (n := 24) C dX4_firstFault_21 rfl rfl (by split <;> omega) (fun h_21 => ?_) (fun h_21 => ?_)
        · refine aw_iinc (n := 29) (L' := [_, _, _, _, _, _]) C dX4_firstFault_26 rfl rfl (by decide) rfl rfl ?_
          refine aw_goto (tgt := 2) C dX4_firstFault_29 rfl ?_
          have hb : ¬ (n ≤ (a : Int) ∨ fitH a (S (6 + k) (i + a)) = false) := by
            intro q
            rcases q with q | q
            · omega
            · exact h_21 ((bb rfl).1.mpr q)
          rw [if_neg hb] at hp
          exact ih (a + 1) (by omega) hp
        · refine aw_ildn (n := 25) C dX4_firstFault_24 rfl rfl ?_
          refine hret 25 _ _ _ dX4_firstFault_25 (Or.inl rfl) ?_
          first | (rw [if_pos (Or.inl h_9)] at hp; exact hp) | (rw [if_pos (Or.inr ((bb rfl).1.mp h_21))] at hp; exact hp)
theorem c_firstFault (hk : k < 4) (hi : 0 ≤ i) (hn : 0 ≤ n) (hin : i + n ≤ 60) (hc : ∀ j, rng (S (6 + k) j)) : AMi 2 yX4_firstFault cX4_firstFault 6 (some .int) [.inr (.inr (6 + k)), .inl i, .inl n] S (fun z S' => z = ff (fun j => S (6 + k) (i + j)) n ∧ S' = S) := by
  refine ami_intro (L := [_, _, _, none, none, none]) (by decide) (Or.inl rfl) rfl (Nat.le_of_ble_eq_true rfl) (fun X C hret => ?_)
  refine aw_iconst (n := 1) C dX4_firstFault_0 rfl ?_
  refine aw_istn (n := 2) (L' := [_, _, _, _, _, _]) C dX4_firstFault_1 rfl (by decide) rfl rfl ?_
  exact c_ff1 hk hi hn hin hc C hret 5 0 rfl ⟨rfl, rfl⟩
end FF
