/-! Train, second part -/
def sm (f : Nat → Int) : Nat → Int
  | 0 => 0
  | n + 1 => sm f n + f n
theorem sm_congr {f g : Nat → Int} : ∀ {n : Nat}, (∀ k, k < n → f k = g k) → sm f n = sm g n
  | 0, _ => rfl
  | n + 1, h => by show sm f n + f n = sm g n + g n; rw [sm_congr (fun k hk => h k (by omega)), h n (by omega)]
theorem sm_r {f : Nat → Int} {a : Int} : ∀ {n : Nat}, (∀ k, k < n → 0 ≤ f k ∧ f k ≤ a) → 0 ≤ sm f n ∧ sm f n ≤ n * a
  | 0, _ => by simp [sm]
  | n + 1, h => by
    have h1 := sm_r (n := n) (fun k hk => h k (by omega))
    have h2 := h n (by omega)
    show 0 ≤ sm f n + f n ∧ sm f n + f n ≤ _
    have : ((n + 1 : Nat) : Int) * a = n * a + a := by rw [Int.natCast_succ, Int.add_mul, Int.one_mul]
    omega
/-- rows that follow one another are the regrets -/
theorem rows_rg {kd fd bg tu tA tB : Fn} {row : Nat → Fn} {mi pe : Int} (h0 : ∀ p, 0 ≤ p → p < pe → row 0 p = bg p) (ht : ∀ m, 0 ≤ m → m < mi → tok pe (tA m) (tB m)) (hs : ∀ j : Nat, (j : Int) < mi → ∀ p, 0 ≤ p → p < pe → row (j + 1) p = stp kd fd (tu j) (tA j) (tB j) (row j) p) : ∀ m : Nat, (m : Int) ≤ mi → ∀ p, 0 ≤ p → p < pe → row m p = rg kd fd bg tu tA tB m p
  | 0, _, p, p0, p1 => h0 p p0 p1
  | m + 1, h, p, p0, p1 => by
    rw [hs m (by omega) p p0 p1]
    exact stp_congr (ht m (by omega) (by omega)) p0 p1 (fun _ _ _ => rfl) (fun _ _ _ => rfl) (rows_rg h0 ht hs m (by omega))
theorem c_rideFrom10_loop {X : AMX} {S : Mem} {f : Nat} {post : Mem → Prop} (T : TW 10 S) (C : CX X 3 RX5 cX5_rideFrom 3) (hret : ∀ (pc : Nat) (L : List (Option AV)) (S' : Mem), decode cX5_rideFrom pc = .ok (.return_, 1) → post S' → AW X cX5_rideFrom 3 pc L [] S') (hp : ∀ S', fr (20 + f) 28 S S' → (∀ j : Nat, f ≤ j → (j : Int) < S 10 8 → ∀ p, 0 ≤ p → p < S 10 9 → S' (20 + j) p = stp (S 15) (S 17) (S 12 j) (S 13 j) (S 14 j) (S' (19 + j)) p) → post S') : ∀ (n i : Nat) (S1 : Mem), (i : Int) + n = S 10 8 → f ≤ i → fr (20 + f) 28 S S1 → (∀ p, 0 ≤ p → p < S 10 9 → 0 ≤ S1 (19 + i) p ∧ S1 (19 + i) p ≤ 99) → (∀ j : Nat, f ≤ j → j < i → ∀ p, 0 ≤ p → p < S 10 9 → S1 (20 + j) p = stp (S 15) (S 17) (S 12 j) (S 13 j) (S 14 j) (S1 (19 + j)) p) → AW X cX5_rideFrom 3 2 [some (.inr (.inr 10)), some (.inl f), some (.inl i)] [] S1 := by
  obtain ⟨t1, t2, -, -, t5, t6⟩ := TW10 T
  intro n
  induction n with
  | zero =>
    intro i S1 hi hfi hf hr hv
    have e8 : S1 10 8 = S 10 8 := congrFun (hf 10 (by omega)) 8
    refine aw_ildn (n := 3) C dX5_rideFrom_2 rfl rfl ?_
    refine aw_aldn (n := 4) C dX5_rideFrom_3 rfl rfl ?_
    refine aw_getI (z := 8) (n := 7) C dX5_rideFrom_4 rfl fl_X5_39 rfl rfl rfl ?_
    refine aw_icge (tgt := 21) (n := 10) C dX5_rideFrom_7 rfl rfl (by omega) (by omega) (fun h_7 => ?_) (fun h_7 => ?_)
    · refine hret 21 _ _ dX5_rideFrom_21 ?_
      exact hp S1 hf (fun j h1 h2 => hv j h1 (by omega))
    · omega
  | succ n ih =>
    intro i S1 hi hfi hf hr hv
    have e0 : S1 10 = S 10 := hf 10 (by omega)
    have e8 : S1 10 8 = S 10 8 := congrFun e0 8
    have T1 : TW 10 S1 := TW10_fr T (fr_w hf (by omega) (by omega))
    refine aw_ildn (n := 3) C dX5_rideFrom_2 rfl rfl ?_
    refine aw_aldn (n := 4) C dX5_rideFrom_3 rfl rfl ?_
    refine aw_getI (z := 8) (n := 7) C dX5_rideFrom_4 rfl fl_X5_39 rfl rfl rfl ?_
    refine aw_icge (tgt := 21) (n := 10) C dX5_rideFrom_7 rfl rfl (by omega) (by omega) (fun h_7 => ?_) (fun h_7 => ?_)
    · omega
    · refine aw_aldn (n := 11) C dX5_rideFrom_10 rfl rfl ?_
      refine aw_ildn (n := 12) C dX5_rideFrom_11 rfl rfl ?_
      refine aw_cVv (n := 15) (vs := [_]) C dX5_rideFrom_12 rfl rfl rfl mm_X5_rideThrough wM_X5_74 rfl rfl (Nat.le_of_ble_eq_true rfl) (c_rideThrough10 T1 (by omega) (by rw [e0]; exact hr)) (by decide) (fun S_12 q_12 => ?_)
      obtain ⟨g1, g2⟩ := q_12
      rw [hf 15 (by omega), hf 17 (by omega), hf 12 (by omega), hf 13 (by omega), hf 14 (by omega), e0] at g2
      refine aw_iinc (n := 18) (L' := [_, _, _]) C dX5_rideFrom_15 rfl rfl (by decide) rfl rfl ?_
      refine aw_goto (tgt := 2) C dX5_rideFrom_18 rfl ?_
      refine ih (i + 1) _ (by omega) (by omega) (fr_tr hf (fr_w g1 (by omega) (by omega))) (fun p p0 p1 => ?_) (fun j j0 j1 p p0 p1 => ?_)
      · rw [show 19 + (i + 1) = 20 + i by omega, g2 p p0 p1]
        exact stp_r _ _ _ _ _ _ _
      · by_cases hji : j = i
        · subst hji
          rw [g2 p p0 p1, g1 (19 + j) (by omega)]
        · rw [g1 (20 + j) (by omega), g1 (19 + j) (by omega)]
          exact hv j j0 (by omega) p p0 p1
theorem c_rideFrom10 {S : Mem} {f : Nat} (T : TW 10 S) (hfm : (f : Int) ≤ S 10 8) (hr : ∀ p, 0 ≤ p → p < S 10 9 → 0 ≤ S (19 + f) p ∧ S (19 + f) p ≤ 99) : AMv 3 yX5_rideFrom cX5_rideFrom 3 [.inr (.inr 10), .inl (f : Int)] S (fun S' => fr (20 + f) 28 S S' ∧ ∀ j : Nat, f ≤ j → (j : Int) < S 10 8 → ∀ p, 0 ≤ p → p < S 10 9 → S' (20 + j) p = stp (S 15) (S 17) (S 12 j) (S 13 j) (S 14 j) (S' (19 + j)) p) := by
  refine amv_intro (L := [_, _, none]) (by decide) rfl (Nat.le_of_ble_eq_true rfl) (fun X C hret => ?_)
  refine aw_ildn (n := 1) C dX5_rideFrom_0 rfl rfl ?_
  refine aw_istn (n := 2) (L' := [_, _, _]) C dX5_rideFrom_1 rfl (by decide) rfl rfl ?_
  exact c_rideFrom10_loop T C hret (fun S' h1 h2 => ⟨h1, h2⟩) (S 10 8 - f).toNat f S (by omega) (Nat.le_refl f) (fr_rf _ _ _) hr (fun j h1 h2 => by omega)
theorem c_rideAll10 {S : Mem} (T : TW 10 S) : AMv 4 yX5_rideAll cX5_rideAll 1 [.inr (.inr 10)] S (fun S' => fr 19 28 S S' ∧ ∀ m : Nat, (m : Int) ≤ S 10 8 → ∀ p, 0 ≤ p → p < S 10 9 → S' (19 + m) p = rg (S 15) (S 17) (S 16) (S 12) (S 13) (S 14) m p) := by
  obtain ⟨t1, t2, -, -, t5, t6⟩ := TW10 T
  refine amv_intro (L := [_]) (by decide) rfl (Nat.le_of_ble_eq_true rfl) (fun X C hret => ?_)
  refine aw_aldn (n := 1) C dX5_rideAll_0 rfl rfl ?_
  refine aw_getR (n := 4) C dX5_rideAll_1 rfl fl_X5_28 rfl rfl ?_
  refine aw_iconst (n := 5) C dX5_rideAll_4 rfl ?_
  refine aw_aldn (n := 6) C dX5_rideAll_5 rfl rfl ?_
  refine aw_getR (n := 9) C dX5_rideAll_6 rfl fl_X5_36 rfl rfl ?_
  refine aw_iconst (n := 10) C dX5_rideAll_9 rfl ?_
  refine aw_aald (j := 0) (n := 11) C dX5_rideAll_10 rfl rfl (by decide) (by omega) (by omega) rfl ?_
  refine aw_iconst (n := 12) C dX5_rideAll_11 rfl ?_
  refine aw_aldn (n := 13) C dX5_rideAll_12 rfl rfl ?_
  refine aw_getI (z := 9) (n := 16) C dX5_rideAll_13 rfl fl_X5_43 rfl rfl rfl ?_
  refine aw_copy (n := 19) C dX5_rideAll_16 rfl wM_X5_64 wNat wS_arraycopyName wI_J10 (by decide) (Nat.le_of_ble_eq_true rfl) rfl rfl (by decide) (by decide) (by omega) (by omega) (by omega) (by omega) (by omega) ?_
  generalize hS1 : cp2 S 16 0 19 0 (S 10 9) = S1
  have f1 : fr 19 20 S S1 := fun c hc => by rw [← hS1]; exact funext fun i => if_neg (fun q => by omega)
  have v1 : ∀ p, 0 ≤ p → p < S 10 9 → S1 19 p = S 16 p := fun p p0 p1 => by rw [← hS1]; unfold cp2; rw [if_pos ⟨rfl, by omega, by omega⟩]; congr 1; omega
  have T1 : TW 10 S1 := TW10_fr T (fr_w f1 (by omega) (by omega))
  have e0 : S1 10 = S 10 := f1 10 (by omega)
  refine aw_aldn (n := 20) C dX5_rideAll_19 rfl rfl ?_
  refine aw_iconst (n := 21) C dX5_rideAll_20 rfl ?_
  refine aw_cVv (n := 24) (vs := [_]) C dX5_rideAll_21 rfl rfl rfl mm_X5_rideFrom wM_X5_70 rfl rfl (Nat.le_of_ble_eq_true rfl) (c_rideFrom10 (f := 0) T1 (by rw [e0]; omega) (fun p p0 p1 => by rw [e0] at p1; show 0 ≤ S1 19 p ∧ S1 19 p ≤ 99; rw [v1 p p0 p1]; have := t6 p p0 p1; omega)) (by decide) (fun S_21 q_21 => ?_)
  obtain ⟨g1, g2⟩ := q_21
  rw [f1 15 (by omega), f1 17 (by omega), f1 12 (by omega), f1 13 (by omega), f1 14 (by omega), e0] at g2
  refine hret 24 _ _ dX5_rideAll_24 ?_
  refine ⟨fr_tr (fr_w f1 (by omega) (by omega)) (fr_w g1 (by omega) (by omega)), ?_⟩
  refine rows_rg (row := fun m => S_21 (19 + m)) (fun p p0 p1 => ?_) (fun m m0 m1 => (t5 m m0 m1).2) (fun j hj p p0 p1 => ?_)
  · show S_21 19 p = _
    rw [g1 19 (by omega)]
    exact v1 p p0 p1
  · show S_21 (19 + (j + 1)) p = _
    rw [show 19 + (j + 1) = 20 + j by omega]
    exact g2 j (by omega) hj p p0 p1
theorem c_dueTogether10_loop {X : AMX} {S : Mem} {p : Int} {post : Int → Mem → Prop} (h8 : 0 ≤ S 10 8 ∧ S 10 8 ≤ 8) (p0 : 0 ≤ p) (p1 : p < 4) (hl1 : rng (S 10 10)) (hl2 : rng (S 10 11)) (hr : ∀ m : Nat, (m : Int) < S 10 8 → rng (S (19 + m) p)) (C : CX X 1 RX5 cX5_dueTogether 4) (hret : ∀ (pc : Nat) (L : List (Option AV)) (z : Int) (S' : Mem), decode cX5_dueTogether pc = .ok (.ireturn, 1) → ((some FieldType.int) = some .int ∨ ((some FieldType.int) = some .boolean ∧ (z = 0 ∨ z = 1))) → post z S' → AW X cX5_dueTogether 4 pc L [.inl z] S') (hp : post (sm (fun m => due (S 10 10) (S 10 11) (S (19 + m) p)) (S 10 8).toNat) S) : ∀ (n i : Nat), (i : Int) + n = S 10 8 → AW X cX5_dueTogether 4 4 [some (.inr (.inr 10)), some (.inl p), some (.inl (sm (fun m => due (S 10 10) (S 10 11) (S (19 + m) p)) i)), some (.inl i)] [] S := by
  intro n
  induction n with
  | zero =>
    intro i hi
    refine aw_ildn (n := 5) C dX5_dueTogether_4 rfl rfl ?_
    refine aw_aldn (n := 6) C dX5_dueTogether_5 rfl rfl ?_
    refine aw_getI (z := 8) (n := 9) C dX5_dueTogether_6 rfl fl_X5_39 rfl rfl rfl ?_
    refine aw_icge (tgt := 27) (n := 12) C dX5_dueTogether_9 rfl rfl (by omega) (by omega) (fun h_9 => ?_) (fun h_9 => ?_)
    · refine aw_ildn (n := 28) C dX5_dueTogether_27 rfl rfl ?_
      refine hret 28 _ _ _ dX5_dueTogether_28 (Or.inl rfl) ?_
      rw [show (S 10 8).toNat = i by omega] at hp
      exact hp
    · omega
  | succ n ih =>
    intro i hi
    refine aw_ildn (n := 5) C dX5_dueTogether_4 rfl rfl ?_
    refine aw_aldn (n := 6) C dX5_dueTogether_5 rfl rfl ?_
    refine aw_getI (z := 8) (n := 9) C dX5_dueTogether_6 rfl fl_X5_39 rfl rfl rfl ?_
    refine aw_icge (tgt := 27) (n := 12) C dX5_dueTogether_9 rfl rfl (by omega) (by omega) (fun h_9 => ?_) (fun h_9 => ?_)
    · omega
    · refine aw_ildn (n := 13) C dX5_dueTogether_12 rfl rfl ?_
      refine aw_aldn (n := 14) C dX5_dueTogether_13 rfl rfl ?_
      refine aw_ildn (n := 15) C dX5_dueTogether_14 rfl rfl ?_
      refine aw_ildn (n := 16) C dX5_dueTogether_15 rfl rfl ?_
      refine aw_cVi (n := 19) (vs := [_, _]) C dX5_dueTogether_16 rfl rfl rfl mm_X5_classDue wM_X5_89 rfl rfl (Nat.le_of_ble_eq_true rfl) (c_classDue10 (m := i) (by omega) p0 p1 (hr i (by omega)) hl1 hl2) (by decide) (fun z_16 S_16 q_16 => ?_)
      rw [q_16.1, q_16.2]
      clear q_16 S_16 z_16
      refine aw_iadd (n := 20) C dX5_dueTogether_19 rfl ?_
      refine aw_istn (n := 21) (L' := [_, _, _, _]) C dX5_dueTogether_20 rfl (by decide) rfl rfl ?_
      refine aw_iinc (n := 24) (L' := [_, _, _, _]) C dX5_dueTogether_21 rfl rfl (by decide) rfl rfl ?_
      refine aw_goto (tgt := 4) C dX5_dueTogether_24 rfl ?_
      exact ih (i + 1) (by omega)
theorem c_dueTogether10 {S : Mem} {p : Int} (h8 : 0 ≤ S 10 8 ∧ S 10 8 ≤ 8) (p0 : 0 ≤ p) (p1 : p < 4) (hl1 : rng (S 10 10)) (hl2 : rng (S 10 11)) (hr : ∀ m : Nat, (m : Int) < S 10 8 → rng (S (19 + m) p)) : AMi 1 yX5_dueTogether cX5_dueTogether 4 (some .int) [.inr (.inr 10), .inl p] S (fun z S' => z = sm (fun m => due (S 10 10) (S 10 11) (S (19 + m) p)) (S 10 8).toNat ∧ S' = S) := by
  refine ami_intro (L := [_, _, none, none]) (by decide) (Or.inl rfl) rfl (Nat.le_of_ble_eq_true rfl) (fun X C hret => ?_)
  refine aw_iconst (n := 1) C dX5_dueTogether_0 rfl ?_
  refine aw_istn (n := 2) (L' := [_, _, _, _]) C dX5_dueTogether_1 rfl (by decide) rfl rfl ?_
  refine aw_iconst (n := 3) C dX5_dueTogether_2 rfl ?_
  refine aw_istn (n := 4) (L' := [_, _, _, _]) C dX5_dueTogether_3 rfl (by decide) rfl rfl ?_
  exact c_dueTogether10_loop h8 p0 p1 hl1 hl2 hr C hret ⟨rfl, rfl⟩ (S 10 8).toNat 0 (by omega)
theorem c_rideFrom28_loop {X : AMX} {S : Mem} {f : Nat} {post : Mem → Prop} (T : TW 28 S) (C : CX X 3 RX5 cX5_rideFrom 3) (hret : ∀ (pc : Nat) (L : List (Option AV)) (S' : Mem), decode cX5_rideFrom pc = .ok (.return_, 1) → post S' → AW X cX5_rideFrom 3 pc L [] S') (hp : ∀ S', fr (38 + f) 46 S S' → (∀ j : Nat, f ≤ j → (j : Int) < S 28 8 → ∀ p, 0 ≤ p → p < S 28 9 → S' (38 + j) p = stp (S 33) (S 35) (S 30 j) (S 31 j) (S 32 j) (S' (37 + j)) p) → post S') : ∀ (n i : Nat) (S1 : Mem), (i : Int) + n = S 28 8 → f ≤ i → fr (38 + f) 46 S S1 → (∀ p, 0 ≤ p → p < S 28 9 → 0 ≤ S1 (37 + i) p ∧ S1 (37 + i) p ≤ 99) → (∀ j : Nat, f ≤ j → j < i → ∀ p, 0 ≤ p → p < S 28 9 → S1 (38 + j) p = stp (S 33) (S 35) (S 30 j) (S 31 j) (S 32 j) (S1 (37 + j)) p) → AW X cX5_rideFrom 3 2 [some (.inr (.inr 28)), some (.inl f), some (.inl i)] [] S1 := by
  obtain ⟨t1, t2, -, -, t5, t6⟩ := TW28 T
  intro n
  induction n with
  | zero =>
    intro i S1 hi hfi hf hr hv
    have e8 : S1 28 8 = S 28 8 := congrFun (hf 28 (by omega)) 8
    refine aw_ildn (n := 3) C dX5_rideFrom_2 rfl rfl ?_
    refine aw_aldn (n := 4) C dX5_rideFrom_3 rfl rfl ?_
    refine aw_getI (z := 8) (n := 7) C dX5_rideFrom_4 rfl fl_X5_39 rfl rfl rfl ?_
    refine aw_icge (tgt := 21) (n := 10) C dX5_rideFrom_7 rfl rfl (by omega) (by omega) (fun h_7 => ?_) (fun h_7 => ?_)
    · refine hret 21 _ _ dX5_rideFrom_21 ?_
      exact hp S1 hf (fun j h1 h2 => hv j h1 (by omega))
    · omega
  | succ n ih =>
    intro i S1 hi hfi hf hr hv
    have e0 : S1 28 = S 28 := hf 28 (by omega)
    have e8 : S1 28 8 = S 28 8 := congrFun e0 8
    have T1 : TW 28 S1 := TW28_fr T (fr_w hf (by omega) (by omega))
    refine aw_ildn (n := 3) C dX5_rideFrom_2 rfl rfl ?_
    refine aw_aldn (n := 4) C dX5_rideFrom_3 rfl rfl ?_
    refine aw_getI (z := 8) (n := 7) C dX5_rideFrom_4 rfl fl_X5_39 rfl rfl rfl ?_
    refine aw_icge (tgt := 21) (n := 10) C dX5_rideFrom_7 rfl rfl (by omega) (by omega) (fun h_7 => ?_) (fun h_7 => ?_)
    · omega
    · refine aw_aldn (n := 11) C dX5_rideFrom_10 rfl rfl ?_
      refine aw_ildn (n := 12) C dX5_rideFrom_11 rfl rfl ?_
      refine aw_cVv (n := 15) (vs := [_]) C dX5_rideFrom_12 rfl rfl rfl mm_X5_rideThrough wM_X5_74 rfl rfl (Nat.le_of_ble_eq_true rfl) (c_rideThrough28 T1 (by omega) (by rw [e0]; exact hr)) (by decide) (fun S_12 q_12 => ?_)
      obtain ⟨g1, g2⟩ := q_12
      rw [hf 33 (by omega), hf 35 (by omega), hf 30 (by omega), hf 31 (by omega), hf 32 (by omega), e0] at g2
      refine aw_iinc (n := 18) (L' := [_, _, _]) C dX5_rideFrom_15 rfl rfl (by decide) rfl rfl ?_
      refine aw_goto (tgt := 2) C dX5_rideFrom_18 rfl ?_
      refine ih (i + 1) _ (by omega) (by omega) (fr_tr hf (fr_w g1 (by omega) (by omega))) (fun p p0 p1 => ?_) (fun j j0 j1 p p0 p1 => ?_)
      · rw [show 37 + (i + 1) = 38 + i by omega, g2 p p0 p1]
        exact stp_r _ _ _ _ _ _ _
      · by_cases hji : j = i
        · subst hji
          rw [g2 p p0 p1, g1 (37 + j) (by omega)]
        · rw [g1 (38 + j) (by omega), g1 (37 + j) (by omega)]
          exact hv j j0 (by omega) p p0 p1
theorem c_rideFrom28 {S : Mem} {f : Nat} (T : TW 28 S) (hfm : (f : Int) ≤ S 28 8) (hr : ∀ p, 0 ≤ p → p < S 28 9 → 0 ≤ S (37 + f) p ∧ S (37 + f) p ≤ 99) : AMv 3 yX5_rideFrom cX5_rideFrom 3 [.inr (.inr 28), .inl (f : Int)] S (fun S' => fr (38 + f) 46 S S' ∧ ∀ j : Nat, f ≤ j → (j : Int) < S 28 8 → ∀ p, 0 ≤ p → p < S 28 9 → S' (38 + j) p = stp (S 33) (S 35) (S 30 j) (S 31 j) (S 32 j) (S' (37 + j)) p) := by
  refine amv_intro (L := [_, _, none]) (by decide) rfl (Nat.le_of_ble_eq_true rfl) (fun X C hret => ?_)
  refine aw_ildn (n := 1) C dX5_rideFrom_0 rfl rfl ?_
  refine aw_istn (n := 2) (L' := [_, _, _]) C dX5_rideFrom_1 rfl (by decide) rfl rfl ?_
  exact c_rideFrom28_loop T C hret (fun S' h1 h2 => ⟨h1, h2⟩) (S 28 8 - f).toNat f S (by omega) (Nat.le_refl f) (fr_rf _ _ _) hr (fun j h1 h2 => by omega)
theorem c_rideAll28 {S : Mem} (T : TW 28 S) : AMv 4 yX5_rideAll cX5_rideAll 1 [.inr (.inr 28)] S (fun S' => fr 37 46 S S' ∧ ∀ m : Nat, (m : Int) ≤ S 28 8 → ∀ p, 0 ≤ p → p < S 28 9 → S' (37 + m) p = rg (S 33) (S 35) (S 34) (S 30) (S 31) (S 32) m p) := by
  obtain ⟨t1, t2, -, -, t5, t6⟩ := TW28 T
  refine amv_intro (L := [_]) (by decide) rfl (Nat.le_of_ble_eq_true rfl) (fun X C hret => ?_)
  refine aw_aldn (n := 1) C dX5_rideAll_0 rfl rfl ?_
  refine aw_getR (n := 4) C dX5_rideAll_1 rfl fl_X5_28 rfl rfl ?_
  refine aw_iconst (n := 5) C dX5_rideAll_4 rfl ?_
  refine aw_aldn (n := 6) C dX5_rideAll_5 rfl rfl ?_
  refine aw_getR (n := 9) C dX5_rideAll_6 rfl fl_X5_36 rfl rfl ?_
  refine aw_iconst (n := 10) C dX5_rideAll_9 rfl ?_
  refine aw_aald (j := 0) (n := 11) C dX5_rideAll_10 rfl rfl (by decide) (by omega) (by omega) rfl ?_
  refine aw_iconst (n := 12) C dX5_rideAll_11 rfl ?_
  refine aw_aldn (n := 13) C dX5_rideAll_12 rfl rfl ?_
  refine aw_getI (z := 9) (n := 16) C dX5_rideAll_13 rfl fl_X5_43 rfl rfl rfl ?_
  refine aw_copy (n := 19) C dX5_rideAll_16 rfl wM_X5_64 wNat wS_arraycopyName wI_J10 (by decide) (Nat.le_of_ble_eq_true rfl) rfl rfl (by decide) (by decide) (by omega) (by omega) (by omega) (by omega) (by omega) ?_
  generalize hS1 : cp2 S 34 0 37 0 (S 28 9) = S1
  have f1 : fr 37 38 S S1 := fun c hc => by rw [← hS1]; exact funext fun i => if_neg (fun q => by omega)
  have v1 : ∀ p, 0 ≤ p → p < S 28 9 → S1 37 p = S 34 p := fun p p0 p1 => by rw [← hS1]; unfold cp2; rw [if_pos ⟨rfl, by omega, by omega⟩]; congr 1; omega
  have T1 : TW 28 S1 := TW28_fr T (fr_w f1 (by omega) (by omega))
  have e0 : S1 28 = S 28 := f1 28 (by omega)
  refine aw_aldn (n := 20) C dX5_rideAll_19 rfl rfl ?_
  refine aw_iconst (n := 21) C dX5_rideAll_20 rfl ?_
  refine aw_cVv (n := 24) (vs := [_]) C dX5_rideAll_21 rfl rfl rfl mm_X5_rideFrom wM_X5_70 rfl rfl (Nat.le_of_ble_eq_true rfl) (c_rideFrom28 (f := 0) T1 (by rw [e0]; omega) (fun p p0 p1 => by rw [e0] at p1; show 0 ≤ S1 37 p ∧ S1 37 p ≤ 99; rw [v1 p p0 p1]; have := t6 p p0 p1; omega)) (by decide) (fun S_21 q_21 => ?_)
  obtain ⟨g1, g2⟩ := q_21
  rw [f1 33 (by omega), f1 35 (by omega), f1 30 (by omega), f1 31 (by omega), f1 32 (by omega), e0] at g2
  refine hret 24 _ _ dX5_rideAll_24 ?_
  refine ⟨fr_tr (fr_w f1 (by omega) (by omega)) (fr_w g1 (by omega) (by omega)), ?_⟩
  refine rows_rg (row := fun m => S_21 (37 + m)) (fun p p0 p1 => ?_) (fun m m0 m1 => (t5 m m0 m1).2) (fun j hj p p0 p1 => ?_)
  · show S_21 37 p = _
    rw [g1 37 (by omega)]
    exact v1 p p0 p1
  · show S_21 (37 + (j + 1)) p = _
    rw [show 37 + (j + 1) = 38 + j by omega]
    exact g2 j (by omega) hj p p0 p1
theorem c_dueTogether28_loop {X : AMX} {S : Mem} {p : Int} {post : Int → Mem → Prop} (h8 : 0 ≤ S 28 8 ∧ S 28 8 ≤ 8) (p0 : 0 ≤ p) (p1 : p < 4) (hl1 : rng (S 28 10)) (hl2 : rng (S 28 11)) (hr : ∀ m : Nat, (m : Int) < S 28 8 → rng (S (37 + m) p)) (C : CX X 1 RX5 cX5_dueTogether 4) (hret : ∀ (pc : Nat) (L : List (Option AV)) (z : Int) (S' : Mem), decode cX5_dueTogether pc = .ok (.ireturn, 1) → ((some FieldType.int) = some .int ∨ ((some FieldType.int) = some .boolean ∧ (z = 0 ∨ z = 1))) → post z S' → AW X cX5_dueTogether 4 pc L [.inl z] S') (hp : post (sm (fun m => due (S 28 10) (S 28 11) (S (37 + m) p)) (S 28 8).toNat) S) : ∀ (n i : Nat), (i : Int) + n = S 28 8 → AW X cX5_dueTogether 4 4 [some (.inr (.inr 28)), some (.inl p), some (.inl (sm (fun m => due (S 28 10) (S 28 11) (S (37 + m) p)) i)), some (.inl i)] [] S := by
  intro n
  induction n with
  | zero =>
    intro i hi
    refine aw_ildn (n := 5) C dX5_dueTogether_4 rfl rfl ?_
    refine aw_aldn (n := 6) C dX5_dueTogether_5 rfl rfl ?_
    refine aw_getI (z := 8) (n := 9) C dX5_dueTogether_6 rfl fl_X5_39 rfl rfl rfl ?_
    refine aw_icge (tgt := 27) (n := 12) C dX5_dueTogether_9 rfl rfl (by omega) (by omega) (fun h_9 => ?_) (fun h_9 => ?_)
    · refine aw_ildn (n := 28) C dX5_dueTogether_27 rfl rfl ?_
      refine hret 28 _ _ _ dX5_dueTogether_28 (Or.inl rfl) ?_
      rw [show (S 28 8).toNat = i by omega] at hp
      exact hp
    · omega
  | succ n ih =>
    intro i hi
    refine aw_ildn (n := 5) C dX5_dueTogether_4 rfl rfl ?_
    refine aw_aldn (n := 6) C dX5_dueTogether_5 rfl rfl ?_
    refine aw_getI (z := 8) (n := 9) C dX5_dueTogether_6 rfl fl_X5_39 rfl rfl rfl ?_
    refine aw_icge (tgt := 27) (n := 12) C dX5_dueTogether_9 rfl rfl (by omega) (by omega) (fun h_9 => ?_) (fun h_9 => ?_)
    · omega
    · refine aw_ildn (n := 13) C dX5_dueTogether_12 rfl rfl ?_
      refine aw_aldn (n := 14) C dX5_dueTogether_13 rfl rfl ?_
      refine aw_ildn (n := 15) C dX5_dueTogether_14 rfl rfl ?_
      refine aw_ildn (n := 16) C dX5_dueTogether_15 rfl rfl ?_
      refine aw_cVi (n := 19) (vs := [_, _]) C dX5_dueTogether_16 rfl rfl rfl mm_X5_classDue wM_X5_89 rfl rfl (Nat.le_of_ble_eq_true rfl) (c_classDue28 (m := i) (by omega) p0 p1 (hr i (by omega)) hl1 hl2) (by decide) (fun z_16 S_16 q_16 => ?_)
      rw [q_16.1, q_16.2]
      clear q_16 S_16 z_16
      refine aw_iadd (n := 20) C dX5_dueTogether_19 rfl ?_
      refine aw_istn (n := 21) (L' := [_, _, _, _]) C dX5_dueTogether_20 rfl (by decide) rfl rfl ?_
      refine aw_iinc (n := 24) (L' := [_, _, _, _]) C dX5_dueTogether_21 rfl rfl (by decide) rfl rfl ?_
      refine aw_goto (tgt := 4) C dX5_dueTogether_24 rfl ?_
      exact ih (i + 1) (by omega)
theorem c_dueTogether28 {S : Mem} {p : Int} (h8 : 0 ≤ S 28 8 ∧ S 28 8 ≤ 8) (p0 : 0 ≤ p) (p1 : p < 4) (hl1 : rng (S 28 10)) (hl2 : rng (S 28 11)) (hr : ∀ m : Nat, (m : Int) < S 28 8 → rng (S (37 + m) p)) : AMi 1 yX5_dueTogether cX5_dueTogether 4 (some .int) [.inr (.inr 28), .inl p] S (fun z S' => z = sm (fun m => due (S 28 10) (S 28 11) (S (37 + m) p)) (S 28 8).toNat ∧ S' = S) := by
  refine ami_intro (L := [_, _, none, none]) (by decide) (Or.inl rfl) rfl (Nat.le_of_ble_eq_true rfl) (fun X C hret => ?_)
  refine aw_iconst (n := 1) C dX5_dueTogether_0 rfl ?_
  refine aw_istn (n := 2) (L' := [_, _, _, _]) C dX5_dueTogether_1 rfl (by decide) rfl rfl ?_
  refine aw_iconst (n := 3) C dX5_dueTogether_2 rfl ?_
  refine aw_istn (n := 4) (L' := [_, _, _, _]) C dX5_dueTogether_3 rfl (by decide) rfl rfl ?_
  exact c_dueTogether28_loop h8 p0 p1 hl1 hl2 hr C hret ⟨rfl, rfl⟩ (S 28 8).toNat 0 (by omega)
