/-! Sheets, and rows that are filled -/
theorem ami_mono {d : Nat} {y : MethodName} {cc : ByteArray} {nL : Nat} {ret : Option FieldType} {vs : List AV} {S : Mem} {post post' : Int → Mem → Prop} (hM : AMi d y cc nL ret vs S post) (h : ∀ z S', post z S' → post' z S') : AMi d y cc nL ret vs S post' := by
  intro l dC dI dA ad sz
  exact MetFree.mono (hM l dC dI dA ad sz) (fun _ _ q => q) (fun _ _ _ _ _ q => q) (fun a st o t _ q => ⟨⟨by obtain ⟨r, u, h1, ⟨h2, h3⟩, h4⟩ := q.1.1; exact ⟨r, u, h1, ⟨h2, h _ _ h3⟩, h4⟩, q.1.2⟩, q.2⟩)
theorem aml_mono {d : Nat} {y : MethodName} {cc : ByteArray} {nL : Nat} {ret : Option FieldType} {vs : List AV} {S : Mem} {post post' : Int → Mem → Prop} (hM : AMl d y cc nL ret vs S post) (h : ∀ z S', post z S' → post' z S') : AMl d y cc nL ret vs S post' := by
  intro l dC dI dA ad sz
  exact MetFree.mono (hM l dC dI dA ad sz) (fun _ _ q => q) (fun _ _ _ _ _ q => q) (fun a st o t _ q => ⟨⟨by obtain ⟨r, u, h1, ⟨h2, h3⟩, h4⟩ := q.1.1; exact ⟨r, u, h1, ⟨h2, h _ _ h3⟩, h4⟩, q.1.2⟩, q.2⟩)
theorem amv_mono {d : Nat} {y : MethodName} {cc : ByteArray} {nL : Nat} {vs : List AV} {S : Mem} {post post' : Mem → Prop} (hM : AMv d y cc nL vs S post) (h : ∀ S', post S' → post' S') : AMv d y cc nL vs S post' := by
  intro l dC dI dA ad sz
  exact MetFree.mono (hM l dC dI dA ad sz) (fun _ _ q => q) (fun _ _ _ _ _ q => q) (fun a st o t _ q => ⟨⟨by obtain ⟨u, h1, h3, h4⟩ := q.1.1; exact ⟨u, h1, h _ h3, h4⟩, q.1.2⟩, q.2⟩)
theorem k4 {k : Nat} (h : k < 4) : k = 0 ∨ k = 1 ∨ k = 2 ∨ k = 3 := by omega
theorem ss {k : Nat} (h : k < 4) : shk (2 + k) = .inl 3 := by rcases k4 h with rfl | rfl | rfl | rfl <;> rfl
theorem ss0 {k : Nat} (h : k < 4) : shf (2 + k) 0 = some (6 + k) := by rcases k4 h with rfl | rfl | rfl | rfl <;> rfl
theorem ss1 {k : Nat} (h : k < 4) : shf (2 + k) 1 = none := by rcases k4 h with rfl | rfl | rfl | rfl <;> rfl
theorem ss2 {k : Nat} (h : k < 4) : shf (2 + k) 2 = none := by rcases k4 h with rfl | rfl | rfl | rfl <;> rfl
theorem sc {k : Nat} (h : k < 4) : shk (6 + k) = .inr (0, 60) := by rcases k4 h with rfl | rfl | rfl | rfl <;> rfl
theorem se {k : Nat} (h : k < 4) : shf 1 k = some (2 + k) := by rcases k4 h with rfl | rfl | rfl | rfl <;> rfl
/-- a row gets one number all along -/
def fl2 (S : Mem) (c : Nat) (n v : Int) : Mem := fun c' i' => if c' = c ∧ 0 ≤ i' ∧ i' < n then v else S c' i'
theorem fl2_0 (S : Mem) (c : Nat) (v : Int) : fl2 S c 0 v = S := by
  funext c' i'
  unfold fl2
  rw [if_neg (by omega)]
theorem fl2_s (S : Mem) (c : Nat) (n v : Int) (hn : 0 ≤ n) : st2 (fl2 S c n v) c n v = fl2 S c (n + 1) v := by
  funext c' i'
  unfold fl2 st2
  by_cases h : c' = c ∧ i' = n
  · rw [if_pos h, if_pos (by omega)]
  · rw [if_neg h]
    show (if _ then _ else _) = (if _ then _ else _)
    by_cases h2 : c' = c ∧ 0 ≤ i' ∧ i' < n
    · rw [if_pos h2, if_pos (by omega)]
    · rw [if_neg h2, if_neg (by omega)]
theorem c_fill_loop {X : AMX} {c n : Nat} {v : Int} {S : Mem} {post : Mem → Prop} (hs : shk c = .inr (0, n)) (C : CX X 0 RJ7 cJ7_fill_53178 4) (hret : ∀ (pc : Nat) (L : List (Option AV)) (S' : Mem), decode cJ7_fill_53178 pc = .ok (.return_, 1) → post S' → AW X cJ7_fill_53178 4 pc L [] S') (hp : post (fl2 S c n v)) : ∀ (j i : Nat), i + j = n → AW X cJ7_fill_53178 4 5 [some (.inr (.inr c)), some (.inl v), some (.inl i), some (.inl n)] [] (fl2 S c i v) := by
  have hn := am_len hs
  intro j
  induction j with
  | zero =>
    intro i hi
    refine aw_ildn (n := 6) C dJ7_fill_53178_5 rfl rfl ?_
    refine aw_ildn (n := 7) C dJ7_fill_53178_6 rfl rfl ?_
    refine aw_icge (tgt := 20) (n := 10) C dJ7_fill_53178_7 rfl rfl (by omega) (by omega) (fun h_7 => ?_) (fun h_7 => ?_)
    · refine hret 20 _ _ dJ7_fill_53178_20 ?_
      obtain rfl : i = n := by omega
      exact hp
    · omega
  | succ j ih =>
    intro i hi
    refine aw_ildn (n := 6) C dJ7_fill_53178_5 rfl rfl ?_
    refine aw_ildn (n := 7) C dJ7_fill_53178_6 rfl rfl ?_
    refine aw_icge (tgt := 20) (n := 10) C dJ7_fill_53178_7 rfl rfl (by omega) (by omega) (fun h_7 => ?_) (fun h_7 => ?_)
    · omega
    · refine aw_aldn (n := 11) C dJ7_fill_53178_10 rfl rfl ?_
      refine aw_ildn (n := 12) C dJ7_fill_53178_11 rfl rfl ?_
      refine aw_ildn (n := 13) C dJ7_fill_53178_12 rfl rfl ?_
      refine aw_iast (n := 14) C dJ7_fill_53178_13 rfl hs (by omega) (by omega) ?_
      refine aw_iinc (n := 17) (L' := [_, _, _, _]) C dJ7_fill_53178_14 rfl rfl (by decide) rfl rfl ?_
      refine aw_goto (tgt := 5) C dJ7_fill_53178_17 rfl ?_
      rw [fl2_s _ _ _ _ (by omega)]
      exact ih (i + 1) (by omega)
theorem c_fill {c n : Nat} {v : Int} {S : Mem} (hs : shk c = .inr (0, n)) (hn : 0 < n) : AMv 0 yJ7_fill_53178 cJ7_fill_53178 4 [.inr (.inr c), .inl v] S (fun S' => S' = fl2 S c n v) := by
  refine amv_intro (L := [_, _, none, none]) (by decide) rfl (Nat.le_of_ble_eq_true rfl) (fun X C hret => ?_)
  refine aw_iconst (n := 1) C dJ7_fill_53178_0 rfl ?_
  refine aw_istn (n := 2) (L' := [_, _, _, _]) C dJ7_fill_53178_1 rfl (by decide) rfl rfl ?_
  refine aw_aldn (n := 3) C dJ7_fill_53178_2 rfl rfl ?_
  refine aw_alen (n := 4) C dJ7_fill_53178_3 rfl hs hn (by decide) rfl ?_
  refine aw_istn (n := 5) (L' := [_, _, _, _]) C dJ7_fill_53178_4 rfl (by decide) rfl rfl ?_
  have := c_fill_loop (S := S) (v := v) hs C hret rfl n 0 (by omega)
  rw [show ((0 : Nat) : Int) = 0 from rfl, fl2_0] at this
  exact this
theorem c_hasNothing {k : Nat} {S : Mem} (hk : k < 4) (h1 : rng (S (2 + k) 1)) : AMi 0 yX3_hasNothing cX3_hasNothing 1 (some .boolean) [.inr (.inr (2 + k))] S (fun z S' => z = (if S (2 + k) 1 = -1 then 1 else 0) ∧ S' = S) := by
  refine ami_intro (L := [_]) (by decide) (Or.inr rfl) rfl (Nat.le_of_ble_eq_true rfl) (fun X C hret => ?_)
  refine aw_aldn (n := 1) C dX3_hasNothing_0 rfl rfl ?_
  refine aw_getI (z := 1) (n := 4) C dX3_hasNothing_1 rfl fl_X3_15 (ss hk) (ss1 hk) rfl ?_
  refine aw_iconst (n := 5) C dX3_hasNothing_4 rfl ?_
  refine aw_icne (tgt := 12) (n := 8) C dX3_hasNothing_5 rfl rfl (by omega) (by omega) (fun h_5 => ?_) (fun h_5 => ?_)
  · refine aw_iconst (n := 13) C dX3_hasNothing_12 rfl ?_
    refine hret 13 _ _ _ dX3_hasNothing_13 (Or.inr ⟨rfl, by omega⟩) ?_
    exact ⟨by omega, rfl⟩
  · refine aw_iconst (n := 9) C dX3_hasNothing_8 rfl ?_
    refine aw_goto (tgt := 13) C dX3_hasNothing_9 rfl ?_
    refine hret 13 _ _ _ dX3_hasNothing_13 (Or.inr ⟨rfl, by omega⟩) ?_
    exact ⟨by omega, rfl⟩
theorem c_noCell {k : Nat} {S : Mem} {i : Int} (hk : k < 4) (hi : rng i) (h1 : rng (S (2 + k) 2)) : AMi 0 yX3_noCell cX3_noCell 2 (some .boolean) [.inr (.inr (2 + k)), .inl i] S (fun z S' => z = (if i < 0 ∨ S (2 + k) 2 ≤ i then 1 else 0) ∧ S' = S) := by
  refine ami_intro (L := [_, _]) (by decide) (Or.inr rfl) rfl (Nat.le_of_ble_eq_true rfl) (fun X C hret => ?_)
  refine aw_ildn (n := 1) C dX3_noCell_0 rfl rfl ?_
  refine aw_iflt (tgt := 12) (n := 4) C dX3_noCell_1 rfl rfl (by omega) (fun h_1 => ?_) (fun h_1 => ?_)
  · refine aw_iconst (n := 13) C dX3_noCell_12 rfl ?_
    refine aw_goto (tgt := 17) C dX3_noCell_13 rfl ?_
    refine hret 17 _ _ _ dX3_noCell_17 (Or.inr ⟨rfl, by omega⟩) ?_
    exact ⟨by omega, rfl⟩
  · refine aw_ildn (n := 5) C dX3_noCell_4 rfl rfl ?_
    refine aw_aldn (n := 6) C dX3_noCell_5 rfl rfl ?_
    refine aw_getI (z := 2) (n := 9) C dX3_noCell_6 rfl fl_X3_19 (ss hk) (ss2 hk) rfl ?_
    refine aw_iclt (tgt := 16) (n := 12) C dX3_noCell_9 rfl rfl (by omega) (by omega) (fun h_9 => ?_) (fun h_9 => ?_)
    · refine aw_iconst (n := 17) C dX3_noCell_16 rfl ?_
      refine hret 17 _ _ _ dX3_noCell_17 (Or.inr ⟨rfl, by omega⟩) ?_
      exact ⟨by omega, rfl⟩
    · refine aw_iconst (n := 13) C dX3_noCell_12 rfl ?_
      refine aw_goto (tgt := 17) C dX3_noCell_13 rfl ?_
      refine hret 17 _ _ _ dX3_noCell_17 (Or.inr ⟨rfl, by omega⟩) ?_
      exact ⟨by omega, rfl⟩
theorem c_lacksCells {k : Nat} {S : Mem} {i n : Int} (hk : k < 4) (hi : rng i) (hn : rng n) (h1 : 0 ≤ S (2 + k) 2 ∧ S (2 + k) 2 ≤ 60) : AMi 0 yX3_lacksCells cX3_lacksCells 3 (some .boolean) [.inr (.inr (2 + k)), .inl i, .inl n] S (fun z S' => z = (if i < 0 ∨ S (2 + k) 2 < i ∨ S (2 + k) 2 - i < n then 1 else 0) ∧ S' = S) := by
  refine ami_intro (L := [_, _, _]) (by decide) (Or.inr rfl) rfl (Nat.le_of_ble_eq_true rfl) (fun X C hret => ?_)
  refine aw_ildn (n := 1) C dX3_lacksCells_0 rfl rfl ?_
  refine aw_iflt (tgt := 22) (n := 4) C dX3_lacksCells_1 rfl rfl (by omega) (fun h_1 => ?_) (fun h_1 => ?_)
  · refine aw_iconst (n := 23) C dX3_lacksCells_22 rfl ?_
    refine aw_goto (tgt := 27) C dX3_lacksCells_23 rfl ?_
    refine hret 27 _ _ _ dX3_lacksCells_27 (Or.inr ⟨rfl, by omega⟩) ?_
    exact ⟨by omega, rfl⟩
  · refine aw_ildn (n := 5) C dX3_lacksCells_4 rfl rfl ?_
    refine aw_aldn (n := 6) C dX3_lacksCells_5 rfl rfl ?_
    refine aw_getI (z := 2) (n := 9) C dX3_lacksCells_6 rfl fl_X3_19 (ss hk) (ss2 hk) rfl ?_
    refine aw_icgt (tgt := 22) (n := 12) C dX3_lacksCells_9 rfl rfl (by omega) (by omega) (fun h_9 => ?_) (fun h_9 => ?_)
    · refine aw_iconst (n := 23) C dX3_lacksCells_22 rfl ?_
      refine aw_goto (tgt := 27) C dX3_lacksCells_23 rfl ?_
      refine hret 27 _ _ _ dX3_lacksCells_27 (Or.inr ⟨rfl, by omega⟩) ?_
      exact ⟨by omega, rfl⟩
    · refine aw_ildn (n := 13) C dX3_lacksCells_12 rfl rfl ?_
      refine aw_aldn (n := 14) C dX3_lacksCells_13 rfl rfl ?_
      refine aw_getI (z := 2) (n := 17) C dX3_lacksCells_14 rfl fl_X3_19 (ss hk) (ss2 hk) rfl ?_
      refine aw_ildn (n := 18) C dX3_lacksCells_17 rfl rfl ?_
      refine aw_isub (n := 19) C dX3_lacksCells_18 rfl ?_
      refine aw_icle (tgt := 26) (n := 22) C dX3_lacksCells_19 rfl rfl (by omega) (by omega) (fun h_19 => ?_) (fun h_19 => ?_)
      · refine aw_iconst (n := 27) C dX3_lacksCells_26 rfl ?_
        refine hret 27 _ _ _ dX3_lacksCells_27 (Or.inr ⟨rfl, by omega⟩) ?_
        exact ⟨by omega, rfl⟩
      · refine aw_iconst (n := 23) C dX3_lacksCells_22 rfl ?_
        refine aw_goto (tgt := 27) C dX3_lacksCells_23 rfl ?_
        refine hret 27 _ _ _ dX3_lacksCells_27 (Or.inr ⟨rfl, by omega⟩) ?_
        exact ⟨by omega, rfl⟩
theorem c_faultOfRow {k : Nat} {S : Mem} {t : Int} (hk : k < 4) (ht : rng t) (h1 : rng (S (2 + k) 1)) : AMi 1 yX3_faultOfRow cX3_faultOfRow 2 (some .int) [.inr (.inr (2 + k)), .inl t] S (fun z S' => z = (if S (2 + k) 1 = -1 then 1 else if S (2 + k) 1 = t then 0 else 2) ∧ S' = S) := by
  refine ami_intro (L := [_, _]) (by decide) (Or.inl rfl) rfl (Nat.le_of_ble_eq_true rfl) (fun X C hret => ?_)
  refine aw_aldn (n := 1) C dX3_faultOfRow_0 rfl rfl ?_
  refine aw_cVi (n := 4) (vs := []) C dX3_faultOfRow_1 rfl rfl rfl mm_X3_hasNothing wM_X3_28 (ss hk) rfl (Nat.le_of_ble_eq_true rfl) (c_hasNothing hk h1) (by decide) (fun z_1 S_1 q_1 => ?_)
  rw [q_1.1, q_1.2]
  clear q_1 S_1 z_1
  refine aw_ifeq (tgt := 9) (n := 7) C dX3_faultOfRow_4 rfl rfl (by split <;> omega) (fun h_4 => ?_) (fun h_4 => ?_)
  · refine aw_aldn (n := 10) C dX3_faultOfRow_9 rfl rfl ?_
    refine aw_getI (z := 1) (n := 13) C dX3_faultOfRow_10 rfl fl_X3_15 (ss hk) (ss1 hk) rfl ?_
    refine aw_ildn (n := 14) C dX3_faultOfRow_13 rfl rfl ?_
    refine aw_icne (tgt := 21) (n := 17) C dX3_faultOfRow_14 rfl rfl (by omega) (by omega) (fun h_14 => ?_) (fun h_14 => ?_)
    · refine aw_iconst (n := 22) C dX3_faultOfRow_21 rfl ?_
      refine hret 22 _ _ _ dX3_faultOfRow_22 (Or.inl rfl) ?_
      exact ⟨by omega, rfl⟩
    · refine aw_iconst (n := 18) C dX3_faultOfRow_17 rfl ?_
      refine aw_goto (tgt := 22) C dX3_faultOfRow_18 rfl ?_
      refine hret 22 _ _ _ dX3_faultOfRow_22 (Or.inl rfl) ?_
      exact ⟨by omega, rfl⟩
  · refine aw_iconst (n := 8) C dX3_faultOfRow_7 rfl ?_
    refine hret 8 _ _ _ dX3_faultOfRow_8 (Or.inl rfl) ?_
    exact ⟨by omega, rfl⟩
theorem c_faultOfCells {k : Nat} {S : Mem} {t i n : Int} (hk : k < 4) (ht : rng t) (hi : rng i) (hn : rng n) (h1 : rng (S (2 + k) 1)) (h2 : 0 ≤ S (2 + k) 2 ∧ S (2 + k) 2 ≤ 60) : AMi 2 yX3_faultOfCells cX3_faultOfCells 5 (some .int) [.inr (.inr (2 + k)), .inl t, .inl i, .inl n] S (fun z S' => z = (if S (2 + k) 1 = -1 then 1 else if S (2 + k) 1 = t then (if n < 0 then 4 else if i < 0 ∨ S (2 + k) 2 < i ∨ S (2 + k) 2 - i < n then 3 else 0) else 2) ∧ S' = S) := by
  refine ami_intro (L := [_, _, _, _, none]) (by decide) (Or.inl rfl) rfl (Nat.le_of_ble_eq_true rfl) (fun X C hret => ?_)
  refine aw_aldn (n := 1) C dX3_faultOfCells_0 rfl rfl ?_
  refine aw_ildn (n := 2) C dX3_faultOfCells_1 rfl rfl ?_
  refine aw_cVi (n := 5) (vs := [_]) C dX3_faultOfCells_2 rfl rfl rfl mm_X3_faultOfRow wM_X3_32 (ss hk) rfl (Nat.le_of_ble_eq_true rfl) (c_faultOfRow hk ht h1) (by decide) (fun z_2 S_2 q_2 => ?_)
  rw [q_2.1, q_2.2]
  clear q_2 S_2 z_2
  refine aw_istw (n := 7) (L' := [_, _, _, _, _]) C dX3_faultOfCells_5 rfl (by decide) rfl rfl ?_
  refine aw_ildw (n := 9) C dX3_faultOfCells_7 rfl rfl ?_
  refine aw_ifeq (tgt := 15) (n := 12) C dX3_faultOfCells_9 rfl rfl (by omega) (fun h_9 => ?_) (fun h_9 => ?_)
  · refine aw_ildn (n := 16) C dX3_faultOfCells_15 rfl rfl ?_
    refine aw_ifge (tgt := 21) (n := 19) C dX3_faultOfCells_16 rfl rfl (by omega) (fun h_16 => ?_) (fun h_16 => ?_)
    · refine aw_aldn (n := 22) C dX3_faultOfCells_21 rfl rfl ?_
      refine aw_ildn (n := 23) C dX3_faultOfCells_22 rfl rfl ?_
      refine aw_ildn (n := 24) C dX3_faultOfCells_23 rfl rfl ?_
      refine aw_cVi (n := 27) (vs := [_, _]) C dX3_faultOfCells_24 rfl rfl rfl mm_X3_lacksCells wM_X3_36 (ss hk) rfl (Nat.le_of_ble_eq_true rfl) (c_lacksCells hk hi hn h2) (by decide) (fun z_24 S_24 q_24 => ?_)
      rw [q_24.1, q_24.2]
      clear q_24 S_24 z_24
      refine aw_ifeq (tgt := 34) (n := 30) C dX3_faultOfCells_27 rfl rfl (by omega) (fun h_27 => ?_) (fun h_27 => ?_)
      · refine aw_iconst (n := 35) C dX3_faultOfCells_34 rfl ?_
        refine hret 35 _ _ _ dX3_faultOfCells_35 (Or.inl rfl) ?_
        exact ⟨by omega, rfl⟩
      · refine aw_iconst (n := 31) C dX3_faultOfCells_30 rfl ?_
        refine aw_goto (tgt := 35) C dX3_faultOfCells_31 rfl ?_
        refine hret 35 _ _ _ dX3_faultOfCells_35 (Or.inl rfl) ?_
        exact ⟨by omega, rfl⟩
    · refine aw_iconst (n := 20) C dX3_faultOfCells_19 rfl ?_
      refine hret 20 _ _ _ dX3_faultOfCells_20 (Or.inl rfl) ?_
      exact ⟨by omega, rfl⟩
  · refine aw_ildw (n := 14) C dX3_faultOfCells_12 rfl rfl ?_
    refine hret 14 _ _ _ dX3_faultOfCells_14 (Or.inl rfl) ?_
    exact ⟨by omega, rfl⟩
theorem c_renew {k : Nat} {S : Mem} {t n : Int} (hk : k < 4) : AMv 1 yX3_renew cX3_renew 3 [.inr (.inr (2 + k)), .inl t, .inl n] S (fun S' => S' = fl2 (st2 (st2 S (2 + k) 1 t) (2 + k) 2 n) (6 + k) 60 0) := by
  refine amv_intro (L := [_, _, _]) (by decide) rfl (Nat.le_of_ble_eq_true rfl) (fun X C hret => ?_)
  refine aw_aldn (n := 1) C dX3_renew_0 rfl rfl ?_
  refine aw_ildn (n := 2) C dX3_renew_1 rfl rfl ?_
  refine aw_put (z := 1) (n := 5) C dX3_renew_2 rfl fp_X3_15 (ss hk) (ss1 hk) rfl (Or.inl rfl) ?_
  refine aw_aldn (n := 6) C dX3_renew_5 rfl rfl ?_
  refine aw_ildn (n := 7) C dX3_renew_6 rfl rfl ?_
  refine aw_put (z := 2) (n := 10) C dX3_renew_7 rfl fp_X3_19 (ss hk) (ss2 hk) rfl (Or.inl rfl) ?_
  refine aw_aldn (n := 11) C dX3_renew_10 rfl rfl ?_
  refine aw_getR (n := 14) C dX3_renew_11 rfl fl_X3_9 (ss hk) (ss0 hk) ?_
  refine aw_iconst (n := 15) C dX3_renew_14 rfl ?_
  refine aw_cSv (n := 18) (vs := [_, _]) C dX3_renew_15 rfl rfl rfl mm_J7_fill_53178 wM_X3_22 (Nat.le_of_ble_eq_true rfl) (c_fill (sc hk) (by decide)) (by decide) (fun S_15 q_15 => ?_)
  rw [q_15]
  clear q_15 S_15
  refine hret 18 _ _ dX3_renew_18 ?_
  rfl
/-- what is left of a number in a lane -/
def cutB (v : Int) : Int := (Int8.ofInt v).toInt
def cutS (v : Int) : Int := (Int16.ofInt v).toInt
theorem cutB_eq (v : Int) : (Int32.ofInt v).toInt8.toInt32 = Int32.ofInt (cutB v) := by
  rw [Int32.toInt8_ofInt]
  exact (Int32.toInt_inj.mp (by unfold cutB; rw [Int8.toInt_toInt32, am_ti]; have := Int8.le_toInt (Int8.ofInt v); have := Int8.toInt_lt (Int8.ofInt v); omega))
theorem cutS_eq (v : Int) : (Int32.ofInt v).toInt16.toInt32 = Int32.ofInt (cutS v) := by
  rw [Int32.toInt16_ofInt]
  exact (Int32.toInt_inj.mp (by unfold cutS; rw [Int16.toInt_toInt32, am_ti]; have := Int16.le_toInt (Int16.ofInt v); have := Int16.toInt_lt (Int16.ofInt v); omega))
theorem cutB_rng (v : Int) : rng (cutB v) := by unfold cutB; have := Int8.le_toInt (Int8.ofInt v); have := Int8.toInt_lt (Int8.ofInt v); omega
theorem cutS_rng (v : Int) : rng (cutS v) := by unfold cutS; have := Int16.le_toInt (Int16.ofInt v); have := Int16.toInt_lt (Int16.ofInt v); omega
theorem c_cut {k : Nat} {S : Mem} {v : Int} (hk : k < 4) (h1 : rng (S (2 + k) 1)) : AMi 0 yX3_cut cX3_cut 2 (some .int) [.inr (.inr (2 + k)), .inl v] S (fun z S' => z = (if S (2 + k) 1 = 0 then cutB v else if S (2 + k) 1 = 1 then cutS v else v) ∧ S' = S) := by
  refine ami_intro (L := [_, _]) (by decide) (Or.inl rfl) rfl (Nat.le_of_ble_eq_true rfl) (fun X C hret => ?_)
  refine aw_aldn (n := 1) C dX3_cut_0 rfl rfl ?_
  refine aw_getI (z := 1) (n := 4) C dX3_cut_1 rfl fl_X3_15 (ss hk) (ss1 hk) rfl ?_
  refine aw_ifne (tgt := 10) (n := 7) C dX3_cut_4 rfl rfl (by omega) (fun h_4 => ?_) (fun h_4 => ?_)
  · refine aw_aldn (n := 11) C dX3_cut_10 rfl rfl ?_
    refine aw_getI (z := 1) (n := 14) C dX3_cut_11 rfl fl_X3_15 (ss hk) (ss1 hk) rfl ?_
    refine aw_iconst (n := 15) C dX3_cut_14 rfl ?_
    refine aw_icne (tgt := 23) (n := 18) C dX3_cut_15 rfl rfl (by omega) (by omega) (fun h_15 => ?_) (fun h_15 => ?_)
    · refine aw_ildn (n := 24) C dX3_cut_23 rfl rfl ?_
      refine hret 24 _ _ _ dX3_cut_24 (Or.inl rfl) ?_
      exact ⟨by omega, rfl⟩
    · refine aw_ildn (n := 19) C dX3_cut_18 rfl rfl ?_
      refine aw_i2s (n := 20) C dX3_cut_19 rfl (cutS_eq v) ?_
      refine aw_goto (tgt := 24) C dX3_cut_20 rfl ?_
      refine hret 24 _ _ _ dX3_cut_24 (Or.inl rfl) ?_
      exact ⟨by omega, rfl⟩
  · refine aw_ildn (n := 8) C dX3_cut_7 rfl rfl ?_
    refine aw_i2b (n := 9) C dX3_cut_8 rfl (cutB_eq v) ?_
    refine hret 9 _ _ _ dX3_cut_9 (Or.inl rfl) ?_
    exact ⟨by omega, rfl⟩
