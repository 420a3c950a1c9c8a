/-! Ease: choosing, seeking; RegretLine: ease, stuck -/
theorem bst_congr {f g : Nat → Int} {P : Nat} (hP : P ≤ 4) (h : ∀ v, v < 3 ^ P → f v = g v) : ∀ (j w : Nat), j ≤ P → w < 3 ^ P → bst f j w = bst g j w
  | 0, w, _, hw => h w hw
  | j + 1, w, hj, hw => by
    show min _ _ = min _ _
    rw [bst_congr hP h j w (by omega) hw, bst_congr hP h j (dst w j 0) (by omega) (dst_lt P hP w hw j (by omega) 0 (by omega)), bst_congr hP h j (dst w j 1) (by omega) (dst_lt P hP w hw j (by omega) 1 (by omega)), bst_congr hP h j (dst w j 2) (by omega) (dst_lt P hP w hw j (by omega) 2 (by omega))]
section EZ4
variable {X : AMX} {S : Mem} {M P : Nat}
theorem bhF_r {se : Fn} {du : Int → Int → Int} (hP : P ≤ 4) (hd : ∀ m p, 0 ≤ du m p ∧ du m p ≤ 2) : ∀ (j w : Nat), w < 3 ^ P → 0 ≤ bhF M P se du j w ∧ bhF M P se du j w ≤ 10000
  | 0, w, _ => by show 0 ≤ (0 : Int) ∧ (0 : Int) ≤ 10000; omega
  | j + 1, w, hw => by
    refine bst_r hP (fun v hv => ?_) P w (Nat.le_refl P) hw
    have h1 := bhF_r (se := se) hP hd j v hv
    have h2 := lwm_r P se du (M - 1 - j) v hP hd
    omega
theorem tgF_r {se : Fn} {du : Int → Int → Int} (hP : P ≤ 4) (hd : ∀ m p, 0 ≤ du m p ∧ du m p ≤ 2) (m w : Nat) (hw : w < 3 ^ P) : 0 ≤ tgF M P se du m w ∧ tgF M P se du m w ≤ 10000 := by
  have h1 := bhF_r (M := M) (se := se) hP hd (M - 1 - m) w hw
  have h2 := lwm_r P se du m w hP hd
  unfold tgF
  omega
theorem rwF_lt {se : Fn} {du : Int → Int → Int} : ∀ m : Nat, rwF M P se du m < 3 ^ P
  | 0 => fo_lt3 _ _
  | m + 1 => fo_lt3 _ _
/-- the table of what is still to go -/
def TGO (S : Mem) (M P : Nat) (se : Fn) (du : Int → Int → Int) : Prop := ∀ m : Nat, m < M → ∀ w : Nat, w < 3 ^ P → S (55 + m) w = tgF M P se du m w
theorem rw_0 {se : Fn} {du : Int → Int → Int} (hM : 0 < M) (h : TGO S M P se du) : fo (fcost S 0 (-9)) (3 ^ P) = fo (tgF M P se du 0) (3 ^ P) := fo_congr _ (fun w hw => by
  unfold fcost
  rw [if_pos rfl, Int.add_zero]
  exact h 0 hM w hw)
theorem rw_s {se : Fn} {du : Int → Int → Int} {m : Nat} (hP : P ≤ 4) (hM : m + 1 < M) (h : TGO S M P se du) : (fo (fcost S (m + 1) (rwF M P se du m : Int)) (3 ^ P)).1 = rwF M P se du (m + 1) := by
  show _ = (fo (fun w => tgF M P se du (m + 1) w + chl (rwF M P se du m) w P) (3 ^ P)).1
  rw [fo_congr (g := fun w => tgF M P se du (m + 1) w + chl (rwF M P se du m) w P) _ (fun w hw => by
    unfold fcost
    rw [if_neg (by omega), Int.toNat_natCast, chl_4 hP (rwF_lt m) hw, h (m + 1) hM w hw])]
/-- the rows of the miles below m are written -/
def RWS (m M P : Nat) (se : Fn) (du : Int → Int → Int) (S' : Mem) : Prop := ∀ i : Nat, i < m → ∀ p : Nat, p < P → S' 65 ((i : Int) * P + p) = (dgl (rwF M P se du i) (P - 1 - p) : Int)
theorem RWS_s {m : Nat} {se : Fn} {du : Int → Int → Int} {S1 S2 : Mem} (h : RWS m M P se du S1) (hw : wrt m P (rwF M P se du m) S1 S2) : RWS (m + 1) M P se du S2 := by
  intro i hi p hp
  by_cases e : i = m
  · rw [e]; exact hw.2.1 p hp
  · rw [hw.2.2 _ (Or.inl (by
      have : (i + 1) * P ≤ m * P := Nat.mul_le_mul_right P (by omega)
      rw [Nat.succ_mul] at this
      have h2 : (i : Int) * P = ((i * P : Nat) : Int) := by rw [Int.natCast_mul]
      have h3 : (m : Int) * P = ((m * P : Nat) : Int) := by rw [Int.natCast_mul]
      omega))]
    exact h i (by omega) p hp
theorem c_choose_loop {se : Fn} {du : Int → Int → Int} {post : Mem → Prop} (h8 : S 10 8 = (M : Int)) (h9 : S 10 9 = (P : Int)) (hM : M ≤ 8) (hP : P ≤ 4) (h4 : S 53 4 = ((3 ^ P : Nat) : Int)) (hd : ∀ m p, 0 ≤ du m p ∧ du m p ≤ 2) (T : TGO S M P se du) (C : CX X 2 RX0 cX0_choose 3) (hret : ∀ (pc : Nat) (L : List (Option AV)) (S' : Mem), decode cX0_choose pc = .ok (.return_, 1) → post S' → AW X cX0_choose 3 pc L [] S') (hp : ∀ S', fr 65 66 S S' → RWS M M P se du S' → post S') : ∀ (r m : Nat) (S1 : Mem), m + 1 + r = M → fr 65 66 S S1 → RWS (m + 1) M P se du S1 → AW X cX0_choose 3 28 [some (.inr (.inr 53)), some (.inl (rwF M P se du m : Int)), some (.inl ((m : Int) + 1))] [] S1 := by
  have h81 := p3_81 P hP
  intro r
  induction r with
  | zero =>
    intro m S1 hm hf hv
    have s8 : S1 10 8 = (M : Int) := by rw [hf 10 (by omega)]; exact h8
    refine aw_ildn (n := 29) C dX0_choose_28 rfl rfl ?_
    refine aw_aldn (n := 30) C dX0_choose_29 rfl rfl ?_
    refine aw_getR (n := 33) C dX0_choose_30 rfl fl_X0_36 rfl rfl ?_
    refine aw_getI (z := 8) (n := 36) C dX0_choose_33 rfl fl_X0_51 rfl rfl rfl ?_
    refine aw_icge (tgt := 58) (n := 39) C dX0_choose_36 rfl rfl (by omega) (by omega) (fun h_36 => ?_) (fun h_36 => ?_)
    · refine hret 58 _ _ dX0_choose_58 ?_
      rw [show m + 1 = M by omega] at hv
      exact hp S1 hf hv
    · omega
  | succ r ih =>
    intro m S1 hm hf hv
    have s8 : S1 10 8 = (M : Int) := by rw [hf 10 (by omega)]; exact h8
    have T1 : TGO S1 M P se du := fun a ha w hw => by rw [hf (55 + a) (by omega)]; exact T a ha w hw
    have hlt := rwF_lt (M := M) (P := P) (se := se) (du := du) m
    have hlt1 := rwF_lt (M := M) (P := P) (se := se) (du := du) (m + 1)
    have es := rw_s (se := se) (du := du) (m := m) hP (by omega) T1
    refine aw_ildn (n := 29) C dX0_choose_28 rfl rfl ?_
    refine aw_aldn (n := 30) C dX0_choose_29 rfl rfl ?_
    refine aw_getR (n := 33) C dX0_choose_30 rfl fl_X0_36 rfl rfl ?_
    refine aw_getI (z := 8) (n := 36) C dX0_choose_33 rfl fl_X0_51 rfl rfl rfl ?_
    refine aw_icge (tgt := 58) (n := 39) C dX0_choose_36 rfl rfl (by omega) (by omega) (fun h_36 => ?_) (fun h_36 => ?_)
    · omega
    · refine aw_aldn (n := 40) C dX0_choose_39 rfl rfl ?_
      refine aw_ildn (n := 41) C dX0_choose_40 rfl rfl ?_
      refine aw_ildn (n := 42) C dX0_choose_41 rfl rfl ?_
      refine aw_cVi (n := 45) (vs := [_, _]) C dX0_choose_42 rfl rfl rfl mm_X0_firstOfLeast wM_X0_90 rfl rfl (Nat.le_of_ble_eq_true rfl) (c_firstOfLeast (m := m + 1) (P := P) hP (by omega) (Or.inr (by omega)) (by rw [hf 53 (by omega)]; exact h4) (fun w hw => by rw [T1 (m + 1) (by omega) w hw]; exact tgF_r hP hd _ _ hw)) (by decide) (fun z_42 S_42 q_42 => ?_)
      rw [q_42.1, q_42.2]
      clear q_42 S_42 z_42
      rw [es]
      refine aw_istn (n := 46) (L' := [_, _, _]) C dX0_choose_45 rfl (by decide) rfl rfl ?_
      refine aw_aldn (n := 47) C dX0_choose_46 rfl rfl ?_
      refine aw_ildn (n := 48) C dX0_choose_47 rfl rfl ?_
      refine aw_ildn (n := 49) C dX0_choose_48 rfl rfl ?_
      refine aw_cVv (n := 52) (vs := [_, _]) C dX0_choose_49 rfl rfl rfl mm_X0_write wM_X0_93 rfl rfl (Nat.le_of_ble_eq_true rfl) (c_write (m := m + 1) (P := P) (by rw [hf 10 (by omega)]; exact h9) hP (by omega) (by omega)) (by decide) (fun S_49 q_49 => ?_)
      skip
      refine aw_iinc (n := 55) (L' := [_, _, _]) C dX0_choose_52 rfl rfl (by decide) rfl rfl ?_
      refine aw_goto (tgt := 28) C dX0_choose_55 rfl ?_
      exact ih (m + 1) _ (by omega) (fr_tr hf q_49.1) (RWS_s hv q_49)
theorem c_choose {se : Fn} {du : Int → Int → Int} (h8 : S 10 8 = (M : Int)) (h9 : S 10 9 = (P : Int)) (hM0 : 0 < M) (hM : M ≤ 8) (hP : P ≤ 4) (h4 : S 53 4 = ((3 ^ P : Nat) : Int)) (hd : ∀ m p, 0 ≤ du m p ∧ du m p ≤ 2) (T : TGO S M P se du) : AMv 2 yX0_choose cX0_choose 3 [.inr (.inr 53)] S (fun S' => fr 65 66 (st2 S 53 6 (tgF M P se du 0 (rwF M P se du 0))) S' ∧ RWS M M P se du S') := by
  have h81 := p3_81 P hP
  have hlt := rwF_lt (M := M) (P := P) (se := se) (du := du) 0
  have e0 := rw_0 (se := se) (du := du) hM0 T
  refine amv_intro (L := [_, none, none]) (by decide) rfl (Nat.le_of_ble_eq_true rfl) (fun X C hret => ?_)
  refine aw_aldn (n := 1) C dX0_choose_0 rfl rfl ?_
  refine aw_iconst (n := 2) C dX0_choose_1 rfl ?_
  refine aw_bipush (n := 4) C dX0_choose_2 rfl rfl ?_
  refine aw_cVi (n := 7) (vs := [_, _]) C dX0_choose_4 rfl rfl rfl mm_X0_firstOfLeast wM_X0_90 rfl rfl (Nat.le_of_ble_eq_true rfl) (c_firstOfLeast (m := 0) (P := P) hP (by omega) (Or.inl rfl) h4 (fun w hw => by rw [T 0 (by omega) w hw]; exact tgF_r hP hd _ _ hw)) (by decide) (fun z_4 S_4 q_4 => ?_)
  rw [q_4.1, q_4.2]
  clear q_4 S_4 z_4
  rw [e0, show (fo (tgF M P se du 0) (3 ^ P)).1 = rwF M P se du 0 from rfl]
  refine aw_istn (n := 8) (L' := [_, _, _]) C dX0_choose_7 rfl (by decide) rfl rfl ?_
  refine aw_aldn (n := 9) C dX0_choose_8 rfl rfl ?_
  refine aw_aldn (n := 10) C dX0_choose_9 rfl rfl ?_
  refine aw_getR (n := 13) C dX0_choose_10 rfl fl_X0_13 rfl rfl ?_
  refine aw_iconst (n := 14) C dX0_choose_13 rfl ?_
  refine aw_aald (j := 0) (n := 15) C dX0_choose_14 rfl rfl (by decide) (by omega) (by omega) rfl ?_
  refine aw_ildn (n := 16) C dX0_choose_15 rfl rfl ?_
  refine aw_iald (n := 17) C dX0_choose_16 rfl rfl (by omega) (by omega) ?_
  rw [show S 55 ((rwF M P se du 0 : Nat) : Int) = tgF M P se du 0 (rwF M P se du 0) from T 0 hM0 _ hlt]
  refine aw_put (z := 6) (n := 20) C dX0_choose_17 rfl fp_X0_30 rfl rfl rfl (Or.inl rfl) ?_
  generalize hS1 : st2 S 53 6 (tgF M P se du 0 (rwF M P se du 0)) = S1 at hret ⊢
  have o1 : ∀ c, c ≠ 53 → S1 c = S c := fun c hc => by rw [← hS1]; exact st2_o c hc
  have T1 : TGO S1 M P se du := fun a ha w hw => by rw [o1 (55 + a) (by omega)]; exact T a ha w hw
  have s4 : S1 53 4 = ((3 ^ P : Nat) : Int) := by rw [← hS1, st2_n (by decide)]; exact h4
  refine aw_aldn (n := 21) C dX0_choose_20 rfl rfl ?_
  refine aw_iconst (n := 22) C dX0_choose_21 rfl ?_
  refine aw_ildn (n := 23) C dX0_choose_22 rfl rfl ?_
  refine aw_cVv (n := 26) (vs := [_, _]) C dX0_choose_23 rfl rfl rfl mm_X0_write wM_X0_93 rfl rfl (Nat.le_of_ble_eq_true rfl) (c_write (m := 0) (P := P) (by rw [o1 10 (by decide)]; exact h9) hP (by omega) (by omega)) (by decide) (fun S_23 q_23 => ?_)
  skip
  refine aw_iconst (n := 27) C dX0_choose_26 rfl ?_
  refine aw_istn (n := 28) (L' := [_, _, _]) C dX0_choose_27 rfl (by decide) rfl rfl ?_
  refine c_choose_loop (S := S1) (by rw [o1 10 (by decide)]; exact h8) (by rw [o1 10 (by decide)]; exact h9) hM hP s4 hd T1 C hret (fun S' a b => ⟨a, b⟩) (M - 1) 0 _ (by omega) q_23.1 (RWS_s (m := 0) (fun i hi => by omega) q_23)
end EZ4
