/-! Ease: the first of the least, the row, seeking -/
theorem fo_congr {f g : Nat → Int} : ∀ n : Nat, (∀ w, w < n → f w = g w) → fo f n = fo g n
  | 0, _ => rfl
  | n + 1, h => by
    show (if f n < (fo f n).2 then (n, f n) else fo f n) = (if g n < (fo g n).2 then (n, g n) else fo g n)
    rw [fo_congr n (fun w hw => h w (by omega)), h n (by omega)]
theorem fo_lt {f : Nat → Int} : ∀ n : Nat, (fo f (n + 1)).1 < n + 1
  | 0 => by show (if f 0 < (fo f 0).2 then (0, f 0) else fo f 0).1 < 1; split <;> exact Nat.zero_lt_one
  | n + 1 => by
    show (if f (n + 1) < (fo f (n + 1)).2 then (n + 1, f (n + 1)) else fo f (n + 1)).1 < n + 1 + 1
    have := fo_lt (f := f) n
    split
    · show n + 1 < n + 1 + 1; omega
    · omega
theorem fo_lt3 (f : Nat → Int) (P : Nat) : (fo f (3 ^ P)).1 < 3 ^ P := by
  have := p3_pos P
  obtain ⟨n, hn⟩ : ∃ n, 3 ^ P = n + 1 := ⟨3 ^ P - 1, by omega⟩
  rw [hn]
  exact fo_lt n
theorem fo_r {f : Nat → Int} : ∀ n : Nat, (∀ w, w < n → 0 ≤ f w ∧ f w ≤ 10100) → 0 ≤ (fo f n).2 ∧ (fo f n).2 ≤ 20000 ∧ (fo f n).1 ≤ n
  | 0, _ => by show 0 ≤ (20000 : Int) ∧ (20000 : Int) ≤ 20000 ∧ 0 ≤ 0; omega
  | n + 1, h => by
    have h1 := fo_r n (fun w hw => h w (by omega))
    have h2 := h n (by omega)
    show 0 ≤ (if f n < (fo f n).2 then (n, f n) else fo f n).2 ∧ (if f n < (fo f n).2 then (n, f n) else fo f n).2 ≤ 20000 ∧ (if f n < (fo f n).2 then (n, f n) else fo f n).1 ≤ n + 1
    split
    · exact ⟨h2.1, by omega, by show n ≤ n + 1; omega⟩
    · omega
theorem fo_s (f : Nat → Int) (n : Nat) : fo f (n + 1) = if f n < (fo f n).2 then (n, f n) else fo f n := rfl
section EZ3
variable {X : AMX} {S : Mem} {M P m : Nat}
def fcost (S : Mem) (m : Nat) (bf : Int) (w : Nat) : Int := S (55 + m) w + (if bf = -9 then 0 else chl bf.toNat w 4)
theorem c_fol_loop {bf : Int} {post : Int → Mem → Prop} (hP : P ≤ 4) (hm : m < 8) (hbf : bf = -9 ∨ (0 ≤ bf ∧ bf < 81)) (h4 : S 53 4 = ((3 ^ P : Nat) : Int)) (hr : ∀ w : Nat, w < 3 ^ P → 0 ≤ S (55 + m) w ∧ S (55 + m) w ≤ 10000) (C : CX X 1 RX0 cX0_firstOfLeast 7) (hret : ∀ (pc : Nat) (L : List (Option AV)) (z : Int) (S' : Mem), decode cX0_firstOfLeast pc = .ok (.ireturn, 1) → ((some FieldType.int) = some .int ∨ ((some FieldType.int) = some .boolean ∧ (z = 0 ∨ z = 1))) → post z S' → AW X cX0_firstOfLeast 7 pc L [.inl z] S') (hp : post ((fo (fcost S m bf) (3 ^ P)).1 : Int) S) : ∀ (r w : Nat) (y : Option AV), w + r = 3 ^ P → AW X cX0_firstOfLeast 7 10 [some (.inr (.inr 53)), some (.inl m), some (.inl bf), some (.inl ((fo (fcost S m bf) w).1 : Int)), some (.inl (fo (fcost S m bf) w).2), some (.inl w), y] [] S := by
  have h81 := p3_81 P hP
  obtain ⟨U, hU⟩ : ∃ u : Nat, 3 ^ P = u := ⟨_, rfl⟩
  rw [hU] at h81 h4 hr hp ⊢
  have hfr : ∀ w : Nat, w < U → 0 ≤ fcost S m bf w ∧ fcost S m bf w ≤ 10100 := fun w hw => by
    have := hr w hw
    have := chl_r bf.toNat w 4
    unfold fcost
    split <;> omega
  intro r
  induction r with
  | zero =>
    intro w y hw
    refine aw_ildw (n := 12) C dX0_firstOfLeast_10 rfl rfl ?_
    refine aw_aldn (n := 13) C dX0_firstOfLeast_12 rfl rfl ?_
    refine aw_getI (z := 4) (n := 16) C dX0_firstOfLeast_13 rfl fl_X0_23 rfl rfl rfl ?_
    refine aw_icge (tgt := 67) (n := 19) C dX0_firstOfLeast_16 rfl rfl (by omega) (by omega) (fun h_16 => ?_) (fun h_16 => ?_)
    · refine aw_ildn (n := 68) C dX0_firstOfLeast_67 rfl rfl ?_
      refine hret 68 _ _ _ dX0_firstOfLeast_68 (Or.inl rfl) ?_
      rw [show U = w by omega] at hp
      exact hp
    · omega
  | succ r ih =>
    intro w y hw
    have hrw := hr w (by omega)
    have hfw := hfr w (by omega)
    have hf2 := fo_r w (f := fcost S m bf) (fun v hv => hfr v (by omega))
    have es := fo_s (fcost S m bf) w
    refine aw_ildw (n := 12) C dX0_firstOfLeast_10 rfl rfl ?_
    refine aw_aldn (n := 13) C dX0_firstOfLeast_12 rfl rfl ?_
    refine aw_getI (z := 4) (n := 16) C dX0_firstOfLeast_13 rfl fl_X0_23 rfl rfl rfl ?_
    refine aw_icge (tgt := 67) (n := 19) C dX0_firstOfLeast_16 rfl rfl (by omega) (by omega) (fun h_16 => ?_) (fun h_16 => ?_)
    · omega
    · refine aw_aldn (n := 20) C dX0_firstOfLeast_19 rfl rfl ?_
      refine aw_getR (n := 23) C dX0_firstOfLeast_20 rfl fl_X0_13 rfl rfl ?_
      refine aw_ildn (n := 24) C dX0_firstOfLeast_23 rfl rfl ?_
      refine aw_aald (j := m) (n := 25) C dX0_firstOfLeast_24 rfl rfl (by decide) rfl (by omega) (ef hm) ?_
      refine aw_ildw (n := 27) C dX0_firstOfLeast_25 rfl rfl ?_
      refine aw_iald (n := 28) C dX0_firstOfLeast_27 rfl (ek hm) (by omega) (by omega) ?_
      refine aw_ildn (n := 29) C dX0_firstOfLeast_28 rfl rfl ?_
      refine aw_bipush (n := 31) C dX0_firstOfLeast_29 rfl rfl ?_
      refine aw_icne (tgt := 38) (n := 34) C dX0_firstOfLeast_31 rfl rfl (by omega) (by omega) (fun h_31 => ?_) (fun h_31 => ?_)
      · have hc : fcost S m bf w = S (55 + m) w + chl bf.toNat w 4 := by unfold fcost; rw [if_neg h_31]
        refine aw_ildn (n := 39) C dX0_firstOfLeast_38 rfl rfl ?_
        refine aw_ildw (n := 41) C dX0_firstOfLeast_39 rfl rfl ?_
        rw [show bf = (bf.toNat : Int) by omega]
        refine aw_cSi (n := 44) (vs := [_, _]) C dX0_firstOfLeast_41 rfl rfl rfl mm_X0_changesBetween wM_X0_97 (Nat.le_of_ble_eq_true rfl) (c_changesBetween (by omega) (by omega)) (by decide) (fun z_41 S_41 q_41 => ?_)
        rw [q_41.1, q_41.2]
        clear q_41 S_41 z_41
        refine aw_iadd (n := 45) C dX0_firstOfLeast_44 rfl ?_
        try rw [show ((bf.toNat : Nat) : Int) = bf by omega]
        rw [← hc]
        refine aw_istw (n := 47) (L' := [_, _, _, _, _, _, _]) C dX0_firstOfLeast_45 rfl (by decide) rfl rfl ?_
        refine aw_ildw (n := 49) C dX0_firstOfLeast_47 rfl rfl ?_
        refine aw_ildw (n := 51) C dX0_firstOfLeast_49 rfl rfl ?_
        refine aw_icge (tgt := 61) (n := 54) C dX0_firstOfLeast_51 rfl rfl (by omega) (by omega) (fun h_51 => ?_) (fun h_51 => ?_)
        · refine aw_iinc (n := 64) (L' := [_, _, _, _, _, _, _]) C dX0_firstOfLeast_61 rfl rfl (by decide) rfl rfl ?_
          refine aw_goto (tgt := 10) C dX0_firstOfLeast_64 rfl ?_
          have := ih (w + 1) (some (.inl (fcost S m bf w))) (by omega)
          rw [es] at this
          first | (rw [if_pos h_51] at this; exact this) | (rw [if_neg (by omega)] at this; exact this)
        · refine aw_ildw (n := 56) C dX0_firstOfLeast_54 rfl rfl ?_
          refine aw_istn (n := 57) (L' := [_, _, _, _, _, _, _]) C dX0_firstOfLeast_56 rfl (by decide) rfl rfl ?_
          refine aw_ildw (n := 59) C dX0_firstOfLeast_57 rfl rfl ?_
          refine aw_istw (n := 61) (L' := [_, _, _, _, _, _, _]) C dX0_firstOfLeast_59 rfl (by decide) rfl rfl ?_
          refine aw_iinc (n := 64) (L' := [_, _, _, _, _, _, _]) C dX0_firstOfLeast_61 rfl rfl (by decide) rfl rfl ?_
          refine aw_goto (tgt := 10) C dX0_firstOfLeast_64 rfl ?_
          have := ih (w + 1) (some (.inl (fcost S m bf w))) (by omega)
          rw [es] at this
          first | (rw [if_pos h_51] at this; exact this) | (rw [if_neg (by omega)] at this; exact this)
      · have hc : fcost S m bf w = S (55 + m) w + 0 := by unfold fcost; rw [if_pos h_31]
        refine aw_iconst (n := 35) C dX0_firstOfLeast_34 rfl ?_
        refine aw_goto (tgt := 44) C dX0_firstOfLeast_35 rfl ?_
        refine aw_iadd (n := 45) C dX0_firstOfLeast_44 rfl ?_
        try rw [show ((bf.toNat : Nat) : Int) = bf by omega]
        rw [← hc]
        refine aw_istw (n := 47) (L' := [_, _, _, _, _, _, _]) C dX0_firstOfLeast_45 rfl (by decide) rfl rfl ?_
        refine aw_ildw (n := 49) C dX0_firstOfLeast_47 rfl rfl ?_
        refine aw_ildw (n := 51) C dX0_firstOfLeast_49 rfl rfl ?_
        refine aw_icge (tgt := 61) (n := 54) C dX0_firstOfLeast_51 rfl rfl (by omega) (by omega) (fun h_51 => ?_) (fun h_51 => ?_)
        · refine aw_iinc (n := 64) (L' := [_, _, _, _, _, _, _]) C dX0_firstOfLeast_61 rfl rfl (by decide) rfl rfl ?_
          refine aw_goto (tgt := 10) C dX0_firstOfLeast_64 rfl ?_
          have := ih (w + 1) (some (.inl (fcost S m bf w))) (by omega)
          rw [es] at this
          first | (rw [if_pos h_51] at this; exact this) | (rw [if_neg (by omega)] at this; exact this)
        · refine aw_ildw (n := 56) C dX0_firstOfLeast_54 rfl rfl ?_
          refine aw_istn (n := 57) (L' := [_, _, _, _, _, _, _]) C dX0_firstOfLeast_56 rfl (by decide) rfl rfl ?_
          refine aw_ildw (n := 59) C dX0_firstOfLeast_57 rfl rfl ?_
          refine aw_istw (n := 61) (L' := [_, _, _, _, _, _, _]) C dX0_firstOfLeast_59 rfl (by decide) rfl rfl ?_
          refine aw_iinc (n := 64) (L' := [_, _, _, _, _, _, _]) C dX0_firstOfLeast_61 rfl rfl (by decide) rfl rfl ?_
          refine aw_goto (tgt := 10) C dX0_firstOfLeast_64 rfl ?_
          have := ih (w + 1) (some (.inl (fcost S m bf w))) (by omega)
          rw [es] at this
          first | (rw [if_pos h_51] at this; exact this) | (rw [if_neg (by omega)] at this; exact this)
theorem c_firstOfLeast {bf : Int} (hP : P ≤ 4) (hm : m < 8) (hbf : bf = -9 ∨ (0 ≤ bf ∧ bf < 81)) (h4 : S 53 4 = ((3 ^ P : Nat) : Int)) (hr : ∀ w : Nat, w < 3 ^ P → 0 ≤ S (55 + m) w ∧ S (55 + m) w ≤ 10000) : AMi 1 yX0_firstOfLeast cX0_firstOfLeast 7 (some .int) [.inr (.inr 53), .inl (m : Int), .inl bf] S (fun z S' => z = ((fo (fcost S m bf) (3 ^ P)).1 : Int) ∧ S' = S) := by
  refine ami_intro (L := [_, _, _, none, none, none, none]) (by decide) (Or.inl rfl) rfl (Nat.le_of_ble_eq_true rfl) (fun X C hret => ?_)
  refine aw_iconst (n := 1) C dX0_firstOfLeast_0 rfl ?_
  refine aw_istn (n := 2) (L' := [_, _, _, _, _, _, _]) C dX0_firstOfLeast_1 rfl (by decide) rfl rfl ?_
  refine aw_sipush (n := 5) C dX0_firstOfLeast_2 rfl rfl ?_
  refine aw_istw (n := 7) (L' := [_, _, _, _, _, _, _]) C dX0_firstOfLeast_5 rfl (by decide) rfl rfl ?_
  refine aw_iconst (n := 8) C dX0_firstOfLeast_7 rfl ?_
  refine aw_istw (n := 10) (L' := [_, _, _, _, _, _, _]) C dX0_firstOfLeast_8 rfl (by decide) rfl rfl ?_
  exact c_fol_loop hP hm hbf h4 hr C hret ⟨rfl, rfl⟩ (3 ^ P) 0 none (by omega)
/-- the row of a mile is written -/
def wrt (m P w : Nat) (S S' : Mem) : Prop := fr 65 66 S S' ∧ (∀ p : Nat, p < P → S' 65 ((m : Int) * P + p) = (dgl w (P - 1 - p) : Int)) ∧ ∀ x : Int, (x < (m : Int) * P ∨ (m : Int) * P + P ≤ x) → S' 65 x = S 65 x
theorem c_write_loop {w : Nat} {post : Mem → Prop} (h9 : S 10 9 = (P : Int)) (hP : P ≤ 4) (hm : m < 8) (hw : w < 81) (C : CX X 0 RX0 cX0_write 5) (hret : ∀ (pc : Nat) (L : List (Option AV)) (S' : Mem), decode cX0_write pc = .ok (.return_, 1) → post S' → AW X cX0_write 5 pc L [] S') (hp : ∀ S', wrt m P w S S' → post S') : ∀ (r j : Nat) (S1 : Mem), j + r = P → fr 65 66 S S1 → (∀ i : Nat, i < j → S1 65 ((m : Int) * P + ((P : Int) - 1 - i)) = (dgl w i : Int)) → (∀ x : Int, (x < (m : Int) * P ∨ (m : Int) * P + P ≤ x) → S1 65 x = S 65 x) → AW X cX0_write 5 13 [some (.inr (.inr 53)), some (.inl m), some (.inl w), some (.inl ((w / 3 ^ j : Nat) : Int)), some (.inl ((P : Int) - 1 - j))] [] S1 := by
  intro r
  induction r with
  | zero =>
    intro j S1 hj hf hv ho
    obtain rfl : j = P := by omega
    refine aw_ildw (n := 15) C dX0_write_13 rfl rfl ?_
    refine aw_iflt (tgt := 48) (n := 18) C dX0_write_15 rfl rfl (by omega) (fun h_15 => ?_) (fun h_15 => ?_)
    · refine hret 48 _ _ dX0_write_48 ?_
      refine hp S1 ⟨hf, fun p hpp => ?_, ho⟩
      have := hv (j - 1 - p) (by omega)
      rw [show ((j : Int) - 1 - ((j - 1 - p : Nat) : Int)) = (p : Int) by omega] at this
      exact this
    · omega
  | succ r ih =>
    intro j S1 hj hf hv ho
    have s9 : S1 10 9 = (P : Int) := by rw [hf 10 (by omega)]; exact h9
    have ea := div3 w j
    have la : w / 3 ^ j ≤ w := Nat.div_le_self _ _
    have dw : dgl w j = w / 3 ^ j % 3 := rfl
    have hix := ix_in (m := (m : Int)) (p := (P : Int) - 1 - j) (M := 8) (P := (P : Int)) (by omega) (by omega) (by omega) (by omega) (by omega) (by omega)
    obtain ⟨u, hu⟩ : ∃ u : Nat, w / 3 ^ j = u := ⟨_, rfl⟩
    obtain ⟨u', hu'⟩ : ∃ u : Nat, w / 3 ^ (j + 1) = u := ⟨_, rfl⟩
    rw [hu] at ea la dw ⊢
    rw [hu'] at ea
    have xw : (u : Int) / 3 = (u' : Int) := by omega
    have xm : (u : Int) % 3 = (dgl w j : Int) := by omega
    refine aw_ildw (n := 15) C dX0_write_13 rfl rfl ?_
    refine aw_iflt (tgt := 48) (n := 18) C dX0_write_15 rfl rfl (by omega) (fun h_15 => ?_) (fun h_15 => ?_)
    · omega
    · refine aw_aldn (n := 19) C dX0_write_18 rfl rfl ?_
      refine aw_getR (n := 22) C dX0_write_19 rfl fl_X0_27 rfl rfl ?_
      refine aw_ildn (n := 23) C dX0_write_22 rfl rfl ?_
      refine aw_aldn (n := 24) C dX0_write_23 rfl rfl ?_
      refine aw_getR (n := 27) C dX0_write_24 rfl fl_X0_36 rfl rfl ?_
      refine aw_getI (z := 9) (n := 30) C dX0_write_27 rfl fl_X0_40 rfl rfl rfl ?_
      rw [s9]
      refine aw_imul (n := 31) C dX0_write_30 rfl ?_
      refine aw_ildw (n := 33) C dX0_write_31 rfl rfl ?_
      refine aw_iadd (n := 34) C dX0_write_33 rfl ?_
      refine aw_ildn (n := 35) C dX0_write_34 rfl rfl ?_
      refine aw_iconst (n := 36) C dX0_write_35 rfl ?_
      refine aw_irem (n := 37) C dX0_write_36 rfl (by omega) (by omega) ?_
      rw [xm]
      refine aw_iast (n := 38) C dX0_write_37 rfl rfl (by omega) (by omega) ?_
      refine aw_ildn (n := 39) C dX0_write_38 rfl rfl ?_
      refine aw_iconst (n := 40) C dX0_write_39 rfl ?_
      refine aw_idiv (n := 41) C dX0_write_40 rfl (by omega) (by omega) ?_
      rw [xw]
      refine aw_istn (n := 42) (L' := [_, _, _, _, _]) C dX0_write_41 rfl (by decide) rfl rfl ?_
      refine aw_iinc (n := 45) (L' := [_, _, _, _, _]) C dX0_write_42 rfl rfl (by decide) rfl rfl ?_
      refine aw_goto (tgt := 13) C dX0_write_45 rfl ?_
      have := ih (j + 1) _ (by omega) (fr_tr hf (fr_w (fr_st S1 65 ((m : Int) * P + ((P : Int) - 1 - j)) (dgl w j)) (by omega) (by omega))) (fun i hi => ?_) (fun x hx => ?_)
      · rw [hu', show ((P : Int) - 1 - ((j + 1 : Nat) : Int)) = (P : Int) - 1 - j + -1 by omega] at this
        exact this
      · by_cases e : i = j
        · rw [e, st2_s]
        · rw [st2_n (by omega)]; exact hv i (by omega)
      · rw [st2_n (by omega)]; exact ho x hx
theorem c_write {w : Nat} (h9 : S 10 9 = (P : Int)) (hP : P ≤ 4) (hm : m < 8) (hw : w < 81) : AMv 0 yX0_write cX0_write 5 [.inr (.inr 53), .inl (m : Int), .inl (w : Int)] S (wrt m P w S) := by
  refine amv_intro (L := [_, _, _, none, none]) (by decide) rfl (Nat.le_of_ble_eq_true rfl) (fun X C hret => ?_)
  refine aw_ildn (n := 1) C dX0_write_0 rfl rfl ?_
  refine aw_istn (n := 2) (L' := [_, _, _, _, _]) C dX0_write_1 rfl (by decide) rfl rfl ?_
  refine aw_aldn (n := 3) C dX0_write_2 rfl rfl ?_
  refine aw_getR (n := 6) C dX0_write_3 rfl fl_X0_36 rfl rfl ?_
  refine aw_getI (z := 9) (n := 9) C dX0_write_6 rfl fl_X0_40 rfl rfl rfl ?_
  rw [h9]
  refine aw_iconst (n := 10) C dX0_write_9 rfl ?_
  refine aw_isub (n := 11) C dX0_write_10 rfl ?_
  refine aw_istw (n := 13) (L' := [_, _, _, _, _]) C dX0_write_11 rfl (by decide) rfl rfl ?_
  have := c_write_loop h9 hP hm hw C hret (fun S' h => h) P 0 S (by omega) (fr_rf _ _ _) (fun i hi => by omega) (fun _ _ => rfl)
  rw [show w / 3 ^ 0 = w from Nat.div_one w, show ((P : Int) - 1 - ((0 : Nat) : Int)) = (P : Int) - 1 by omega] at this
  exact this
end EZ3
