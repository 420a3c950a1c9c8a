/-! Ease: digits, low, changes -/
theorem div3 (a j : Nat) : a / 3 ^ j / 3 = a / 3 ^ (j + 1) := by rw [Nat.div_div_eq_div_mul, Nat.pow_succ]
theorem c_cb_loop {X : AMX} {S : Mem} {a b : Nat} {post : Int → Mem → Prop} (ha : a < 81) (hb : b < 81) (C : CX X 0 RX0 cX0_changesBetween 6) (hret : ∀ (pc : Nat) (L : List (Option AV)) (z : Int) (S' : Mem), decode cX0_changesBetween pc = .ok (.ireturn, 1) → ((some FieldType.int) = some .int ∨ ((some FieldType.int) = some .boolean ∧ (z = 0 ∨ z = 1))) → post z S' → AW X cX0_changesBetween 6 pc L [.inl z] S') (hp : post (chl a b 4) S) : ∀ (r j : Nat), j + r = 4 → AW X cX0_changesBetween 6 10 [some (.inl a), some (.inl b), some (.inl (chl a b j)), some (.inl ((a / 3 ^ j : Nat) : Int)), some (.inl ((b / 3 ^ j : Nat) : Int)), some (.inl j)] [] S := by
  intro r
  induction r with
  | zero =>
    intro j hj
    obtain rfl : j = 4 := by omega
    refine aw_ildw (n := 12) C dX0_changesBetween_10 rfl rfl ?_
    refine aw_iconst (n := 13) C dX0_changesBetween_12 rfl ?_
    refine aw_icge (tgt := 45) (n := 16) C dX0_changesBetween_13 rfl rfl (by omega) (by omega) (fun h_13 => ?_) (fun h_13 => ?_)
    · refine aw_ildn (n := 46) C dX0_changesBetween_45 rfl rfl ?_
      refine hret 46 _ _ _ dX0_changesBetween_46 (Or.inl rfl) ?_
      exact hp
    · omega
  | succ r ih =>
    intro j hj
    have ea := div3 a j
    have eb := div3 b j
    have la : a / 3 ^ j ≤ a := Nat.div_le_self _ _
    have lb : b / 3 ^ j ≤ b := Nat.div_le_self _ _
    have da : dgl a j = a / 3 ^ j % 3 := rfl
    have db : dgl b j = b / 3 ^ j % 3 := rfl
    have es := chl_s a b j
    obtain ⟨u, hu⟩ : ∃ u : Nat, a / 3 ^ j = u := ⟨_, rfl⟩
    obtain ⟨u', hu'⟩ : ∃ u : Nat, a / 3 ^ (j + 1) = u := ⟨_, rfl⟩
    obtain ⟨v, hv⟩ : ∃ u : Nat, b / 3 ^ j = u := ⟨_, rfl⟩
    obtain ⟨v', hv'⟩ : ∃ u : Nat, b / 3 ^ (j + 1) = u := ⟨_, rfl⟩
    rw [hu] at ea la da ⊢
    rw [hv] at eb lb db ⊢
    rw [hu'] at ea
    rw [hv'] at eb
    have xa : (u : Int) / 3 = (u' : Int) := by omega
    have xb : (v : Int) / 3 = (v' : Int) := by omega
    refine aw_ildw (n := 12) C dX0_changesBetween_10 rfl rfl ?_
    refine aw_iconst (n := 13) C dX0_changesBetween_12 rfl ?_
    refine aw_icge (tgt := 45) (n := 16) C dX0_changesBetween_13 rfl rfl (by omega) (by omega) (fun h_13 => ?_) (fun h_13 => ?_)
    · omega
    · refine aw_ildn (n := 17) C dX0_changesBetween_16 rfl rfl ?_
      refine aw_iconst (n := 18) C dX0_changesBetween_17 rfl ?_
      refine aw_irem (n := 19) C dX0_changesBetween_18 rfl (by omega) (by omega) ?_
      refine aw_ildw (n := 21) C dX0_changesBetween_19 rfl rfl ?_
      refine aw_iconst (n := 22) C dX0_changesBetween_21 rfl ?_
      refine aw_irem (n := 23) C dX0_changesBetween_22 rfl (by omega) (by omega) ?_
      refine aw_iceq (tgt := 29) (n := 26) C dX0_changesBetween_23 rfl rfl (by omega) (by omega) (fun h_23 => ?_) (fun h_23 => ?_)
      · refine aw_ildn (n := 30) C dX0_changesBetween_29 rfl rfl ?_
        refine aw_iconst (n := 31) C dX0_changesBetween_30 rfl ?_
        refine aw_idiv (n := 32) C dX0_changesBetween_31 rfl (by omega) (by omega) ?_
        refine aw_istn (n := 33) (L' := [_, _, _, _, _, _]) C dX0_changesBetween_32 rfl (by decide) rfl rfl ?_
        refine aw_ildw (n := 35) C dX0_changesBetween_33 rfl rfl ?_
        refine aw_iconst (n := 36) C dX0_changesBetween_35 rfl ?_
        refine aw_idiv (n := 37) C dX0_changesBetween_36 rfl (by omega) (by omega) ?_
        refine aw_istw (n := 39) (L' := [_, _, _, _, _, _]) C dX0_changesBetween_37 rfl (by decide) rfl rfl ?_
        refine aw_iinc (n := 42) (L' := [_, _, _, _, _, _]) C dX0_changesBetween_39 rfl rfl (by decide) rfl rfl ?_
        refine aw_goto (tgt := 10) C dX0_changesBetween_42 rfl ?_
        have := ih (j + 1) (by omega)
        rw [es, hu', hv', ← xa, ← xb] at this
        first | (rw [if_pos (by omega), Int.add_zero] at this; exact this) | (rw [if_neg (by omega)] at this; exact this)
      · refine aw_iinc (n := 29) (L' := [_, _, _, _, _, _]) C dX0_changesBetween_26 rfl rfl (by decide) rfl rfl ?_
        refine aw_ildn (n := 30) C dX0_changesBetween_29 rfl rfl ?_
        refine aw_iconst (n := 31) C dX0_changesBetween_30 rfl ?_
        refine aw_idiv (n := 32) C dX0_changesBetween_31 rfl (by omega) (by omega) ?_
        refine aw_istn (n := 33) (L' := [_, _, _, _, _, _]) C dX0_changesBetween_32 rfl (by decide) rfl rfl ?_
        refine aw_ildw (n := 35) C dX0_changesBetween_33 rfl rfl ?_
        refine aw_iconst (n := 36) C dX0_changesBetween_35 rfl ?_
        refine aw_idiv (n := 37) C dX0_changesBetween_36 rfl (by omega) (by omega) ?_
        refine aw_istw (n := 39) (L' := [_, _, _, _, _, _]) C dX0_changesBetween_37 rfl (by decide) rfl rfl ?_
        refine aw_iinc (n := 42) (L' := [_, _, _, _, _, _]) C dX0_changesBetween_39 rfl rfl (by decide) rfl rfl ?_
        refine aw_goto (tgt := 10) C dX0_changesBetween_42 rfl ?_
        have := ih (j + 1) (by omega)
        rw [es, hu', hv', ← xa, ← xb] at this
        first | (rw [if_pos (by omega), Int.add_zero] at this; exact this) | (rw [if_neg (by omega)] at this; exact this)
theorem c_changesBetween {S : Mem} {a b : Nat} (ha : a < 81) (hb : b < 81) : AMi 0 yX0_changesBetween cX0_changesBetween 6 (some .int) [.inl (a : Int), .inl (b : Int)] S (fun z S' => z = chl a b 4 ∧ S' = S) := by
  refine ami_intro (L := [_, _, none, none, none, none]) (by decide) (Or.inl rfl) rfl (Nat.le_of_ble_eq_true rfl) (fun X C hret => ?_)
  refine aw_iconst (n := 1) C dX0_changesBetween_0 rfl ?_
  refine aw_istn (n := 2) (L' := [_, _, _, _, _, _]) C dX0_changesBetween_1 rfl (by decide) rfl rfl ?_
  refine aw_ildn (n := 3) C dX0_changesBetween_2 rfl rfl ?_
  refine aw_istn (n := 4) (L' := [_, _, _, _, _, _]) C dX0_changesBetween_3 rfl (by decide) rfl rfl ?_
  refine aw_ildn (n := 5) C dX0_changesBetween_4 rfl rfl ?_
  refine aw_istw (n := 7) (L' := [_, _, _, _, _, _]) C dX0_changesBetween_5 rfl (by decide) rfl rfl ?_
  refine aw_iconst (n := 8) C dX0_changesBetween_7 rfl ?_
  refine aw_istw (n := 10) (L' := [_, _, _, _, _, _]) C dX0_changesBetween_8 rfl (by decide) rfl rfl ?_
  have := c_cb_loop ha hb C hret ⟨rfl, rfl⟩ 4 0 (by omega)
  rw [show a / 3 ^ 0 = a from Nat.div_one a, show b / 3 ^ 0 = b from Nat.div_one b] at this
  exact this
/-- what the seeking rests on -/
def EW (S : Mem) (M P : Nat) : Prop := S 10 8 = (M : Int) ∧ S 10 9 = (P : Int) ∧ M ≤ 8 ∧ P ≤ 4 ∧ rng (S 10 10) ∧ rng (S 10 11) ∧ (∀ m : Nat, m ≤ M → ∀ p, 0 ≤ p → p < S 10 9 → rng (S (19 + m) p)) ∧ (∀ c, 0 ≤ c → c < 3 → 0 ≤ S 11 c ∧ S 11 c ≤ 4)
theorem EW_fr {S S' : Mem} {M P : Nat} (h : EW S M P) (hf : ∀ c, c < 28 → S' c = S c) : EW S' M P := by
  obtain ⟨h1, h2, h3, h4, h5, h6, h7, h8⟩ := h
  unfold EW
  rw [hf 10 (by omega), hf 11 (by omega)]
  exact ⟨h1, h2, h3, h4, h5, h6, fun m hm p p0 p1 => by rw [hf (19 + m) (by omega)]; exact h7 m hm p p0 p1, h8⟩
theorem duC_lo {S S' : Mem} (hf : ∀ c, c < 28 → S' c = S c) : duC S' = duC S := by
  funext m p
  unfold duC
  rw [hf 10 (by omega), hf (19 + (min m 8).toNat) (by omega)]
theorem duC_r (S : Mem) (m p : Int) : 0 ≤ duC S m p ∧ duC S m p ≤ 2 := due_r _ _ _
theorem c_low_loop {X : AMX} {S : Mem} {M P m w : Nat} {post : Int → Mem → Prop} (E : EW S M P) (hm : m < M) (hw : w < 3 ^ P) (C : CX X 1 RX0 cX0_lowIn 8) (hret : ∀ (pc : Nat) (L : List (Option AV)) (z : Int) (S' : Mem), decode cX0_lowIn pc = .ok (.ireturn, 1) → ((some FieldType.int) = some .int ∨ ((some FieldType.int) = some .boolean ∧ (z = 0 ∨ z = 1))) → post z S' → AW X cX0_lowIn 8 pc L [.inl z] S') (hp : ∀ S', fr 64 65 S S' → post (lwm P (S 11) (duC S) m w) S') : ∀ (r j : Nat) (S1 : Mem) (x y : Option AV), j + r = P → fr 64 65 S S1 → (∀ c, 0 ≤ c → c < 3 → S1 64 c = ctl w c j) → okl w (fun j => duC S m ((P : Int) - 1 - j)) (S 11) j → AW X cX0_lowIn 8 24 [some (.inr (.inr 53)), some (.inl m), some (.inl w), some (.inl (lws w (fun j => duC S m ((P : Int) - 1 - j)) j)), some (.inl ((w / 3 ^ j : Nat) : Int)), some (.inl ((P : Int) - 1 - j)), x, y] [] S1 := by
  obtain ⟨e1, e2, e3, e4, e5, e6, e7, e8⟩ := id E
  have h81 := p3_81 P e4
  intro r
  induction r with
  | zero =>
    intro j S1 x y hj hf hv hok
    obtain rfl : j = P := by omega
    refine aw_ildw (n := 26) C dX0_lowIn_24 rfl rfl ?_
    refine aw_iflt (tgt := 107) (n := 29) C dX0_lowIn_26 rfl rfl (by omega) (fun h_26 => ?_) (fun h_26 => ?_)
    · refine aw_ildn (n := 108) C dX0_lowIn_107 rfl rfl ?_
      refine hret 108 _ _ _ dX0_lowIn_108 (Or.inl rfl) ?_
      have := hp S1 hf
      unfold lwm lwF at this
      rw [ifp_t hok] at this
      exact this
    · omega
  | succ r ih =>
    intro j S1 x y hj hf hv hok
    have ea := div3 w j
    have la : w / 3 ^ j ≤ w := Nat.div_le_self _ _
    have dw : dgl w j = w / 3 ^ j % 3 := rfl
    have dl := dgl_lt w j
    obtain ⟨u, hu⟩ : ∃ u : Nat, w / 3 ^ j = u := ⟨_, rfl⟩
    obtain ⟨u', hu'⟩ : ∃ u : Nat, w / 3 ^ (j + 1) = u := ⟨_, rfl⟩
    rw [hu] at ea la dw ⊢
    rw [hu'] at ea
    have xw : (u : Int) / 3 = (u' : Int) := by omega
    have xm : (u : Int) % 3 = (dgl w j : Int) := by omega
    have v64 := hv (dgl w j) (by omega) (by omega)
    have cr := ctl_r w (dgl w j) j
    have cs := ctl_s w (dgl w j) j
    rw [if_pos rfl] at cs
    have f11 : S1 11 = S 11 := hf 11 (by omega)
    have f10 : S1 10 = S 10 := hf 10 (by omega)
    have hse := e8 (dgl w j) (by omega) (by omega)
    generalize hS2 : st2 S1 64 (dgl w j) (S1 64 (dgl w j) + 1) = S2
    have hf2 : fr 64 65 S S2 := by rw [← hS2]; exact fr_tr hf (fr_w (fr_st _ _ _ _) (by omega) (by omega))
    have s10 : S2 10 = S 10 := hf2 10 (by omega)
    have s11 : S2 11 = S 11 := hf2 11 (by omega)
    have srow : S2 (19 + m) = S (19 + m) := hf2 (19 + m) (by omega)
    have s64 : S2 64 (dgl w j) = ctl w (dgl w j) (j + 1) := by rw [← hS2, st2_s, v64, cs]
    have hdu : due (S2 10 10) (S2 10 11) (S2 (19 + m) ((P : Int) - 1 - j)) = duC S m ((P : Int) - 1 - j) := by rw [s10, srow, duC_n S (by omega)]
    have hdr := duC_r S m ((P : Int) - 1 - j)
    have hrr := e7 m (by omega) ((P : Int) - 1 - j) (by omega) (by omega)
    refine aw_ildw (n := 26) C dX0_lowIn_24 rfl rfl ?_
    refine aw_iflt (tgt := 107) (n := 29) C dX0_lowIn_26 rfl rfl (by omega) (fun h_26 => ?_) (fun h_26 => ?_)
    · omega
    · refine aw_ildw (n := 31) C dX0_lowIn_29 rfl rfl ?_
      refine aw_iconst (n := 32) C dX0_lowIn_31 rfl ?_
      refine aw_irem (n := 33) C dX0_lowIn_32 rfl (by omega) (by omega) ?_
      rw [xm]
      refine aw_istw (n := 35) (L' := [_, _, _, _, _, _, _, _]) C dX0_lowIn_33 rfl (by decide) rfl rfl ?_
      refine aw_ildw (n := 37) C dX0_lowIn_35 rfl rfl ?_
      refine aw_iconst (n := 38) C dX0_lowIn_37 rfl ?_
      refine aw_idiv (n := 39) C dX0_lowIn_38 rfl (by omega) (by omega) ?_
      rw [xw]
      refine aw_istw (n := 41) (L' := [_, _, _, _, _, _, _, _]) C dX0_lowIn_39 rfl (by decide) rfl rfl ?_
      refine aw_aldn (n := 42) C dX0_lowIn_41 rfl rfl ?_
      refine aw_getR (n := 45) C dX0_lowIn_42 rfl fl_X0_20 rfl rfl ?_
      refine aw_ildw (n := 47) C dX0_lowIn_45 rfl rfl ?_
      refine aw_dup2 (n := 48) C dX0_lowIn_47 rfl rfl rfl ?_
      refine aw_iald (n := 49) C dX0_lowIn_48 rfl rfl (by omega) (by omega) ?_
      refine aw_iconst (n := 50) C dX0_lowIn_49 rfl ?_
      refine aw_iadd (n := 51) C dX0_lowIn_50 rfl ?_
      refine aw_iast (n := 52) C dX0_lowIn_51 rfl rfl (by omega) (by omega) ?_
      rw [hS2]
      refine aw_ildw (n := 54) C dX0_lowIn_52 rfl rfl ?_
      refine aw_aldn (n := 55) C dX0_lowIn_54 rfl rfl ?_
      refine aw_getR (n := 58) C dX0_lowIn_55 rfl fl_X0_36 rfl rfl ?_
      refine aw_ildw (n := 60) C dX0_lowIn_58 rfl rfl ?_
      refine aw_ildn (n := 61) C dX0_lowIn_60 rfl rfl ?_
      refine aw_cVi (n := 64) (vs := [_, _]) C dX0_lowIn_61 rfl rfl rfl mm_X5_classDue wM_X0_74 rfl rfl (Nat.le_of_ble_eq_true rfl) (c_classDue10 (m := m) (by omega) (by omega) (by omega) (by rw [srow]; exact hrr) (by rw [s10]; exact e5) (by rw [s10]; exact e6)) (by decide) (fun z_61 S_61 q_61 => ?_)
      rw [q_61.1, q_61.2]
      clear q_61 S_61 z_61
      rw [hdu]
      refine aw_isub (n := 65) C dX0_lowIn_64 rfl ?_
      refine aw_istw (n := 67) (L' := [_, _, _, _, _, _, _, _]) C dX0_lowIn_65 rfl (by decide) rfl rfl ?_
      refine aw_ildw (n := 69) C dX0_lowIn_67 rfl rfl ?_
      refine aw_iflt (tgt := 92) (n := 72) C dX0_lowIn_69 rfl rfl (by omega) (fun h_69 => ?_) (fun h_69 => ?_)
      · refine aw_sipush (n := 95) C dX0_lowIn_92 rfl rfl ?_
        refine hret 95 _ _ _ dX0_lowIn_95 (Or.inl rfl) ?_
        have := hp S2 hf2
        unfold lwm lwF at this
        rw [ifp_f (fun h => by
          have h1 := h.1 j (by omega)
          have h2 := (okl_mono (n := j + 1) (by omega) h).2 (dgl w j) (by omega) (by omega)
          dsimp only at h1
          omega)] at this
        exact this
      · refine aw_aldn (n := 73) C dX0_lowIn_72 rfl rfl ?_
        refine aw_getR (n := 76) C dX0_lowIn_73 rfl fl_X0_20 rfl rfl ?_
        refine aw_ildw (n := 78) C dX0_lowIn_76 rfl rfl ?_
        refine aw_iald (n := 79) C dX0_lowIn_78 rfl rfl (by omega) (by omega) ?_
        refine aw_aldn (n := 80) C dX0_lowIn_79 rfl rfl ?_
        refine aw_getR (n := 83) C dX0_lowIn_80 rfl fl_X0_36 rfl rfl ?_
        refine aw_getR (n := 86) C dX0_lowIn_83 rfl fl_X0_77 rfl rfl ?_
        refine aw_ildw (n := 88) C dX0_lowIn_86 rfl rfl ?_
        refine aw_iald (n := 89) C dX0_lowIn_88 rfl rfl (by omega) (by omega) ?_
        rw [s64, s11]
        refine aw_icle (tgt := 96) (n := 92) C dX0_lowIn_89 rfl rfl (by omega) (by omega) (fun h_89 => ?_) (fun h_89 => ?_)
        · refine aw_ildn (n := 97) C dX0_lowIn_96 rfl rfl ?_
          refine aw_ildw (n := 99) C dX0_lowIn_97 rfl rfl ?_
          refine aw_iadd (n := 100) C dX0_lowIn_99 rfl ?_
          refine aw_istn (n := 101) (L' := [_, _, _, _, _, _, _, _]) C dX0_lowIn_100 rfl (by decide) rfl rfl ?_
          refine aw_iinc (n := 104) (L' := [_, _, _, _, _, _, _, _]) C dX0_lowIn_101 rfl rfl (by decide) rfl rfl ?_
          refine aw_goto (tgt := 24) C dX0_lowIn_104 rfl ?_
          have := ih (j + 1) S2 (some (.inl (dgl w j : Int))) (some (.inl ((dgl w j : Int) - duC S m ((P : Int) - 1 - j)))) (by omega) hf2 (fun c c0 c1 => ?_) ⟨fun i hi => ?_, fun c c0 c1 => ?_⟩
          · rw [lws_s, hu', show ((P : Int) - 1 - ((j + 1 : Nat) : Int)) = (P : Int) - 1 - j + -1 by omega] at this
            exact this
          · by_cases e : c = (dgl w j : Int)
            · rw [e]; exact s64
            · rw [← hS2, st2_n e, ctl_s, if_neg (fun q => e q.symm), Int.add_zero]; exact hv c c0 c1
          · by_cases e : i = j
            · rw [e]; dsimp only; omega
            · exact hok.1 i (by omega)
          · by_cases e : c = (dgl w j : Int)
            · rw [e]; omega
            · rw [ctl_s, if_neg (fun q => e q.symm), Int.add_zero]; exact hok.2 c c0 c1
        · refine aw_sipush (n := 95) C dX0_lowIn_92 rfl rfl ?_
          refine hret 95 _ _ _ dX0_lowIn_95 (Or.inl rfl) ?_
          have := hp S2 hf2
          unfold lwm lwF at this
          rw [ifp_f (fun h => by
            have h1 := h.1 j (by omega)
            have h2 := (okl_mono (n := j + 1) (by omega) h).2 (dgl w j) (by omega) (by omega)
            dsimp only at h1
            omega)] at this
          exact this
theorem c_lowIn {S : Mem} {M P m w : Nat} (E : EW S M P) (hm : m < M) (hw : w < 3 ^ P) : AMi 1 yX0_lowIn cX0_lowIn 8 (some .int) [.inr (.inr 53), .inl (m : Int), .inl (w : Int)] S (fun z S' => z = lwm P (S 11) (duC S) m w ∧ fr 64 65 S S') := by
  obtain ⟨e1, e2, e3, e4, e5, e6, e7, e8⟩ := id E
  refine ami_intro (L := [_, _, _, none, none, none, none, none]) (by decide) (Or.inl rfl) rfl (Nat.le_of_ble_eq_true rfl) (fun X C hret => ?_)
  refine aw_iconst (n := 1) C dX0_lowIn_0 rfl ?_
  refine aw_istn (n := 2) (L' := [_, _, _, _, _, _, _, _]) C dX0_lowIn_1 rfl (by decide) rfl rfl ?_
  refine aw_ildn (n := 3) C dX0_lowIn_2 rfl rfl ?_
  refine aw_istw (n := 5) (L' := [_, _, _, _, _, _, _, _]) C dX0_lowIn_3 rfl (by decide) rfl rfl ?_
  refine aw_aldn (n := 6) C dX0_lowIn_5 rfl rfl ?_
  refine aw_getR (n := 9) C dX0_lowIn_6 rfl fl_X0_20 rfl rfl ?_
  refine aw_iconst (n := 10) C dX0_lowIn_9 rfl ?_
  refine aw_cSv (n := 13) (vs := [_, _]) C dX0_lowIn_10 rfl rfl rfl mm_J7_fill_53178 wM_X0_45 (Nat.le_of_ble_eq_true rfl) (c_fill (n := 3) rfl (by decide)) (by decide) (fun S_10 q_10 => ?_)
  rw [q_10]
  clear q_10 S_10
  refine aw_aldn (n := 14) C dX0_lowIn_13 rfl rfl ?_
  refine aw_getR (n := 17) C dX0_lowIn_14 rfl fl_X0_36 rfl rfl ?_
  refine aw_getI (z := 9) (n := 20) C dX0_lowIn_17 rfl fl_X0_40 rfl rfl rfl ?_
  rw [show fl2 S 64 ((3 : Nat) : Int) 0 10 9 = S 10 9 from rfl, e2]
  refine aw_iconst (n := 21) C dX0_lowIn_20 rfl ?_
  refine aw_isub (n := 22) C dX0_lowIn_21 rfl ?_
  refine aw_istw (n := 24) (L' := [_, _, _, _, _, _, _, _]) C dX0_lowIn_22 rfl (by decide) rfl rfl ?_
  have := c_low_loop E hm hw C hret (fun S' h => ⟨rfl, h⟩) P 0 (fl2 S 64 3 0) none none (by omega) (fun c hc => funext fun i => if_neg (fun q => by omega)) (fun c c0 c1 => if_pos ⟨rfl, c0, c1⟩) ⟨fun j hj => by omega, fun c c0 c1 => (e8 c c0 c1).1⟩
  rw [show w / 3 ^ 0 = w from Nat.div_one w, show ((P : Int) - 1 - ((0 : Nat) : Int)) = (P : Int) - 1 by omega] at this
  exact this
