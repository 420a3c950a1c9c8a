/-! Ease: weighing, looking back, choosing -/
theorem k8 {m : Nat} (h : m < 8) : m = 0 ∨ m = 1 ∨ m = 2 ∨ m = 3 ∨ m = 4 ∨ m = 5 ∨ m = 6 ∨ m = 7 := by omega
theorem ef {m : Nat} (h : m < 8) : shf 54 m = some (55 + m) := by rcases k8 h with rfl | rfl | rfl | rfl | rfl | rfl | rfl | rfl <;> rfl
theorem ek {m : Nat} (h : m < 8) : shk (55 + m) = .inr (0, 81) := by rcases k8 h with rfl | rfl | rfl | rfl | rfl | rfl | rfl | rfl <;> rfl
theorem lwm_r (P : Nat) (se : Fn) (du : Int → Int → Int) (m w : Nat) (hP : P ≤ 4) (hd : ∀ m p, 0 ≤ du m p ∧ du m p ≤ 2) : (0 ≤ lwm P se du m w ∧ lwm P se du m w ≤ 8) ∨ lwm P se du m w = 10000 := by
  unfold lwm lwF
  by_cases h : okl w (fun j => du m ((P : Int) - 1 - j)) se P
  · rw [ifp_t h]
    have := lws_r (w := w) (f := fun j => du m ((P : Int) - 1 - j)) (fun j => hd _ _) P h.1
    omega
  · rw [ifp_f h]
    exact Or.inr rfl
/-- only the row of the mile and the counter have changed -/
def wgf (m : Nat) (S S' : Mem) : Prop := ∀ c, c ≠ 55 + m → c ≠ 64 → S' c = S c
theorem c_weigh_loop {X : AMX} {S : Mem} {M P m : Nat} {post : Int → Mem → Prop} (E : EW S M P) (hm : m < M) (h4 : S 53 4 = ((3 ^ P : Nat) : Int)) (hb : ∀ w : Nat, w < 3 ^ P → 0 ≤ S 63 w ∧ S 63 w ≤ 20000) (C : CX X 2 RX0 cX0_weigh 5) (hret : ∀ (pc : Nat) (L : List (Option AV)) (z : Int) (S' : Mem), decode cX0_weigh pc = .ok (.ireturn, 1) → ((some FieldType.boolean) = some .int ∨ ((some FieldType.boolean) = some .boolean ∧ (z = 0 ∨ z = 1))) → post z S' → AW X cX0_weigh 5 pc L [.inl z] S') (hp : ∀ z S', wgf m S S' → (∀ w : Nat, w < 3 ^ P → S' (55 + m) w = min 10000 (lwm P (S 11) (duC S) m w + S 63 w)) → (z = 0 ∨ z = 1) → (z = 1 ↔ ∃ w, w < 3 ^ P ∧ lwm P (S 11) (duC S) m w < 10000) → post z S') : ∀ (r w : Nat) (S1 : Mem) (z : Int) (x : Option AV), w + r = 3 ^ P → wgf m S S1 → (∀ v : Nat, v < w → S1 (55 + m) v = min 10000 (lwm P (S 11) (duC S) m v + S 63 v)) → (z = 0 ∨ z = 1) → (z = 1 ↔ ∃ v, v < w ∧ lwm P (S 11) (duC S) m v < 10000) → AW X cX0_weigh 5 4 [some (.inr (.inr 53)), some (.inl m), some (.inl z), some (.inl w), x] [] S1 := by
  obtain ⟨e1, e2, e3, e4, e5, e6, e7, e8⟩ := id E
  have h81 := p3_81 P e4
  intro r
  induction r with
  | zero =>
    intro w S1 z x hw hf hv hz hz2
    have s4 : S1 53 4 = ((3 ^ P : Nat) : Int) := by rw [hf 53 (by omega) (by omega)]; exact h4
    refine aw_ildn (n := 5) C dX0_weigh_4 rfl rfl ?_
    refine aw_aldn (n := 6) C dX0_weigh_5 rfl rfl ?_
    refine aw_getI (z := 4) (n := 9) C dX0_weigh_6 rfl fl_X0_23 rfl rfl rfl ?_
    refine aw_icge (tgt := 67) (n := 12) C dX0_weigh_9 rfl rfl (by omega) (by omega) (fun h_9 => ?_) (fun h_9 => ?_)
    · refine aw_ildn (n := 68) C dX0_weigh_67 rfl rfl ?_
      refine hret 68 _ _ _ dX0_weigh_68 (Or.inr ⟨rfl, hz⟩) ?_
      rw [show w = 3 ^ P by omega] at hv hz2
      exact hp z S1 hf hv hz hz2
    · omega
  | succ r ih =>
    intro w S1 z x hw hf hv hz hz2
    have s4 : S1 53 4 = ((3 ^ P : Nat) : Int) := by rw [hf 53 (by omega) (by omega)]; exact h4
    have lo : ∀ c, c < 28 → S1 c = S c := fun c hc => hf c (by omega) (by omega)
    have E1 := EW_fr E lo
    have hlr := lwm_r P (S 11) (duC S) m w e4 (duC_r S)
    have hbw := hb w (by omega)
    refine aw_ildn (n := 5) C dX0_weigh_4 rfl rfl ?_
    refine aw_aldn (n := 6) C dX0_weigh_5 rfl rfl ?_
    refine aw_getI (z := 4) (n := 9) C dX0_weigh_6 rfl fl_X0_23 rfl rfl rfl ?_
    refine aw_icge (tgt := 67) (n := 12) C dX0_weigh_9 rfl rfl (by omega) (by omega) (fun h_9 => ?_) (fun h_9 => ?_)
    · omega
    · refine aw_aldn (n := 13) C dX0_weigh_12 rfl rfl ?_
      refine aw_ildn (n := 14) C dX0_weigh_13 rfl rfl ?_
      refine aw_ildn (n := 15) C dX0_weigh_14 rfl rfl ?_
      refine aw_cVi (n := 18) (vs := [_, _]) C dX0_weigh_15 rfl rfl rfl mm_X0_lowIn wM_X0_65 rfl rfl (Nat.le_of_ble_eq_true rfl) (c_lowIn E1 hm (by omega)) (by decide) (fun z_15 S_15 q_15 => ?_)
      obtain ⟨g1, g2⟩ := q_15
      rw [duC_lo lo, lo 11 (by omega)] at g1
      have f63 : S_15 63 = S 63 := by rw [g2 63 (by omega), hf 63 (by omega) (by omega)]
      have hf2 : wgf m S S_15 := fun c c1 c2 => by rw [g2 c (by omega), hf c c1 c2]
      have hv2 : ∀ v : Nat, v < w → S_15 (55 + m) v = min 10000 (lwm P (S 11) (duC S) m v + S 63 v) := fun v hh => by rw [g2 (55 + m) (by omega)]; exact hv v hh
      rw [g1]
      clear g1
      refine aw_istw (n := 20) (L' := [_, _, _, _, _]) C dX0_weigh_18 rfl (by decide) rfl rfl ?_
      refine aw_ildn (n := 21) C dX0_weigh_20 rfl rfl ?_
      refine aw_ifne (tgt := 32) (n := 24) C dX0_weigh_21 rfl rfl (by omega) (fun h_21 => ?_) (fun h_21 => ?_)
      · refine aw_iconst (n := 33) C dX0_weigh_32 rfl ?_
        refine aw_goto (tgt := 37) C dX0_weigh_33 rfl ?_
        refine aw_istn (n := 38) (L' := [_, _, _, _, _]) C dX0_weigh_37 rfl (by decide) rfl rfl ?_
        refine aw_aldn (n := 39) C dX0_weigh_38 rfl rfl ?_
        refine aw_getR (n := 42) C dX0_weigh_39 rfl fl_X0_13 rfl rfl ?_
        refine aw_ildn (n := 43) C dX0_weigh_42 rfl rfl ?_
        refine aw_aald (j := m) (n := 44) C dX0_weigh_43 rfl rfl (by decide) rfl (by omega) (ef (by omega)) ?_
        refine aw_ildn (n := 45) C dX0_weigh_44 rfl rfl ?_
        refine aw_sipush (n := 48) C dX0_weigh_45 rfl rfl ?_
        refine aw_ildw (n := 50) C dX0_weigh_48 rfl rfl ?_
        refine aw_aldn (n := 51) C dX0_weigh_50 rfl rfl ?_
        refine aw_getR (n := 54) C dX0_weigh_51 rfl fl_X0_16 rfl rfl ?_
        refine aw_ildn (n := 55) C dX0_weigh_54 rfl rfl ?_
        refine aw_iald (n := 56) C dX0_weigh_55 rfl rfl (by omega) (by omega) ?_
        rw [f63]
        refine aw_iadd (n := 57) C dX0_weigh_56 rfl ?_
        refine aw_mmin (n := 60) C dX0_weigh_57 rfl wM_X0_69 wS_yJ9_min_7cf53 wI_J9 wC_yJ9_min_7cf53 (by decide) (Nat.le_of_ble_eq_true rfl) (by omega) (by omega) ?_
        refine aw_iast (n := 61) C dX0_weigh_60 rfl (ek (by omega)) (by omega) (by omega) ?_
        refine aw_iinc (n := 64) (L' := [_, _, _, _, _]) C dX0_weigh_61 rfl rfl (by decide) rfl rfl ?_
        refine aw_goto (tgt := 4) C dX0_weigh_64 rfl ?_
        refine ih (w + 1) _ _ _ (by omega) (fun c c1 c2 => by rw [st2_o c c1]; exact hf2 c c1 c2) (fun v hh => ?_) (by omega) ?_
        · by_cases e : v = w
          · rw [e, st2_s]
          · rw [st2_n (by omega)]; exact hv2 v (by omega)
        · constructor
          · intro h
            first | (exfalso; omega) | exact ⟨w, by omega, by omega⟩ | (obtain ⟨v, v1, v2⟩ := hz2.mp (by omega); exact ⟨v, by omega, v2⟩)
          · rintro ⟨v, v1, v2⟩
            by_cases e : v = w
            · first | rfl | (rw [e] at v2; omega)
            · have := hz2.mpr ⟨v, by omega, v2⟩
              omega
      · refine aw_ildw (n := 26) C dX0_weigh_24 rfl rfl ?_
        refine aw_sipush (n := 29) C dX0_weigh_26 rfl rfl ?_
        refine aw_icge (tgt := 36) (n := 32) C dX0_weigh_29 rfl rfl (by omega) (by omega) (fun h_29 => ?_) (fun h_29 => ?_)
        · refine aw_iconst (n := 37) C dX0_weigh_36 rfl ?_
          refine aw_istn (n := 38) (L' := [_, _, _, _, _]) C dX0_weigh_37 rfl (by decide) rfl rfl ?_
          refine aw_aldn (n := 39) C dX0_weigh_38 rfl rfl ?_
          refine aw_getR (n := 42) C dX0_weigh_39 rfl fl_X0_13 rfl rfl ?_
          refine aw_ildn (n := 43) C dX0_weigh_42 rfl rfl ?_
          refine aw_aald (j := m) (n := 44) C dX0_weigh_43 rfl rfl (by decide) rfl (by omega) (ef (by omega)) ?_
          refine aw_ildn (n := 45) C dX0_weigh_44 rfl rfl ?_
          refine aw_sipush (n := 48) C dX0_weigh_45 rfl rfl ?_
          refine aw_ildw (n := 50) C dX0_weigh_48 rfl rfl ?_
          refine aw_aldn (n := 51) C dX0_weigh_50 rfl rfl ?_
          refine aw_getR (n := 54) C dX0_weigh_51 rfl fl_X0_16 rfl rfl ?_
          refine aw_ildn (n := 55) C dX0_weigh_54 rfl rfl ?_
          refine aw_iald (n := 56) C dX0_weigh_55 rfl rfl (by omega) (by omega) ?_
          rw [f63]
          refine aw_iadd (n := 57) C dX0_weigh_56 rfl ?_
          refine aw_mmin (n := 60) C dX0_weigh_57 rfl wM_X0_69 wS_yJ9_min_7cf53 wI_J9 wC_yJ9_min_7cf53 (by decide) (Nat.le_of_ble_eq_true rfl) (by omega) (by omega) ?_
          refine aw_iast (n := 61) C dX0_weigh_60 rfl (ek (by omega)) (by omega) (by omega) ?_
          refine aw_iinc (n := 64) (L' := [_, _, _, _, _]) C dX0_weigh_61 rfl rfl (by decide) rfl rfl ?_
          refine aw_goto (tgt := 4) C dX0_weigh_64 rfl ?_
          refine ih (w + 1) _ _ _ (by omega) (fun c c1 c2 => by rw [st2_o c c1]; exact hf2 c c1 c2) (fun v hh => ?_) (by omega) ?_
          · by_cases e : v = w
            · rw [e, st2_s]
            · rw [st2_n (by omega)]; exact hv2 v (by omega)
          · constructor
            · intro h
              first | (exfalso; omega) | exact ⟨w, by omega, by omega⟩ | (obtain ⟨v, v1, v2⟩ := hz2.mp (by omega); exact ⟨v, by omega, v2⟩)
            · rintro ⟨v, v1, v2⟩
              by_cases e : v = w
              · first | rfl | (rw [e] at v2; omega)
              · have := hz2.mpr ⟨v, by omega, v2⟩
                omega
        · refine aw_iconst (n := 33) C dX0_weigh_32 rfl ?_
          refine aw_goto (tgt := 37) C dX0_weigh_33 rfl ?_
          refine aw_istn (n := 38) (L' := [_, _, _, _, _]) C dX0_weigh_37 rfl (by decide) rfl rfl ?_
          refine aw_aldn (n := 39) C dX0_weigh_38 rfl rfl ?_
          refine aw_getR (n := 42) C dX0_weigh_39 rfl fl_X0_13 rfl rfl ?_
          refine aw_ildn (n := 43) C dX0_weigh_42 rfl rfl ?_
          refine aw_aald (j := m) (n := 44) C dX0_weigh_43 rfl rfl (by decide) rfl (by omega) (ef (by omega)) ?_
          refine aw_ildn (n := 45) C dX0_weigh_44 rfl rfl ?_
          refine aw_sipush (n := 48) C dX0_weigh_45 rfl rfl ?_
          refine aw_ildw (n := 50) C dX0_weigh_48 rfl rfl ?_
          refine aw_aldn (n := 51) C dX0_weigh_50 rfl rfl ?_
          refine aw_getR (n := 54) C dX0_weigh_51 rfl fl_X0_16 rfl rfl ?_
          refine aw_ildn (n := 55) C dX0_weigh_54 rfl rfl ?_
          refine aw_iald (n := 56) C dX0_weigh_55 rfl rfl (by omega) (by omega) ?_
          rw [f63]
          refine aw_iadd (n := 57) C dX0_weigh_56 rfl ?_
          refine aw_mmin (n := 60) C dX0_weigh_57 rfl wM_X0_69 wS_yJ9_min_7cf53 wI_J9 wC_yJ9_min_7cf53 (by decide) (Nat.le_of_ble_eq_true rfl) (by omega) (by omega) ?_
          refine aw_iast (n := 61) C dX0_weigh_60 rfl (ek (by omega)) (by omega) (by omega) ?_
          refine aw_iinc (n := 64) (L' := [_, _, _, _, _]) C dX0_weigh_61 rfl rfl (by decide) rfl rfl ?_
          refine aw_goto (tgt := 4) C dX0_weigh_64 rfl ?_
          refine ih (w + 1) _ _ _ (by omega) (fun c c1 c2 => by rw [st2_o c c1]; exact hf2 c c1 c2) (fun v hh => ?_) (by omega) ?_
          · by_cases e : v = w
            · rw [e, st2_s]
            · rw [st2_n (by omega)]; exact hv2 v (by omega)
          · constructor
            · intro h
              first | (exfalso; omega) | exact ⟨w, by omega, by omega⟩ | (obtain ⟨v, v1, v2⟩ := hz2.mp (by omega); exact ⟨v, by omega, v2⟩)
            · rintro ⟨v, v1, v2⟩
              by_cases e : v = w
              · first | rfl | (rw [e] at v2; omega)
              · have := hz2.mpr ⟨v, by omega, v2⟩
                omega
theorem c_weigh {S : Mem} {M P m : Nat} (E : EW S M P) (hm : m < M) (h4 : S 53 4 = ((3 ^ P : Nat) : Int)) (hb : ∀ w : Nat, w < 3 ^ P → 0 ≤ S 63 w ∧ S 63 w ≤ 20000) : AMi 2 yX0_weigh cX0_weigh 5 (some .boolean) [.inr (.inr 53), .inl (m : Int)] S (fun z S' => wgf m S S' ∧ (∀ w : Nat, w < 3 ^ P → S' (55 + m) w = min 10000 (lwm P (S 11) (duC S) m w + S 63 w)) ∧ (z = 0 ∨ z = 1) ∧ (z = 1 ↔ ∃ w, w < 3 ^ P ∧ lwm P (S 11) (duC S) m w < 10000)) := by
  refine ami_intro (L := [_, _, none, none, none]) (by decide) (Or.inr rfl) rfl (Nat.le_of_ble_eq_true rfl) (fun X C hret => ?_)
  refine aw_iconst (n := 1) C dX0_weigh_0 rfl ?_
  refine aw_istn (n := 2) (L' := [_, _, _, _, _]) C dX0_weigh_1 rfl (by decide) rfl rfl ?_
  refine aw_iconst (n := 3) C dX0_weigh_2 rfl ?_
  refine aw_istn (n := 4) (L' := [_, _, _, _, _]) C dX0_weigh_3 rfl (by decide) rfl rfl ?_
  exact c_weigh_loop E hm h4 hb C hret (fun z S' a b c d => ⟨a, b, c, d⟩) (3 ^ P) 0 S 0 none (by omega) (fun _ _ _ => rfl) (fun v h => by omega) (Or.inl rfl) ⟨fun h => by omega, fun ⟨v, h, _⟩ => by omega⟩
theorem c_letChange {S : Mem} {a b c : Nat} (ha : a < 81) (hb : b < 81) (hc : c < 81) (hab : a ≠ b) (hac : a ≠ c) (hbc : b ≠ c) (ra : 0 ≤ S 63 a ∧ S 63 a ≤ 20000) (rb : 0 ≤ S 63 b ∧ S 63 b ≤ 20000) (rc : 0 ≤ S 63 c ∧ S 63 c ≤ 20000) : AMv 1 yX0_letChange cX0_letChange 5 [.inr (.inr 53), .inl (a : Int), .inl (b : Int), .inl (c : Int)] S (fun S' => fr 63 64 S S' ∧ S' 63 a = min (S 63 a) (min (S 63 a) (min (S 63 b) (S 63 c)) + 1) ∧ S' 63 b = min (S 63 b) (min (S 63 a) (min (S 63 b) (S 63 c)) + 1) ∧ S' 63 c = min (S 63 c) (min (S 63 a) (min (S 63 b) (S 63 c)) + 1) ∧ ∀ x : Nat, x ≠ a → x ≠ b → x ≠ c → S' 63 x = S 63 x) := by
  refine amv_intro (L := [_, _, _, _, none]) (by decide) rfl (Nat.le_of_ble_eq_true rfl) (fun X C hret => ?_)
  refine aw_aldn (n := 1) C dX0_letChange_0 rfl rfl ?_
  refine aw_getR (n := 4) C dX0_letChange_1 rfl fl_X0_16 rfl rfl ?_
  refine aw_ildn (n := 5) C dX0_letChange_4 rfl rfl ?_
  refine aw_iald (n := 6) C dX0_letChange_5 rfl rfl (by omega) (by omega) ?_
  refine aw_aldn (n := 7) C dX0_letChange_6 rfl rfl ?_
  refine aw_getR (n := 10) C dX0_letChange_7 rfl fl_X0_16 rfl rfl ?_
  refine aw_ildn (n := 11) C dX0_letChange_10 rfl rfl ?_
  refine aw_iald (n := 12) C dX0_letChange_11 rfl rfl (by omega) (by omega) ?_
  refine aw_aldn (n := 13) C dX0_letChange_12 rfl rfl ?_
  refine aw_getR (n := 16) C dX0_letChange_13 rfl fl_X0_16 rfl rfl ?_
  refine aw_ildn (n := 17) C dX0_letChange_16 rfl rfl ?_
  refine aw_iald (n := 18) C dX0_letChange_17 rfl rfl (by omega) (by omega) ?_
  refine aw_mmin (n := 21) C dX0_letChange_18 rfl wM_X0_69 wS_yJ9_min_7cf53 wI_J9 wC_yJ9_min_7cf53 (by decide) (Nat.le_of_ble_eq_true rfl) (by omega) (by omega) ?_
  refine aw_mmin (n := 24) C dX0_letChange_21 rfl wM_X0_69 wS_yJ9_min_7cf53 wI_J9 wC_yJ9_min_7cf53 (by decide) (Nat.le_of_ble_eq_true rfl) (by omega) (by omega) ?_
  refine aw_iconst (n := 25) C dX0_letChange_24 rfl ?_
  refine aw_iadd (n := 26) C dX0_letChange_25 rfl ?_
  obtain ⟨d, hd⟩ : ∃ d : Int, min (S 63 a) (min (S 63 b) (S 63 c)) + 1 = d := ⟨_, rfl⟩
  rw [hd] at hret ⊢
  have dr : rng d := by omega
  refine aw_istw (n := 28) (L' := [_, _, _, _, _]) C dX0_letChange_26 rfl (by decide) rfl rfl ?_
  refine aw_aldn (n := 29) C dX0_letChange_28 rfl rfl ?_
  refine aw_getR (n := 32) C dX0_letChange_29 rfl fl_X0_16 rfl rfl ?_
  refine aw_ildn (n := 33) C dX0_letChange_32 rfl rfl ?_
  refine aw_aldn (n := 34) C dX0_letChange_33 rfl rfl ?_
  refine aw_getR (n := 37) C dX0_letChange_34 rfl fl_X0_16 rfl rfl ?_
  refine aw_ildn (n := 38) C dX0_letChange_37 rfl rfl ?_
  refine aw_iald (n := 39) C dX0_letChange_38 rfl rfl (by omega) (by omega) ?_
  refine aw_ildw (n := 41) C dX0_letChange_39 rfl rfl ?_
  refine aw_mmin (n := 44) C dX0_letChange_41 rfl wM_X0_69 wS_yJ9_min_7cf53 wI_J9 wC_yJ9_min_7cf53 (by decide) (Nat.le_of_ble_eq_true rfl) (by omega) (by omega) ?_
  refine aw_iast (n := 45) C dX0_letChange_44 rfl rfl (by omega) (by omega) ?_
  refine aw_aldn (n := 46) C dX0_letChange_45 rfl rfl ?_
  refine aw_getR (n := 49) C dX0_letChange_46 rfl fl_X0_16 rfl rfl ?_
  refine aw_ildn (n := 50) C dX0_letChange_49 rfl rfl ?_
  refine aw_aldn (n := 51) C dX0_letChange_50 rfl rfl ?_
  refine aw_getR (n := 54) C dX0_letChange_51 rfl fl_X0_16 rfl rfl ?_
  refine aw_ildn (n := 55) C dX0_letChange_54 rfl rfl ?_
  refine aw_iald (n := 56) C dX0_letChange_55 rfl rfl (by omega) (by omega) ?_
  refine aw_ildw (n := 58) C dX0_letChange_56 rfl rfl ?_
  rw [st2_n (show ((b : Nat) : Int) ≠ (a : Int) by omega)]
  refine aw_mmin (n := 61) C dX0_letChange_58 rfl wM_X0_69 wS_yJ9_min_7cf53 wI_J9 wC_yJ9_min_7cf53 (by decide) (Nat.le_of_ble_eq_true rfl) (by omega) (by omega) ?_
  refine aw_iast (n := 62) C dX0_letChange_61 rfl rfl (by omega) (by omega) ?_
  refine aw_aldn (n := 63) C dX0_letChange_62 rfl rfl ?_
  refine aw_getR (n := 66) C dX0_letChange_63 rfl fl_X0_16 rfl rfl ?_
  refine aw_ildn (n := 67) C dX0_letChange_66 rfl rfl ?_
  refine aw_aldn (n := 68) C dX0_letChange_67 rfl rfl ?_
  refine aw_getR (n := 71) C dX0_letChange_68 rfl fl_X0_16 rfl rfl ?_
  refine aw_ildn (n := 72) C dX0_letChange_71 rfl rfl ?_
  refine aw_iald (n := 73) C dX0_letChange_72 rfl rfl (by omega) (by omega) ?_
  refine aw_ildw (n := 75) C dX0_letChange_73 rfl rfl ?_
  rw [st2_n (show ((c : Nat) : Int) ≠ (b : Int) by omega), st2_n (show ((c : Nat) : Int) ≠ (a : Int) by omega)]
  refine aw_mmin (n := 78) C dX0_letChange_75 rfl wM_X0_69 wS_yJ9_min_7cf53 wI_J9 wC_yJ9_min_7cf53 (by decide) (Nat.le_of_ble_eq_true rfl) (by omega) (by omega) ?_
  refine aw_iast (n := 79) C dX0_letChange_78 rfl rfl (by omega) (by omega) ?_
  refine hret 79 _ _ dX0_letChange_79 ?_
  refine ⟨fr_tr (fr_tr (fr_st _ _ _ _) (fr_st _ _ _ _)) (fr_st _ _ _ _), ?_, ?_, ?_, fun x h1 h2 h3 => ?_⟩
  · rw [st2_n (by omega), st2_n (by omega), st2_s]
  · rw [st2_n (by omega), st2_s]
  · rw [st2_s]
  · rw [st2_n (by omega), st2_n (by omega), st2_n (by omega)]
theorem p3_pos (j : Nat) : 0 < 3 ^ j := Nat.pow_pos (by decide)
theorem dst_same : ∀ w, w < 81 → ∀ j, j < 4 → ∀ v, v < 3 → ∀ u, u < 3 → dst (dst w j v) j u = dst w j u := by decide +kernel
theorem dst_0 : ∀ w, w < 81 → ∀ j, j < 4 → dgl w j = 0 → dst w j 0 = w ∧ dst w j 1 = w + 3 ^ j ∧ dst w j 2 = w + 2 * 3 ^ j := by decide +kernel
theorem dst_le : ∀ w, w < 81 → ∀ j, j < 4 → dst w j 0 ≤ w := by decide +kernel
theorem dst_z : ∀ w, w < 81 → ∀ j, j < 4 → dgl (dst w j 0) j = 0 := by decide +kernel
theorem bst_r {f : Nat → Int} {P : Nat} (hP : P ≤ 4) (hf : ∀ v, v < 3 ^ P → 0 ≤ f v ∧ f v ≤ 10000) : ∀ (j w : Nat), j ≤ P → w < 3 ^ P → 0 ≤ bst f j w ∧ bst f j w ≤ 10000
  | 0, w, _, hw => hf w hw
  | j + 1, w, hj, hw => by
    have h1 := bst_r hP hf j w (by omega) hw
    have h2 := bst_r hP hf j (dst w j 0) (by omega) (dst_lt P hP w hw j (by omega) 0 (by omega))
    have h3 := bst_r hP hf j (dst w j 1) (by omega) (dst_lt P hP w hw j (by omega) 1 (by omega))
    have h4 := bst_r hP hf j (dst w j 2) (by omega) (dst_lt P hP w hw j (by omega) 2 (by omega))
    show 0 ≤ min _ _ ∧ min _ _ ≤ 10000
    omega
section LB
variable {X : AMX} {S : Mem} {P m : Nat} {post : Mem → Prop}
/-- digit j is being let change: rows whose base is below w are done -/
def lbi (f : Nat → Int) (P j w : Nat) (S1 : Mem) : Prop := ∀ x : Nat, x < 3 ^ P → S1 63 x = if dst x j 0 < w then bst f (j + 1) x else bst f j x
theorem lbi_keep {f : Nat → Int} {j w : Nat} {S1 : Mem} (hP : P ≤ 4) (hj : j < P) (hw : ¬ dgl w j = 0) (hi : lbi f P j w S1) : lbi f P j (w + 1) S1 := by
  have h81 := p3_81 P hP
  intro x hx
  rw [hi x hx]
  have hne : dst x j 0 ≠ w := fun hh => by
    have := dst_z x (by omega) j (by omega)
    rw [hh] at this
    omega
  by_cases e3 : dst x j 0 < w
  · rw [if_pos e3, if_pos (by omega)]
  · rw [if_neg e3, if_neg (by omega)]
theorem lbi_step {f : Nat → Int} {j w u : Nat} {S1 S2 : Mem} (hP : P ≤ 4) (hj : j < P) (hw : w < 3 ^ P) (hu : 3 ^ j = u) (z0 : dgl w j = 0) (hi : lbi f P j w S1) (g1 : S2 63 w = min (bst f j w) (min (bst f j w) (min (bst f j (w + u)) (bst f j (w + 2 * u))) + 1)) (g2 : S2 63 ((w + u : Nat) : Int) = min (bst f j (w + u)) (min (bst f j w) (min (bst f j (w + u)) (bst f j (w + 2 * u))) + 1)) (g3 : S2 63 ((w + 2 * u : Nat) : Int) = min (bst f j (w + 2 * u)) (min (bst f j w) (min (bst f j (w + u)) (bst f j (w + 2 * u))) + 1)) (g4 : ∀ x : Nat, x ≠ w → x ≠ w + u → x ≠ w + 2 * u → S2 63 x = S1 63 x) : lbi f P j (w + 1) S2 := by
  have h81 := p3_81 P hP
  obtain ⟨b0, b1, b2⟩ := dst_0 w (by omega) j (by omega) z0
  rw [hu] at b1 b2
  have y1 : dst (w + u) j 0 = w := by rw [← b1, dst_same w (by omega) j (by omega) 1 (by omega) 0 (by omega), b0]
  have y2 : dst (w + 2 * u) j 0 = w := by rw [← b2, dst_same w (by omega) j (by omega) 2 (by omega) 0 (by omega), b0]
  have y11 : dst (w + u) j 1 = w + u := by rw [← b1, dst_same w (by omega) j (by omega) 1 (by omega) 1 (by omega)]
  have y12 : dst (w + u) j 2 = w + 2 * u := by rw [← b1, dst_same w (by omega) j (by omega) 1 (by omega) 2 (by omega), b2]
  have y21 : dst (w + 2 * u) j 1 = w + u := by rw [← b2, dst_same w (by omega) j (by omega) 2 (by omega) 1 (by omega), b1]
  have y22 : dst (w + 2 * u) j 2 = w + 2 * u := by rw [← b2, dst_same w (by omega) j (by omega) 2 (by omega) 2 (by omega)]
  intro x hx
  by_cases e0 : x = w
  · rw [e0, b0, if_pos (by omega), g1]
    show _ = min _ (min (bst f j (dst w j 0)) (min (bst f j (dst w j 1)) (bst f j (dst w j 2))) + 1)
    rw [b0, b1, b2]
  by_cases e1 : x = w + u
  · rw [e1, y1, if_pos (by omega), g2]
    show _ = min _ (min (bst f j (dst (w + u) j 0)) (min (bst f j (dst (w + u) j 1)) (bst f j (dst (w + u) j 2))) + 1)
    rw [y1, y11, y12]
  by_cases e2 : x = w + 2 * u
  · rw [e2, y2, if_pos (by omega), g3]
    show _ = min _ (min (bst f j (dst (w + 2 * u) j 0)) (min (bst f j (dst (w + 2 * u) j 1)) (bst f j (dst (w + 2 * u) j 2))) + 1)
    rw [y2, y21, y22]
  rw [g4 x e0 e1 e2, hi x hx]
  have hne : dst x j 0 ≠ w := fun hh => by
    have hx0 := dst_id x (by omega) j (by omega)
    have hx3 := dgl_lt x j
    rcases (show dgl x j = 0 ∨ dgl x j = 1 ∨ dgl x j = 2 by omega) with t | t | t
    · rw [t, hh] at hx0; omega
    · have := dst_same x (by omega) j (by omega) 0 (by omega) 1 (by omega)
      rw [hh, b1] at this
      rw [t] at hx0
      omega
    · have := dst_same x (by omega) j (by omega) 0 (by omega) 2 (by omega)
      rw [hh, b2] at this
      rw [t] at hx0
      omega
  by_cases e3 : dst x j 0 < w
  · rw [if_pos e3, if_pos (by omega)]
  · rw [if_neg e3, if_neg (by omega)]
theorem c_lb_in {j : Nat} {f : Nat → Int} (hP : P ≤ 4) (hj : j < P) (hf : ∀ v, v < 3 ^ P → 0 ≤ f v ∧ f v ≤ 10000) (h4 : S 53 4 = ((3 ^ P : Nat) : Int)) (C : CX X 2 RX0 cX0_lookBack 4) (k : ∀ S' x, fr 63 64 S S' → (∀ x : Nat, x < 3 ^ P → S' 63 x = bst f (j + 1) x) → AW X cX0_lookBack 4 66 [some (.inr (.inr 53)), some (.inl m), some (.inl ((3 ^ j : Nat) : Int)), x] [] S') : ∀ (r w : Nat) (S1 : Mem), w + r = 3 ^ P → fr 63 64 S S1 → lbi f P j w S1 → AW X cX0_lookBack 4 31 [some (.inr (.inr 53)), some (.inl m), some (.inl ((3 ^ j : Nat) : Int)), some (.inl w)] [] S1 := by
  have h81 := p3_81 P hP
  have hpj := p3_pos j
  have hpjP : 3 ^ j ≤ 3 ^ P := Nat.pow_le_pow_right (by decide) (by omega)
  intro r
  induction r with
  | zero =>
    intro w S1 hw hfr hi
    have s4 : S1 53 4 = ((3 ^ P : Nat) : Int) := by rw [hfr 53 (by omega)]; exact h4
    refine aw_ildn (n := 32) C dX0_lookBack_31 rfl rfl ?_
    refine aw_aldn (n := 33) C dX0_lookBack_32 rfl rfl ?_
    refine aw_getI (z := 4) (n := 36) C dX0_lookBack_33 rfl fl_X0_23 rfl rfl rfl ?_
    refine aw_icge (tgt := 66) (n := 39) C dX0_lookBack_36 rfl rfl (by omega) (by omega) (fun h_36 => ?_) (fun h_36 => ?_)
    · refine k S1 _ hfr (fun x hx => ?_)
      have := hi x hx
      rw [if_pos (by have := dst_le x (by omega) j (by omega); omega)] at this
      exact this
    · omega
  | succ r ih =>
    intro w S1 hw hfr hi
    have s4 : S1 53 4 = ((3 ^ P : Nat) : Int) := by rw [hfr 53 (by omega)]; exact h4
    obtain ⟨u, hu⟩ : ∃ u : Nat, 3 ^ j = u := ⟨_, rfl⟩
    have hdw : ((w : Int) / (u : Int)) % 3 = (dgl w j : Int) := by rw [← hu, ← Int.natCast_ediv]; exact (Int.natCast_emod _ _).symm
    have hdl := dgl_lt w j
    have hq0 : 0 ≤ (w : Int) / (u : Int) := by rw [← Int.natCast_ediv]; exact Int.natCast_nonneg _
    have hq1 : (w : Int) / (u : Int) ≤ 81 := by have h9 : w / u ≤ 81 := Nat.le_trans (Nat.div_le_self w u) (by omega); rw [← Int.natCast_ediv]; omega
    rw [hu] at hpj hpjP ih ⊢
    refine aw_ildn (n := 32) C dX0_lookBack_31 rfl rfl ?_
    refine aw_aldn (n := 33) C dX0_lookBack_32 rfl rfl ?_
    refine aw_getI (z := 4) (n := 36) C dX0_lookBack_33 rfl fl_X0_23 rfl rfl rfl ?_
    refine aw_icge (tgt := 66) (n := 39) C dX0_lookBack_36 rfl rfl (by omega) (by omega) (fun h_36 => ?_) (fun h_36 => ?_)
    · omega
    · refine aw_ildn (n := 40) C dX0_lookBack_39 rfl rfl ?_
      refine aw_ildn (n := 41) C dX0_lookBack_40 rfl rfl ?_
      refine aw_idiv (n := 42) C dX0_lookBack_41 rfl (by omega) (by omega) ?_
      refine aw_iconst (n := 43) C dX0_lookBack_42 rfl ?_
      refine aw_irem (n := 44) C dX0_lookBack_43 rfl (by omega) (by omega) ?_
      rw [hdw]
      refine aw_ifne (tgt := 60) (n := 47) C dX0_lookBack_44 rfl rfl (by omega) (fun h_44 => ?_) (fun h_44 => ?_)
      · refine aw_iinc (n := 63) (L' := [_, _, _, _]) C dX0_lookBack_60 rfl rfl (by decide) rfl rfl ?_
        refine aw_goto (tgt := 31) C dX0_lookBack_63 rfl ?_
        first | exact ih (w + 1) _ (by omega) (fr_tr hfr g0) (lbi_step hP hj (by omega) hu z0 hi g1 g2 g3 g4) | exact ih (w + 1) _ (by omega) hfr (lbi_keep hP hj (by omega) hi)
      · refine aw_aldn (n := 48) C dX0_lookBack_47 rfl rfl ?_
        refine aw_ildn (n := 49) C dX0_lookBack_48 rfl rfl ?_
        refine aw_ildn (n := 50) C dX0_lookBack_49 rfl rfl ?_
        refine aw_ildn (n := 51) C dX0_lookBack_50 rfl rfl ?_
        refine aw_iadd (n := 52) C dX0_lookBack_51 rfl ?_
        refine aw_ildn (n := 53) C dX0_lookBack_52 rfl rfl ?_
        refine aw_iconst (n := 54) C dX0_lookBack_53 rfl ?_
        refine aw_ildn (n := 55) C dX0_lookBack_54 rfl rfl ?_
        refine aw_imul (n := 56) C dX0_lookBack_55 rfl ?_
        refine aw_iadd (n := 57) C dX0_lookBack_56 rfl ?_
        have z0 : dgl w j = 0 := by omega
        obtain ⟨b0, b1, b2⟩ := dst_0 w (by omega) j (by omega) z0
        have l1 := dst_lt P hP w (by omega) j hj 1 (by omega)
        have l2 := dst_lt P hP w (by omega) j hj 2 (by omega)
        rw [hu] at b1 b2
        have v0 := hi w (by omega)
        have v1 := hi (w + u) (by omega)
        have v2 := hi (w + 2 * u) (by omega)
        have y1 : dst (w + u) j 0 = w := by rw [← b1, dst_same w (by omega) j (by omega) 1 (by omega) 0 (by omega), b0]
        have y2 : dst (w + 2 * u) j 0 = w := by rw [← b2, dst_same w (by omega) j (by omega) 2 (by omega) 0 (by omega), b0]
        rw [b0, if_neg (by omega)] at v0
        rw [y1, if_neg (by omega)] at v1
        rw [y2, if_neg (by omega)] at v2
        have r0 := bst_r hP hf j w (by omega) (by omega)
        have r1 := bst_r hP hf j (w + u) (by omega) (by omega)
        have r2 := bst_r hP hf j (w + 2 * u) (by omega) (by omega)
        rw [show (w : Int) + (u : Int) = ((w + u : Nat) : Int) by omega, show (w : Int) + 2 * (u : Int) = ((w + 2 * u : Nat) : Int) by omega]
        refine aw_cVv (n := 60) (vs := [_, _, _]) C dX0_lookBack_57 rfl rfl rfl mm_X0_letChange wM_X0_86 rfl rfl (Nat.le_of_ble_eq_true rfl) (c_letChange (a := w) (b := w + u) (c := w + 2 * u) (by omega) (by omega) (by omega) (by omega) (by omega) (by omega) (by omega) (by omega) (by omega)) (by decide) (fun S_57 q_57 => ?_)
        obtain ⟨g0, g1, g2, g3, g4⟩ := q_57
        rw [v0, v1, v2] at g1 g2 g3
        refine aw_iinc (n := 63) (L' := [_, _, _, _]) C dX0_lookBack_60 rfl rfl (by decide) rfl rfl ?_
        refine aw_goto (tgt := 31) C dX0_lookBack_63 rfl ?_
        first | exact ih (w + 1) _ (by omega) (fr_tr hfr g0) (lbi_step hP hj (by omega) hu z0 hi g1 g2 g3 g4) | exact ih (w + 1) _ (by omega) hfr (lbi_keep hP hj (by omega) hi)
theorem c_lb_out {f : Nat → Int} (hP : P ≤ 4) (hf : ∀ v, v < 3 ^ P → 0 ≤ f v ∧ f v ≤ 10000) (h4 : S 53 4 = ((3 ^ P : Nat) : Int)) (C : CX X 2 RX0 cX0_lookBack 4) (hret : ∀ (pc : Nat) (L : List (Option AV)) (S' : Mem), decode cX0_lookBack pc = .ok (.return_, 1) → post S' → AW X cX0_lookBack 4 pc L [] S') (hp : ∀ S', fr 63 64 S S' → (∀ x : Nat, x < 3 ^ P → S' 63 x = bst f P x) → post S') : ∀ (r j : Nat) (S1 : Mem) (y : Option AV), j + r = P → fr 63 64 S S1 → (∀ x : Nat, x < 3 ^ P → S1 63 x = bst f j x) → AW X cX0_lookBack 4 21 [some (.inr (.inr 53)), some (.inl m), some (.inl ((3 ^ j : Nat) : Int)), y] [] S1 := by
  have h81 := p3_81 P hP
  intro r
  induction r with
  | zero =>
    intro j S1 y hj hfr hv
    obtain rfl : j = P := by omega
    have s4 : S1 53 4 = ((3 ^ j : Nat) : Int) := by rw [hfr 53 (by omega)]; exact h4
    obtain ⟨U, hU⟩ : ∃ u : Nat, 3 ^ j = u := ⟨_, rfl⟩
    rw [hU] at s4 h81 ⊢
    refine aw_ildn (n := 22) C dX0_lookBack_21 rfl rfl ?_
    refine aw_aldn (n := 23) C dX0_lookBack_22 rfl rfl ?_
    refine aw_getI (z := 4) (n := 26) C dX0_lookBack_23 rfl fl_X0_23 rfl rfl rfl ?_
    refine aw_icge (tgt := 73) (n := 29) C dX0_lookBack_26 rfl rfl (by omega) (by omega) (fun h_26 => ?_) (fun h_26 => ?_)
    · refine hret 73 _ _ dX0_lookBack_73 ?_
      exact hp S1 hfr hv
    · omega
  | succ r ih =>
    intro j S1 y hj hfr hv
    have s4 : S1 53 4 = ((3 ^ P : Nat) : Int) := by rw [hfr 53 (by omega)]; exact h4
    have hlt : 3 ^ j < 3 ^ P := Nat.pow_lt_pow_right (by decide) (by omega)
    have e3 : 3 ^ (j + 1) = 3 ^ j * 3 := Nat.pow_succ ..
    have k66 : ∀ S' x, fr 63 64 S S' → (∀ x : Nat, x < 3 ^ P → S' 63 x = bst f (j + 1) x) → AW X cX0_lookBack 4 66 [some (.inr (.inr 53)), some (.inl m), some (.inl ((3 ^ j : Nat) : Int)), x] [] S' := by
      intro S' x hfr' hv'
      refine aw_ildn (n := 67) C dX0_lookBack_66 rfl rfl ?_
      refine aw_iconst (n := 68) C dX0_lookBack_67 rfl ?_
      refine aw_imul (n := 69) C dX0_lookBack_68 rfl ?_
      refine aw_istn (n := 70) (L' := [_, _, _, _]) C dX0_lookBack_69 rfl (by decide) rfl rfl ?_
      refine aw_goto (tgt := 21) C dX0_lookBack_70 rfl ?_
      have := ih (j + 1) S' x (by omega) hfr' hv'
      rw [e3, Int.natCast_mul] at this
      exact this
    obtain ⟨u, hu⟩ : ∃ u : Nat, 3 ^ j = u := ⟨_, rfl⟩
    obtain ⟨U, hU⟩ : ∃ u : Nat, 3 ^ P = u := ⟨_, rfl⟩
    rw [hu] at hlt ⊢
    rw [hU] at s4 hlt h81
    refine aw_ildn (n := 22) C dX0_lookBack_21 rfl rfl ?_
    refine aw_aldn (n := 23) C dX0_lookBack_22 rfl rfl ?_
    refine aw_getI (z := 4) (n := 26) C dX0_lookBack_23 rfl fl_X0_23 rfl rfl rfl ?_
    refine aw_icge (tgt := 73) (n := 29) C dX0_lookBack_26 rfl rfl (by omega) (by omega) (fun h_26 => ?_) (fun h_26 => ?_)
    · omega
    · refine aw_iconst (n := 30) C dX0_lookBack_29 rfl ?_
      refine aw_istn (n := 31) (L' := [_, _, _, _]) C dX0_lookBack_30 rfl (by decide) rfl rfl ?_
      rw [← hu]
      exact c_lb_in (j := j) hP (by omega) hf h4 C k66 (3 ^ P) 0 S1 (by omega) hfr (fun x hx => by rw [if_neg (by omega)]; exact hv x hx)
theorem c_lookBack {S : Mem} {P m : Nat} (hm : m < 8) (hP : P ≤ 4) (hf : ∀ v : Nat, v < 3 ^ P → 0 ≤ S (55 + m) v ∧ S (55 + m) v ≤ 10000) (h4 : S 53 4 = ((3 ^ P : Nat) : Int)) : AMv 2 yX0_lookBack cX0_lookBack 4 [.inr (.inr 53), .inl (m : Int)] S (fun S' => fr 63 64 S S' ∧ ∀ x : Nat, x < 3 ^ P → S' 63 x = bst (fun v => S (55 + m) v) P x) := by
  have h81 := p3_81 P hP
  obtain ⟨U, hU⟩ : ∃ u : Nat, 3 ^ P = u := ⟨_, rfl⟩
  have h4' := h4
  rw [hU] at h4' h81
  refine amv_intro (L := [_, _, none, none]) (by decide) rfl (Nat.le_of_ble_eq_true rfl) (fun X C hret => ?_)
  refine aw_aldn (n := 1) C dX0_lookBack_0 rfl rfl ?_
  refine aw_getR (n := 4) C dX0_lookBack_1 rfl fl_X0_13 rfl rfl ?_
  refine aw_ildn (n := 5) C dX0_lookBack_4 rfl rfl ?_
  refine aw_aald (j := m) (n := 6) C dX0_lookBack_5 rfl rfl (by decide) rfl (by omega) (ef hm) ?_
  refine aw_iconst (n := 7) C dX0_lookBack_6 rfl ?_
  refine aw_aldn (n := 8) C dX0_lookBack_7 rfl rfl ?_
  refine aw_getR (n := 11) C dX0_lookBack_8 rfl fl_X0_16 rfl rfl ?_
  refine aw_iconst (n := 12) C dX0_lookBack_11 rfl ?_
  refine aw_aldn (n := 13) C dX0_lookBack_12 rfl rfl ?_
  refine aw_getI (z := 4) (n := 16) C dX0_lookBack_13 rfl fl_X0_23 rfl rfl rfl ?_
  refine aw_copy (n := 19) C dX0_lookBack_16 rfl wM_X0_80 wNat wS_arraycopyName wI_J10 (by decide) (Nat.le_of_ble_eq_true rfl) (ek hm) rfl (by decide) (by decide) (by omega) (by omega) (by omega) (by omega) (by omega) ?_
  rw [h4']
  generalize hS1 : cp2 S (55 + m) 0 63 0 (U : Int) = S1
  have f1 : fr 63 64 S S1 := fun c hc => by rw [← hS1]; exact funext fun i => if_neg (fun q => by omega)
  have v1 : ∀ x : Nat, x < 3 ^ P → S1 63 x = S (55 + m) x := fun x hx => by rw [hU] at hx; rw [← hS1]; unfold cp2; rw [if_pos ⟨rfl, by omega, by omega⟩]; congr 1; omega
  refine aw_iconst (n := 20) C dX0_lookBack_19 rfl ?_
  refine aw_istn (n := 21) (L' := [_, _, _, _]) C dX0_lookBack_20 rfl (by decide) rfl rfl ?_
  exact c_lb_out (f := fun v => S (55 + m) v) hP hf h4 C hret (fun S' a b => ⟨a, b⟩) P 0 S1 none (by omega) f1 v1
end LB
