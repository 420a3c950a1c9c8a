/-! the model: ease, stuck -/
section MEC
variable {X : AMX} {S : Mem} {M P : Nat} {du : Int → Int → Int}
/-- what a change from the row ahead costs -/
def AH (P : Nat) (ah : Int) (g : Nat → Int) : Prop := (ah = -9 ∧ ∀ v, g v = 0) ∨ (∃ a : Nat, a < 81 ∧ ah = (a : Int) ∧ ∀ v, g v = chl a v P)
theorem d_br_loop {post : Int → Mem → Prop} {m : Nat} {ah : Int} {g : Nat → Int} {se : Fn} (E : EM S M P du) (hm : m < M) (hA : AH P ah g) (hT : TB S M P se du 0) (C : CX X 2 RX7 cX7_bestRow 8) (hret : ∀ (pc : Nat) (L : List (Option AV)) (z : Int) (S' : Mem), decode cX7_bestRow pc = .ok (.ireturn, 1) → ((some FieldType.int) = some .int ∨ ((some FieldType.int) = some .boolean ∧ (z = 0 ∨ z = 1))) → post z S' → AW X cX7_bestRow 8 pc L [.inl z] S') (hp : ∀ b l, fsS (fun v => tgF M P se du m v + g v) (3 ^ P) b l → post b S) : ∀ (r v : Nat) (b l : Int) (x : Option AV), v + r = 3 ^ P → fsS (fun v => tgF M P se du m v + g v) v b l → AW X cX7_bestRow 8 11 [some (.inr (.inr 66)), some (.inl (m : Int)), some (.inl ah), some (.inl ((3 ^ P : Nat) : Int)), some (.inl b), some (.inl l), some (.inl v), x] [] S := by
  obtain ⟨e1, e2, e3, e4, e5, e6, e7, e8⟩ := id E
  have h81 := p3_81 P e4.2
  have har : -9 ≤ ah ∧ ah < 81 := by
    rcases hA with h | ⟨a, h1, h2, -⟩
    · omega
    · omega
  intro r
  induction r with
  | zero =>
    intro v b l x hv hb
    obtain rfl : v = 3 ^ P := by omega
    have hp2 := hp b l hb
    clear hp
    generalize hU : 3 ^ P = U at *
    refine aw_ildw (n := 13) C dX7_bestRow_11 rfl rfl ?_
    refine aw_ildn (n := 14) C dX7_bestRow_13 rfl rfl ?_
    refine aw_icge (tgt := 88) (n := 17) C dX7_bestRow_14 rfl rfl (by omega) (by omega) (fun h_14 => ?_) (fun h_14 => ?_)
    · refine aw_ildw (n := 90) C dX7_bestRow_88 rfl rfl ?_
      refine hret 90 _ _ _ dX7_bestRow_90 (Or.inl rfl) ?_
      exact hp2
    · omega
  | succ r ih =>
    intro v b l x hv hb
    have hvU : v < 3 ^ P := by omega
    have tv := hT m (by omega) hm v hvU
    have tb := tgF_b (M := M) (se := se) e4.2 e3 e8 m v hvU
    have ts := sent_ne tb
    have hg : 0 ≤ g v ∧ g v ≤ 4 := by
      rcases hA with h | ⟨a, -, -, h3⟩
      · rw [h.2 v]; omega
      · rw [h3 v]; have := chl_r a v P; omega
    have hbr : (-9 ≤ b ∧ b ≤ 81) ∧ -9 ≤ l ∧ l ≤ 200 := by rcases hb with h | ⟨h1, h2, h3, h4, -⟩ <;> omega
    have ih2 := fun b l x => ih (v + 1) b l x (by omega)
    have go1 : tgF M P se du m v = 10000 → fsS (fun v => tgF M P se du m v + g v) (v + 1) b l := fun h => fsS_no hb (by show 10000 ≤ tgF M P se du m v + g v; omega)
    have go2 := fun (h : tgF M P se du m v ≠ 10000) => fsS_yes hb (show 0 ≤ tgF M P se du m v + g v ∧ tgF M P se du m v + g v ≤ 200 by omega)
    clear ih hp
    have L58 : ∀ its : Int, its = tgF M P se du m v + g v → tgF M P se du m v ≠ 10000 → AW X cX7_bestRow 8 60 [some (.inr (.inr 66)), some (.inl (m : Int)), some (.inl ah), some (.inl ((3 ^ P : Nat) : Int)), some (.inl b), some (.inl l), some (.inl v), some (.inl its)] [] S := by
      intro its hits hne
      obtain ⟨y1, y2⟩ := go2 hne
      rw [← hits] at y1 y2
      generalize hU : 3 ^ P = U at *
      refine aw_ildw (n := 62) C dX7_bestRow_60 rfl rfl ?_
      refine aw_bipush (n := 64) C dX7_bestRow_62 rfl rfl ?_
      refine aw_iceq (tgt := 74) (n := 67) C dX7_bestRow_64 rfl rfl (by omega) (by omega) (fun h_64 => ?_) (fun h_64 => ?_)
      · refine aw_ildw (n := 76) C dX7_bestRow_74 rfl rfl ?_
        refine aw_istw (n := 78) (L' := [_, _, _, _, _, _, _, _]) C dX7_bestRow_76 rfl (by decide) rfl rfl ?_
        refine aw_ildw (n := 80) C dX7_bestRow_78 rfl rfl ?_
        refine aw_istw (n := 82) (L' := [_, _, _, _, _, _, _, _]) C dX7_bestRow_80 rfl (by decide) rfl rfl ?_
        refine aw_iinc (n := 85) (L' := [_, _, _, _, _, _, _, _]) C dX7_bestRow_82 rfl rfl (by decide) rfl rfl ?_
        refine aw_goto (tgt := 11) C dX7_bestRow_85 rfl ?_
        first | exact ih2 _ _ _ (y1 (Or.inl (by assumption))) | exact ih2 _ _ _ (y1 (Or.inr (by omega))) | exact ih2 _ _ _ (y2 (by omega))
      · refine aw_ildw (n := 69) C dX7_bestRow_67 rfl rfl ?_
        refine aw_ildw (n := 71) C dX7_bestRow_69 rfl rfl ?_
        refine aw_icge (tgt := 82) (n := 74) C dX7_bestRow_71 rfl rfl (by omega) (by omega) (fun h_71 => ?_) (fun h_71 => ?_)
        · refine aw_iinc (n := 85) (L' := [_, _, _, _, _, _, _, _]) C dX7_bestRow_82 rfl rfl (by decide) rfl rfl ?_
          refine aw_goto (tgt := 11) C dX7_bestRow_85 rfl ?_
          first | exact ih2 _ _ _ (y1 (Or.inl (by assumption))) | exact ih2 _ _ _ (y1 (Or.inr (by omega))) | exact ih2 _ _ _ (y2 (by omega))
        · refine aw_ildw (n := 76) C dX7_bestRow_74 rfl rfl ?_
          refine aw_istw (n := 78) (L' := [_, _, _, _, _, _, _, _]) C dX7_bestRow_76 rfl (by decide) rfl rfl ?_
          refine aw_ildw (n := 80) C dX7_bestRow_78 rfl rfl ?_
          refine aw_istw (n := 82) (L' := [_, _, _, _, _, _, _, _]) C dX7_bestRow_80 rfl (by decide) rfl rfl ?_
          refine aw_iinc (n := 85) (L' := [_, _, _, _, _, _, _, _]) C dX7_bestRow_82 rfl rfl (by decide) rfl rfl ?_
          refine aw_goto (tgt := 11) C dX7_bestRow_85 rfl ?_
          first | exact ih2 _ _ _ (y1 (Or.inl (by assumption))) | exact ih2 _ _ _ (y1 (Or.inr (by omega))) | exact ih2 _ _ _ (y2 (by omega))
    generalize hU : 3 ^ P = U at *
    refine aw_ildw (n := 13) C dX7_bestRow_11 rfl rfl ?_
    refine aw_ildn (n := 14) C dX7_bestRow_13 rfl rfl ?_
    refine aw_icge (tgt := 88) (n := 17) C dX7_bestRow_14 rfl rfl (by omega) (by omega) (fun h_14 => ?_) (fun h_14 => ?_)
    · omega
    · refine aw_aldn (n := 18) C dX7_bestRow_17 rfl rfl ?_
      refine aw_getR (n := 21) C dX7_bestRow_18 rfl fl_X7_56 rfl rfl ?_
      refine aw_bipush (n := 23) C dX7_bestRow_21 rfl rfl ?_
      refine aw_ildn (n := 24) C dX7_bestRow_23 rfl rfl ?_
      refine aw_imul (n := 25) C dX7_bestRow_24 rfl ?_
      refine aw_ildw (n := 27) C dX7_bestRow_25 rfl rfl ?_
      refine aw_iadd (n := 28) C dX7_bestRow_27 rfl ?_
      refine aw_iald (n := 29) C dX7_bestRow_28 rfl rfl (by omega) (by omega) ?_
      rw [tv]
      refine aw_istw (n := 31) (L' := [_, _, _, _, _, _, _, _]) C dX7_bestRow_29 rfl (by decide) rfl rfl ?_
      refine aw_ildw (n := 33) C dX7_bestRow_31 rfl rfl ?_
      refine aw_bipush (n := 35) C dX7_bestRow_33 rfl rfl ?_
      refine aw_iceq (tgt := 82) (n := 38) C dX7_bestRow_35 rfl rfl (by omega) (by omega) (fun h_35 => ?_) (fun h_35 => ?_)
      · refine aw_iinc (n := 85) (L' := [_, _, _, _, _, _, _, _]) C dX7_bestRow_82 rfl rfl (by decide) rfl rfl ?_
        refine aw_goto (tgt := 11) C dX7_bestRow_85 rfl ?_
        exact ih2 _ _ _ (go1 (ts.1.mp h_35))
      · have hne : tgF M P se du m v ≠ 10000 := fun h => h_35 (ts.1.mpr h)
        have hse := ts.2.1 hne
        refine aw_ildw (n := 40) C dX7_bestRow_38 rfl rfl ?_
        refine aw_ildn (n := 41) C dX7_bestRow_40 rfl rfl ?_
        refine aw_bipush (n := 43) C dX7_bestRow_41 rfl rfl ?_
        refine aw_icne (tgt := 50) (n := 46) C dX7_bestRow_43 rfl rfl (by omega) (by omega) (fun h_43 => ?_) (fun h_43 => ?_)
        · refine aw_aldn (n := 51) C dX7_bestRow_50 rfl rfl ?_
          refine aw_ildn (n := 52) C dX7_bestRow_51 rfl rfl ?_
          refine aw_ildw (n := 54) C dX7_bestRow_52 rfl rfl ?_
          obtain ⟨a, a1, a2, a3⟩ := hA.resolve_left (fun h => h_43 h.1)
          subst a2
          refine aw_cVi (n := 57) (vs := [_, _]) C dX7_bestRow_54 rfl rfl rfl mm_X7_changed wM_X7_192 rfl rfl (Nat.le_of_ble_eq_true rfl) (d_changed (a := a) (b := v) E a1 (by omega)) (by decide) (fun z_54 S_54 q_54 => ?_)
          rw [q_54.1, q_54.2]
          clear q_54 S_54 z_54
          refine aw_iadd (n := 58) C dX7_bestRow_57 rfl ?_
          refine aw_istw (n := 60) (L' := [_, _, _, _, _, _, _, _]) C dX7_bestRow_58 rfl (by decide) rfl rfl ?_
          first | (refine L58 _ ?_ hne; rw [hse, a3 v]) | (refine L58 _ ?_ hne; rcases hA with h | ⟨a, h1, h2, h3⟩; (rw [hse, h.2 v]); (exfalso; omega))
        · refine aw_iconst (n := 47) C dX7_bestRow_46 rfl ?_
          refine aw_goto (tgt := 57) C dX7_bestRow_47 rfl ?_
          refine aw_iadd (n := 58) C dX7_bestRow_57 rfl ?_
          refine aw_istw (n := 60) (L' := [_, _, _, _, _, _, _, _]) C dX7_bestRow_58 rfl (by decide) rfl rfl ?_
          first | (refine L58 _ ?_ hne; rw [hse, a3 v]) | (refine L58 _ ?_ hne; rcases hA with h | ⟨a, h1, h2, h3⟩; (rw [hse, h.2 v]); (exfalso; omega))
theorem d_bestRow {m : Nat} {ah : Int} {g : Nat → Int} {se : Fn} (E : EM S M P du) (hm : m < M) (hA : AH P ah g) (hT : TB S M P se du 0) : AMi 2 yX7_bestRow cX7_bestRow 8 (some .int) [.inr (.inr 66), .inl (m : Int), .inl ah, .inl ((3 ^ P : Nat) : Int)] S (fun z S' => (∃ l, fsS (fun v => tgF M P se du m v + g v) (3 ^ P) z l) ∧ S' = S) := by
  refine ami_intro (L := [_, _, _, _, none, none, none, none]) (by decide) (Or.inl rfl) rfl (Nat.le_of_ble_eq_true rfl) (fun X C hret => ?_)
  refine aw_bipush (n := 2) C dX7_bestRow_0 rfl rfl ?_
  refine aw_istw (n := 4) (L' := [_, _, _, _, _, _, _, _]) C dX7_bestRow_2 rfl (by decide) rfl rfl ?_
  refine aw_bipush (n := 6) C dX7_bestRow_4 rfl rfl ?_
  refine aw_istw (n := 8) (L' := [_, _, _, _, _, _, _, _]) C dX7_bestRow_6 rfl (by decide) rfl rfl ?_
  refine aw_iconst (n := 9) C dX7_bestRow_8 rfl ?_
  refine aw_istw (n := 11) (L' := [_, _, _, _, _, _, _, _]) C dX7_bestRow_9 rfl (by decide) rfl rfl ?_
  exact d_br_loop E hm hA hT C hret (fun b l h => ⟨⟨l, h⟩, rfl⟩) (3 ^ P) 0 _ _ _ (by omega) (fsS_0 _)
theorem fs_row {f : Nat → Int} {n : Nat} {b l : Int} (h : fsS f n b l) (hs : ∃ v, v < n ∧ f v < 10000) : b = ((fo f n).1 : Int) ∧ (fo f n).1 < n ∧ f (fo f n).1 ≤ 200 := by
  rcases h with ⟨h1, h2, h3, h4⟩ | ⟨h1, h2, h3, h4, h5⟩
  · obtain ⟨v, v1, v2⟩ := hs
    have := h4 v v1
    omega
  · exact ⟨h2, h4, by omega⟩
theorem fs_none {f : Nat → Int} {n : Nat} {b l : Int} (h : fsS f n b l) (hs : ∀ v, v < n → 10000 ≤ f v) : b = -9 := by
  rcases h with ⟨h1, h2, h3, h4⟩ | ⟨h1, h2, h3, h4, h5⟩
  · exact h1
  · have := hs _ h4
    omega
/-- the row chosen in a mile -/
theorem row_0 {se : Fn} {b l : Int} (hP : P ≤ 4) (hM : M ≤ 8) (hM0 : 0 < M) (hd : ∀ m p, 0 ≤ du m p ∧ du m p ≤ 2) {g : Nat → Int} (hg : ∀ v, g v = 0) (h : fsS (fun v => tgF M P se du 0 v + g v) (3 ^ P) b l) : (eS M P se du = -9 → b = (rwF M P se du 0 : Int) ∧ tgF M P se du 0 (rwF M P se du 0) ≤ 200) ∧ (¬ eS M P se du = -9 → b = -9) := by
  refine ⟨fun he => ?_, fun he => ?_⟩
  · obtain ⟨w, hw, hn⟩ := eS_yes hP hM hd he hM0
    have hb := tgF_b (M := M) (se := se) hP hM hd 0 w hw
    obtain ⟨h1, h2, h3⟩ := fs_row h ⟨w, hw, by show tgF M P se du 0 w + g w < 10000; rw [hg w]; omega⟩
    have hc : fo (fun v => tgF M P se du 0 v + g v) (3 ^ P) = fo (tgF M P se du 0) (3 ^ P) := fo_congr _ (fun w _ => by rw [hg w, Int.add_zero])
    rw [hc] at h1 h3
    refine ⟨h1, ?_⟩
    have h3' : tgF M P se du 0 (fo (tgF M P se du 0) (3 ^ P)).1 + g (fo (tgF M P se du 0) (3 ^ P)).1 ≤ 200 := h3
    rw [hg, Int.add_zero] at h3'
    exact h3'
  · exact fs_none h (fun v hv => by show 10000 ≤ tgF M P se du 0 v + g v; rw [eS_not hP hM hd he v hv, hg v]; omega)
theorem row_s {se : Fn} {m : Nat} {b l : Int} (hP : P ≤ 4) (hM : M ≤ 8) (hm : m + 1 < M) (hd : ∀ m p, 0 ≤ du m p ∧ du m p ≤ 2) {g : Nat → Int} (hg : ∀ v, g v = chl (rwF M P se du m) v P) (h : fsS (fun v => tgF M P se du (m + 1) v + g v) (3 ^ P) b l) (he : eS M P se du = -9) : b = (rwF M P se du (m + 1) : Int) := by
  obtain ⟨w, hw, hn⟩ := eS_yes hP hM hd he hm
  have hb := tgF_b (M := M) (se := se) hP hM hd (m + 1) w hw
  have hc := chl_r (rwF M P se du m) w P
  obtain ⟨h1, h2, h3⟩ := fs_row h ⟨w, hw, by show tgF M P se du (m + 1) w + g w < 10000; rw [hg w]; omega⟩
  rw [fo_congr (g := fun w => tgF M P se du (m + 1) w + chl (rwF M P se du m) w P) _ (fun w _ => by rw [hg w])] at h1
  exact h1
theorem d_ease_loop {post : Int → Mem → Prop} {se : Fn} {k : Nat} (E : EM S M P du) (hk : k < M * P) (hT : TB S M P se du 0) (he : eS M P se du = -9) (C : CX X 4 RX7 cX7_ease 5) (hret : ∀ (pc : Nat) (L : List (Option AV)) (z : Int) (S' : Mem), decode cX7_ease pc = .ok (.ireturn, 1) → ((some FieldType.int) = some .int ∨ ((some FieldType.int) = some .boolean ∧ (z = 0 ∨ z = 1))) → post z S' → AW X cX7_ease 5 pc L [.inl z] S') (hp : post (eR M P se du k) S) : ∀ (r m : Nat), m + r = k / P → AW X cX7_ease 5 86 [some (.inr (.inr 66)), some (.inl (k : Int)), some (.inl ((3 ^ P : Nat) : Int)), some (.inl (rwF M P se du m : Int)), some (.inl ((m : Int) + 1))] [] S := by
  obtain ⟨e1, e2, e3, e4, e5, e6, e7, e8⟩ := id E
  have h81 := p3_81 P e4.2
  obtain ⟨k1, k2, k3, k4⟩ := kdm (k := k) e4.1 hk
  have hmp := mp_n e3 e4.2
  intro r
  induction r with
  | zero =>
    intro m hmr
    have hrw : rwF M P se du m < 3 ^ P := rwF_lt m
    have hR : eR M P se du k = (dgl (rwF M P se du m) (P - 1 - k % P) : Int) := by unfold eR; rw [show k / P = m by omega]
    rw [hR] at hp
    generalize hu : k / P = u at *
    generalize hy : k % P = y at *
    generalize hU : 3 ^ P = U at *
    refine aw_ildw (n := 88) C dX7_ease_86 rfl rfl ?_
    refine aw_ildn (n := 89) C dX7_ease_88 rfl rfl ?_
    refine aw_aldn (n := 90) C dX7_ease_89 rfl rfl ?_
    refine aw_getI (z := 6) (n := 93) C dX7_ease_90 rfl fl_X7_81 rfl rfl rfl ?_
    rw [e2]
    refine aw_idiv (n := 94) C dX7_ease_93 rfl (by omega) (by omega) ?_
    rw [k3]
    refine aw_icgt (tgt := 112) (n := 97) C dX7_ease_94 rfl rfl (by omega) (by omega) (fun h_94 => ?_) (fun h_94 => ?_)
    · refine aw_aldn (n := 113) C dX7_ease_112 rfl rfl ?_
      refine aw_ildn (n := 114) C dX7_ease_113 rfl rfl ?_
      refine aw_ildn (n := 115) C dX7_ease_114 rfl rfl ?_
      refine aw_aldn (n := 116) C dX7_ease_115 rfl rfl ?_
      refine aw_getI (z := 6) (n := 119) C dX7_ease_116 rfl fl_X7_81 rfl rfl rfl ?_
      rw [e2]
      refine aw_irem (n := 120) C dX7_ease_119 rfl (by omega) (by omega) ?_
      rw [k4]
      refine aw_cVi (n := 123) (vs := [_, _]) C dX7_ease_120 rfl rfl rfl mm_X7_place wM_X7_189 rfl rfl (Nat.le_of_ble_eq_true rfl) (d_place (w := rwF M P se du m) (p := y) e5 e4.2 (by omega) (by omega)) (by decide) (fun z_120 S_120 q_120 => ?_)
      rw [q_120.1, q_120.2]
      clear q_120 S_120 z_120
      refine hret 123 _ _ _ dX7_ease_123 (Or.inl rfl) ?_
      exact hp
    · omega
  | succ r ih =>
    intro m hmr
    have hrw : rwF M P se du m < 3 ^ P := rwF_lt m
    have cb := d_bestRow (m := m + 1) (ah := (rwF M P se du m : Int)) (g := fun v => chl (rwF M P se du m) v P) (se := se) E (by omega) (Or.inr ⟨_, by omega, rfl, fun _ => rfl⟩) hT
    have hrs : ∀ b l, fsS (fun v => tgF M P se du (m + 1) v + chl (rwF M P se du m) v P) (3 ^ P) b l → b = (rwF M P se du (m + 1) : Int) := fun b l h => row_s e4.2 e3 (by omega) e8 (fun _ => rfl) h he
    have ih2 := ih (m + 1) (by omega)
    clear ih hp
    generalize hu : k / P = u at *
    generalize hU : 3 ^ P = U at *
    refine aw_ildw (n := 88) C dX7_ease_86 rfl rfl ?_
    refine aw_ildn (n := 89) C dX7_ease_88 rfl rfl ?_
    refine aw_aldn (n := 90) C dX7_ease_89 rfl rfl ?_
    refine aw_getI (z := 6) (n := 93) C dX7_ease_90 rfl fl_X7_81 rfl rfl rfl ?_
    rw [e2]
    refine aw_idiv (n := 94) C dX7_ease_93 rfl (by omega) (by omega) ?_
    rw [k3]
    refine aw_icgt (tgt := 112) (n := 97) C dX7_ease_94 rfl rfl (by omega) (by omega) (fun h_94 => ?_) (fun h_94 => ?_)
    · omega
    · refine aw_aldn (n := 98) C dX7_ease_97 rfl rfl ?_
      refine aw_ildw (n := 100) C dX7_ease_98 rfl rfl ?_
      refine aw_ildn (n := 101) C dX7_ease_100 rfl rfl ?_
      refine aw_ildn (n := 102) C dX7_ease_101 rfl rfl ?_
      refine aw_cVi (n := 105) (vs := [_, _, _]) C dX7_ease_102 rfl rfl rfl mm_X7_bestRow wM_X7_208 rfl rfl (Nat.le_of_ble_eq_true rfl) (cb) (by decide) (fun z_102 S_102 q_102 => ?_)
      obtain ⟨⟨l, q1⟩, q2⟩ := q_102
      rw [hrs _ _ q1, q2]
      refine aw_istn (n := 106) (L' := [_, _, _, _, _]) C dX7_ease_105 rfl (by decide) rfl rfl ?_
      refine aw_iinc (n := 109) (L' := [_, _, _, _, _]) C dX7_ease_106 rfl rfl (by decide) rfl rfl ?_
      refine aw_goto (tgt := 86) C dX7_ease_109 rfl ?_
      exact ih2
theorem m_ease {k : Int} (hk : rng k) (W : MW S) (hse : ∀ c, 0 ≤ c → c < 3 → 0 ≤ S 70 c ∧ S 70 c ≤ 4) (hmp0 : S 66 5 ≠ 0 → 0 < S 66 6) : AMi 4 yX7_ease cX7_ease 5 (some .int) [.inr (.inr 66), .inl k] S (fun z S' => fr 80 84 S S' ∧ z = (if k < -1 then -1 else if S 66 5 = 0 then -3 else if k = -1 ∨ eT (S 66 5).toNat (S 66 6).toNat (S 70) (dM S) = -9 then eT (S 66 5).toNat (S 66 6).toNat (S 70) (dM S) else if k < S 66 5 * S 66 6 then eR (S 66 5).toNat (S 66 6).toNat (S 70) (dM S) k.toNat else -9)) := by
  obtain ⟨t1, t2, t3, t4, t5, t6⟩ := id W
  obtain ⟨M, hM⟩ : ∃ M : Nat, S 66 5 = M := ⟨(S 66 5).toNat, by omega⟩
  obtain ⟨P, hP⟩ : ∃ P : Nat, S 66 6 = P := ⟨(S 66 6).toNat, by omega⟩
  rw [hM, hP, Int.toNat_natCast, Int.toNat_natCast]
  have hc : (M : Int) * P = ((M * P : Nat) : Int) := (Int.natCast_mul M P).symm
  have hmp := mp_n (M := M) (P := P) (by omega) (by omega)
  have h81 := p3_81 P (by omega)
  refine ami_intro (L := [_, _, none, none, none]) (by decide) (Or.inl rfl) rfl (Nat.le_of_ble_eq_true rfl) (fun X C hret => ?_)
  refine aw_ildn (n := 1) C dX7_ease_0 rfl rfl ?_
  refine aw_iconst (n := 2) C dX7_ease_1 rfl ?_
  refine aw_icge (tgt := 7) (n := 5) C dX7_ease_2 rfl rfl (by omega) (by omega) (fun h_2 => ?_) (fun h_2 => ?_)
  · refine aw_aldn (n := 8) C dX7_ease_7 rfl rfl ?_
    refine aw_getI (z := 5) (n := 11) C dX7_ease_8 rfl fl_X7_84 rfl rfl rfl ?_
    refine aw_ifne (tgt := 17) (n := 14) C dX7_ease_11 rfl rfl (by omega) (fun h_11 => ?_) (fun h_11 => ?_)
    · have hP0 := hmp0 h_11
      refine aw_aldn (n := 18) C dX7_ease_17 rfl rfl ?_
      refine aw_cVi (n := 21) (vs := []) C dX7_ease_18 rfl rfl rfl mm_X7_rows wM_X7_201 rfl rfl (Nat.le_of_ble_eq_true rfl) (d_rows (P := P) hP (by omega)) (by decide) (fun z_18 S_18 q_18 => ?_)
      obtain ⟨qz, f1, u1⟩ := q_18
      rw [qz]
      have B1 : EB S_18 M P := ⟨MW_fr W f1 (by omega), by rw [f1 66 (by omega)]; exact hM, by rw [f1 66 (by omega)]; exact hP, by omega, by rw [f1 70 (by omega)]; exact hse⟩
      have e70 : S_18 70 = S 70 := f1 70 (by omega)
      have eD : dM S_18 = dM S := by
        funext m p
        unfold dM RM
        rw [f1 66 (by omega), f1 71 (by omega), f1 72 (by omega), f1 73 (by omega), f1 74 (by omega), f1 75 (by omega), f1 76 (by omega)]
      refine aw_istn (n := 22) (L' := [_, _, _, _, _]) C dX7_ease_21 rfl (by decide) rfl rfl ?_
      refine aw_aldn (n := 23) C dX7_ease_22 rfl rfl ?_
      refine aw_ildn (n := 24) C dX7_ease_23 rfl rfl ?_
      refine aw_cVv (n := 27) (vs := [_]) C dX7_ease_24 rfl rfl rfl mm_X7_findEase wM_X7_205 rfl rfl (Nat.le_of_ble_eq_true rfl) (d_findEase B1 u1) (by decide) (fun S_24 q_24 => ?_)
      obtain ⟨f2, E2, T2⟩ := q_24
      rw [eD] at E2 T2
      rw [e70] at T2
      have ff2 : fr 80 84 S S_24 := fr_tr (fr_w f1 (by omega) (by omega)) (fr_w f2 (by omega) (by omega))
      have hd := dM_r S
      have c0 := d_bestRow (m := 0) (ah := -9) (g := fun _ => 0) (se := S 70) E2 (by omega) (Or.inl ⟨rfl, fun _ => rfl⟩) T2
      have r0 := fun (b l : Int) (h : fsS (fun v => tgF M P (S 70) (dM S) 0 v + 0) (3 ^ P) b l) => row_0 (se := S 70) (M := M) (P := P) (du := dM S) (by omega) (by omega) (by omega) hd (fun _ => rfl) h
      have hrl := rwF_lt (M := M) (P := P) (se := S 70) (du := dM S) 0
      have hT0 := T2 0 (by omega) (by omega) (rwF M P (S 70) (dM S) 0) hrl
      have hlo := fun (h : eS M P (S 70) (dM S) = -9) (n : Nat) (hn : n < M * P) (hret : _) (hp : _) => d_ease_loop (X := X) (S := S_24) (k := n) (se := S 70) (post := fun z S' => fr 80 84 S S' ∧ z = (if k < -1 then -1 else if (M : Int) = 0 then -3 else if k = -1 ∨ eT M P (S 70) (dM S) = -9 then eT M P (S 70) (dM S) else if k < (M : Int) * P then eR M P (S 70) (dM S) k.toNat else -9)) E2 hn T2 h C hret hp (n / P) 0 (by omega)
      have h58 : S_24 66 5 = M := E2.1
      have h68 : S_24 66 6 = P := E2.2.1
      have htr := tgF_r (M := M) (se := S 70) (P := P) (by omega) hd 0 (rwF M P (S 70) (dM S) 0) hrl
      have hetv : eT M P (S 70) (dM S) = if eS M P (S 70) (dM S) = -9 then tgF M P (S 70) (dM S) 0 (rwF M P (S 70) (dM S) 0) else -9 := rfl
      generalize hET : eT M P (S 70) (dM S) = ET at *
      generalize hES : eS M P (S 70) (dM S) = ES at *
      generalize hTG : tgF M P (S 70) (dM S) 0 (rwF M P (S 70) (dM S) 0) = TG at *
      generalize hRW : rwF M P (S 70) (dM S) 0 = RW at *
      clear u1 B1
      generalize hU : 3 ^ P = U at *
      refine aw_aldn (n := 28) C dX7_ease_27 rfl rfl ?_
      refine aw_iconst (n := 29) C dX7_ease_28 rfl ?_
      refine aw_bipush (n := 31) C dX7_ease_29 rfl rfl ?_
      refine aw_ildn (n := 32) C dX7_ease_31 rfl rfl ?_
      refine aw_cVi (n := 35) (vs := [_, _, _]) C dX7_ease_32 rfl rfl rfl mm_X7_bestRow wM_X7_208 rfl rfl (Nat.le_of_ble_eq_true rfl) (c0) (by decide) (fun z_32 S_32 q_32 => ?_)
      obtain ⟨⟨l, q1⟩, q2⟩ := q_32
      rw [q2]
      have r1 := r0 _ _ q1
      clear r0 c0 q1
      have hz : rng z_32 := by
        by_cases e : ES = -9
        · have := (r1.1 e).1; omega
        · have := r1.2 e; omega
      have hsnt : TG ≤ 200 → sent TG = TG := fun h => by unfold sent; rw [if_neg (by omega)]
      refine aw_istn (n := 36) (L' := [_, _, _, _, _]) C dX7_ease_35 rfl (by decide) rfl rfl ?_
      refine aw_ildn (n := 37) C dX7_ease_36 rfl rfl ?_
      refine aw_iconst (n := 38) C dX7_ease_37 rfl ?_
      refine aw_iceq (tgt := 60) (n := 41) C dX7_ease_38 rfl rfl (by omega) (by omega) (fun h_38 => ?_) (fun h_38 => ?_)
      · refine aw_ildn (n := 61) C dX7_ease_60 rfl rfl ?_
        refine aw_iconst (n := 62) C dX7_ease_61 rfl ?_
        refine aw_icne (tgt := 80) (n := 65) C dX7_ease_62 rfl rfl (by omega) (by omega) (fun h_62 => ?_) (fun h_62 => ?_)
        · refine aw_bipush (n := 82) C dX7_ease_80 rfl rfl ?_
          refine hret 82 _ _ _ dX7_ease_82 (Or.inl rfl) ?_
          refine ⟨ff2, ?_⟩
          clear hlo hret
          by_cases e : ES = -9
          · rw [if_pos e] at hetv
            have r2 := r1.1 e
            generalize eR M P (S 70) (dM S) k.toNat = R at *
            first | (rw [if_neg (by omega), if_neg (by omega), if_pos (by omega), hetv]; done) | (rw [if_neg (by omega), if_neg (by omega), if_neg (by omega), if_neg (by omega)]; done) | (exfalso; omega)
          · rw [if_neg e] at hetv
            have r2 := r1.2 e
            first | (rw [if_neg (by omega), if_neg (by omega), if_pos (Or.inr hetv), hetv]; done) | (exfalso; omega)
        · refine aw_ildn (n := 66) C dX7_ease_65 rfl rfl ?_
          refine aw_bipush (n := 68) C dX7_ease_66 rfl rfl ?_
          refine aw_iceq (tgt := 80) (n := 71) C dX7_ease_68 rfl rfl (by omega) (by omega) (fun h_68 => ?_) (fun h_68 => ?_)
          · refine aw_bipush (n := 82) C dX7_ease_80 rfl rfl ?_
            refine hret 82 _ _ _ dX7_ease_82 (Or.inl rfl) ?_
            refine ⟨ff2, ?_⟩
            clear hlo hret
            by_cases e : ES = -9
            · rw [if_pos e] at hetv
              have r2 := r1.1 e
              generalize eR M P (S 70) (dM S) k.toNat = R at *
              first | (rw [if_neg (by omega), if_neg (by omega), if_pos (by omega), hetv]; done) | (rw [if_neg (by omega), if_neg (by omega), if_neg (by omega), if_neg (by omega)]; done) | (exfalso; omega)
            · rw [if_neg e] at hetv
              have r2 := r1.2 e
              first | (rw [if_neg (by omega), if_neg (by omega), if_pos (Or.inr hetv), hetv]; done) | (exfalso; omega)
          · refine aw_aldn (n := 72) C dX7_ease_71 rfl rfl ?_
            refine aw_getR (n := 75) C dX7_ease_72 rfl fl_X7_56 rfl rfl ?_
            refine aw_ildn (n := 76) C dX7_ease_75 rfl rfl ?_
            refine aw_iald (n := 77) C dX7_ease_76 rfl rfl (by omega) (by omega) ?_
            obtain ⟨z1, z2⟩ := r1.1 (by by_cases e : ES = -9; (exact e); (exact absurd (r1.2 e) h_68))
            rw [z1, show (RW : Int) = 81 * ((0 : Nat) : Int) + RW by omega, hT0, hsnt z2]
            refine aw_goto (tgt := 82) C dX7_ease_77 rfl ?_
            refine hret 82 _ _ _ dX7_ease_82 (Or.inl rfl) ?_
            refine ⟨ff2, ?_⟩
            clear hlo hret
            by_cases e : ES = -9
            · rw [if_pos e] at hetv
              have r2 := r1.1 e
              generalize eR M P (S 70) (dM S) k.toNat = R at *
              first | (rw [if_neg (by omega), if_neg (by omega), if_pos (by omega), hetv]; done) | (rw [if_neg (by omega), if_neg (by omega), if_neg (by omega), if_neg (by omega)]; done) | (exfalso; omega)
            · rw [if_neg e] at hetv
              have r2 := r1.2 e
              first | (rw [if_neg (by omega), if_neg (by omega), if_pos (Or.inr hetv), hetv]; done) | (exfalso; omega)
      · refine aw_ildn (n := 42) C dX7_ease_41 rfl rfl ?_
        refine aw_bipush (n := 44) C dX7_ease_42 rfl rfl ?_
        refine aw_iceq (tgt := 60) (n := 47) C dX7_ease_44 rfl rfl (by omega) (by omega) (fun h_44 => ?_) (fun h_44 => ?_)
        · refine aw_ildn (n := 61) C dX7_ease_60 rfl rfl ?_
          refine aw_iconst (n := 62) C dX7_ease_61 rfl ?_
          refine aw_icne (tgt := 80) (n := 65) C dX7_ease_62 rfl rfl (by omega) (by omega) (fun h_62 => ?_) (fun h_62 => ?_)
          · refine aw_bipush (n := 82) C dX7_ease_80 rfl rfl ?_
            refine hret 82 _ _ _ dX7_ease_82 (Or.inl rfl) ?_
            refine ⟨ff2, ?_⟩
            clear hlo hret
            by_cases e : ES = -9
            · rw [if_pos e] at hetv
              have r2 := r1.1 e
              generalize eR M P (S 70) (dM S) k.toNat = R at *
              first | (rw [if_neg (by omega), if_neg (by omega), if_pos (by omega), hetv]; done) | (rw [if_neg (by omega), if_neg (by omega), if_neg (by omega), if_neg (by omega)]; done) | (exfalso; omega)
            · rw [if_neg e] at hetv
              have r2 := r1.2 e
              first | (rw [if_neg (by omega), if_neg (by omega), if_pos (Or.inr hetv), hetv]; done) | (exfalso; omega)
          · refine aw_ildn (n := 66) C dX7_ease_65 rfl rfl ?_
            refine aw_bipush (n := 68) C dX7_ease_66 rfl rfl ?_
            refine aw_iceq (tgt := 80) (n := 71) C dX7_ease_68 rfl rfl (by omega) (by omega) (fun h_68 => ?_) (fun h_68 => ?_)
            · refine aw_bipush (n := 82) C dX7_ease_80 rfl rfl ?_
              refine hret 82 _ _ _ dX7_ease_82 (Or.inl rfl) ?_
              refine ⟨ff2, ?_⟩
              clear hlo hret
              by_cases e : ES = -9
              · rw [if_pos e] at hetv
                have r2 := r1.1 e
                generalize eR M P (S 70) (dM S) k.toNat = R at *
                first | (rw [if_neg (by omega), if_neg (by omega), if_pos (by omega), hetv]; done) | (rw [if_neg (by omega), if_neg (by omega), if_neg (by omega), if_neg (by omega)]; done) | (exfalso; omega)
              · rw [if_neg e] at hetv
                have r2 := r1.2 e
                first | (rw [if_neg (by omega), if_neg (by omega), if_pos (Or.inr hetv), hetv]; done) | (exfalso; omega)
            · refine aw_aldn (n := 72) C dX7_ease_71 rfl rfl ?_
              refine aw_getR (n := 75) C dX7_ease_72 rfl fl_X7_56 rfl rfl ?_
              refine aw_ildn (n := 76) C dX7_ease_75 rfl rfl ?_
              refine aw_iald (n := 77) C dX7_ease_76 rfl rfl (by omega) (by omega) ?_
              obtain ⟨z1, z2⟩ := r1.1 (by by_cases e : ES = -9; (exact e); (exact absurd (r1.2 e) h_68))
              rw [z1, show (RW : Int) = 81 * ((0 : Nat) : Int) + RW by omega, hT0, hsnt z2]
              refine aw_goto (tgt := 82) C dX7_ease_77 rfl ?_
              refine hret 82 _ _ _ dX7_ease_82 (Or.inl rfl) ?_
              refine ⟨ff2, ?_⟩
              clear hlo hret
              by_cases e : ES = -9
              · rw [if_pos e] at hetv
                have r2 := r1.1 e
                generalize eR M P (S 70) (dM S) k.toNat = R at *
                first | (rw [if_neg (by omega), if_neg (by omega), if_pos (by omega), hetv]; done) | (rw [if_neg (by omega), if_neg (by omega), if_neg (by omega), if_neg (by omega)]; done) | (exfalso; omega)
              · rw [if_neg e] at hetv
                have r2 := r1.2 e
                first | (rw [if_neg (by omega), if_neg (by omega), if_pos (Or.inr hetv), hetv]; done) | (exfalso; omega)
        · refine aw_ildn (n := 48) C dX7_ease_47 rfl rfl ?_
          refine aw_aldn (n := 49) C dX7_ease_48 rfl rfl ?_
          refine aw_getI (z := 5) (n := 52) C dX7_ease_49 rfl fl_X7_84 rfl rfl rfl ?_
          refine aw_aldn (n := 53) C dX7_ease_52 rfl rfl ?_
          refine aw_getI (z := 6) (n := 56) C dX7_ease_53 rfl fl_X7_81 rfl rfl rfl ?_
          rw [h58, h68]
          refine aw_imul (n := 57) C dX7_ease_56 rfl ?_
          rw [hc]
          refine aw_iclt (tgt := 83) (n := 60) C dX7_ease_57 rfl rfl (by omega) (by omega) (fun h_57 => ?_) (fun h_57 => ?_)
          · refine aw_iconst (n := 84) C dX7_ease_83 rfl ?_
            refine aw_istw (n := 86) (L' := [_, _, _, _, _]) C dX7_ease_84 rfl (by decide) rfl rfl ?_
            have e : ES = -9 := by
              by_cases e : ES = -9
              · exact e
              · exact absurd (r1.2 e) h_44
            rw [if_pos e] at hetv
            have r2 := r1.1 e
            obtain ⟨n, rfl⟩ : ∃ n : Nat, k = n := ⟨k.toNat, by omega⟩
            rw [r2.1]
            refine hlo e n (by omega) hret ⟨ff2, ?_⟩
            rw [Int.toNat_natCast, if_neg (by omega), if_neg (by omega), if_neg (by omega), if_pos (by omega)]
          · refine aw_ildn (n := 61) C dX7_ease_60 rfl rfl ?_
            refine aw_iconst (n := 62) C dX7_ease_61 rfl ?_
            refine aw_icne (tgt := 80) (n := 65) C dX7_ease_62 rfl rfl (by omega) (by omega) (fun h_62 => ?_) (fun h_62 => ?_)
            · refine aw_bipush (n := 82) C dX7_ease_80 rfl rfl ?_
              refine hret 82 _ _ _ dX7_ease_82 (Or.inl rfl) ?_
              refine ⟨ff2, ?_⟩
              clear hlo hret
              by_cases e : ES = -9
              · rw [if_pos e] at hetv
                have r2 := r1.1 e
                generalize eR M P (S 70) (dM S) k.toNat = R at *
                first | (rw [if_neg (by omega), if_neg (by omega), if_pos (by omega), hetv]; done) | (rw [if_neg (by omega), if_neg (by omega), if_neg (by omega), if_neg (by omega)]; done) | (exfalso; omega)
              · rw [if_neg e] at hetv
                have r2 := r1.2 e
                first | (rw [if_neg (by omega), if_neg (by omega), if_pos (Or.inr hetv), hetv]; done) | (exfalso; omega)
            · refine aw_ildn (n := 66) C dX7_ease_65 rfl rfl ?_
              refine aw_bipush (n := 68) C dX7_ease_66 rfl rfl ?_
              refine aw_iceq (tgt := 80) (n := 71) C dX7_ease_68 rfl rfl (by omega) (by omega) (fun h_68 => ?_) (fun h_68 => ?_)
              · refine aw_bipush (n := 82) C dX7_ease_80 rfl rfl ?_
                refine hret 82 _ _ _ dX7_ease_82 (Or.inl rfl) ?_
                refine ⟨ff2, ?_⟩
                clear hlo hret
                by_cases e : ES = -9
                · rw [if_pos e] at hetv
                  have r2 := r1.1 e
                  generalize eR M P (S 70) (dM S) k.toNat = R at *
                  first | (rw [if_neg (by omega), if_neg (by omega), if_pos (by omega), hetv]; done) | (rw [if_neg (by omega), if_neg (by omega), if_neg (by omega), if_neg (by omega)]; done) | (exfalso; omega)
                · rw [if_neg e] at hetv
                  have r2 := r1.2 e
                  first | (rw [if_neg (by omega), if_neg (by omega), if_pos (Or.inr hetv), hetv]; done) | (exfalso; omega)
              · refine aw_aldn (n := 72) C dX7_ease_71 rfl rfl ?_
                refine aw_getR (n := 75) C dX7_ease_72 rfl fl_X7_56 rfl rfl ?_
                refine aw_ildn (n := 76) C dX7_ease_75 rfl rfl ?_
                refine aw_iald (n := 77) C dX7_ease_76 rfl rfl (by omega) (by omega) ?_
                obtain ⟨z1, z2⟩ := r1.1 (by by_cases e : ES = -9; (exact e); (exact absurd (r1.2 e) h_68))
                rw [z1, show (RW : Int) = 81 * ((0 : Nat) : Int) + RW by omega, hT0, hsnt z2]
                refine aw_goto (tgt := 82) C dX7_ease_77 rfl ?_
                refine hret 82 _ _ _ dX7_ease_82 (Or.inl rfl) ?_
                refine ⟨ff2, ?_⟩
                clear hlo hret
                by_cases e : ES = -9
                · rw [if_pos e] at hetv
                  have r2 := r1.1 e
                  generalize eR M P (S 70) (dM S) k.toNat = R at *
                  first | (rw [if_neg (by omega), if_neg (by omega), if_pos (by omega), hetv]; done) | (rw [if_neg (by omega), if_neg (by omega), if_neg (by omega), if_neg (by omega)]; done) | (exfalso; omega)
                · rw [if_neg e] at hetv
                  have r2 := r1.2 e
                  first | (rw [if_neg (by omega), if_neg (by omega), if_pos (Or.inr hetv), hetv]; done) | (exfalso; omega)
    · refine aw_bipush (n := 16) C dX7_ease_14 rfl rfl ?_
      refine hret 16 _ _ _ dX7_ease_16 (Or.inl rfl) ?_
      exact ⟨fr_rf _ _ _, by rw [if_neg (by omega), if_pos (by omega)]⟩
  · refine aw_iconst (n := 6) C dX7_ease_5 rfl ?_
    refine hret 6 _ _ _ dX7_ease_6 (Or.inl rfl) ?_
    exact ⟨fr_rf _ _ _, by rw [if_pos (by omega)]⟩
theorem d_st_in {m : Nat} (E : EM S M P du) (hm : m < M) (C : CX X 3 RX7 cX7_stuck 5) (k0 : ∀ x, anyF P (S 70) du m = false → AW X cX7_stuck 5 68 [some (.inr (.inr 66)), some (.inl ((3 ^ P : Nat) : Int)), some (.inl (m : Int)), some (.inl 0), some (.inl x)] [] S) (k1 : ∀ x, anyF P (S 70) du m = true → AW X cX7_stuck 5 68 [some (.inr (.inr 66)), some (.inl ((3 ^ P : Nat) : Int)), some (.inl (m : Int)), some (.inl 1), some (.inl x)] [] S) : ∀ (r w : Nat), w + r = 3 ^ P → (∀ v, v < w → lwm P (S 70) du m v = 10000) → AW X cX7_stuck 5 34 [some (.inr (.inr 66)), some (.inl ((3 ^ P : Nat) : Int)), some (.inl (m : Int)), some (.inl 0), some (.inl (w : Int))] [] S := by
  obtain ⟨e1, e2, e3, e4, e5, e6, e7, e8⟩ := id E
  have h81 := p3_81 P e4.2
  intro r
  induction r with
  | zero =>
    intro w hw hv
    obtain rfl : w = 3 ^ P := by omega
    have hno : anyF P (S 70) du m = false := by
      cases e : anyF P (S 70) du m with
      | false => rfl
      | true =>
        obtain ⟨v, v1, v2⟩ := bB_t.mp e
        have := hv v v1
        omega
    have k2 := fun x => k0 x hno
    clear k0 k1
    generalize hU : 3 ^ P = U at *
    refine aw_ildw (n := 36) C dX7_stuck_34 rfl rfl ?_
    refine aw_ildn (n := 37) C dX7_stuck_36 rfl rfl ?_
    refine aw_icge (tgt := 68) (n := 40) C dX7_stuck_37 rfl rfl (by omega) (by omega) (fun h_37 => ?_) (fun h_37 => ?_)
    · exact k2 _
    · omega
  | succ r ih =>
    intro w hw hv
    have hwU : w < 3 ^ P := by omega
    have hl := lwm_r P (S 70) du m w e4.2 e8
    have hs : (sent (lwm P (S 70) du m w) = -9 ↔ lwm P (S 70) du m w = 10000) ∧ -9 ≤ sent (lwm P (S 70) du m w) ∧ sent (lwm P (S 70) du m w) ≤ 8 := by unfold sent; omega
    have hyes : lwm P (S 70) du m w ≠ 10000 → anyF P (S 70) du m = true := fun h => bB_t.mpr ⟨w, hwU, by omega⟩
    have cl := d_lowIn (m := m) (w := w) E hm (by omega)
    have ih2 := ih (w + 1) (by omega)
    have k2 := fun x h => k1 x (hyes h)
    clear ih k0 k1
    generalize sent (lwm P (S 70) du m w) = z at *
    have L34 : lwm P (S 70) du m w ≠ 10000 → AW X cX7_stuck 5 34 [some (.inr (.inr 66)), some (.inl ((3 ^ P : Nat) : Int)), some (.inl (m : Int)), some (.inl 1), some (.inl ((w : Int) + 1))] [] S := by
      intro hne
      generalize hU : 3 ^ P = U at *
      refine aw_ildw (n := 36) C dX7_stuck_34 rfl rfl ?_
      refine aw_ildn (n := 37) C dX7_stuck_36 rfl rfl ?_
      refine aw_icge (tgt := 68) (n := 40) C dX7_stuck_37 rfl rfl (by omega) (by omega) (fun h_37 => ?_) (fun h_37 => ?_)
      · exact k2 _ hne
      · refine aw_ildn (n := 41) C dX7_stuck_40 rfl rfl ?_
        refine aw_ifne (tgt := 68) (n := 44) C dX7_stuck_41 rfl rfl (by omega) (fun h_41 => ?_) (fun h_41 => ?_)
        · exact k2 _ hne
        · omega
    generalize hU : 3 ^ P = U at *
    refine aw_ildw (n := 36) C dX7_stuck_34 rfl rfl ?_
    refine aw_ildn (n := 37) C dX7_stuck_36 rfl rfl ?_
    refine aw_icge (tgt := 68) (n := 40) C dX7_stuck_37 rfl rfl (by omega) (by omega) (fun h_37 => ?_) (fun h_37 => ?_)
    · omega
    · refine aw_ildn (n := 41) C dX7_stuck_40 rfl rfl ?_
      refine aw_ifne (tgt := 68) (n := 44) C dX7_stuck_41 rfl rfl (by omega) (fun h_41 => ?_) (fun h_41 => ?_)
      · omega
      · refine aw_aldn (n := 45) C dX7_stuck_44 rfl rfl ?_
        refine aw_ildn (n := 46) C dX7_stuck_45 rfl rfl ?_
        refine aw_ildw (n := 48) C dX7_stuck_46 rfl rfl ?_
        refine aw_cVi (n := 51) (vs := [_, _]) C dX7_stuck_48 rfl rfl rfl mm_X7_lowIn wM_X7_195 rfl rfl (Nat.le_of_ble_eq_true rfl) (cl) (by decide) (fun z_48 S_48 q_48 => ?_)
        rw [q_48.1, q_48.2]
        clear q_48 S_48 z_48
        refine aw_bipush (n := 53) C dX7_stuck_51 rfl rfl ?_
        refine aw_iceq (tgt := 60) (n := 56) C dX7_stuck_53 rfl rfl (by omega) (by omega) (fun h_53 => ?_) (fun h_53 => ?_)
        · refine aw_iconst (n := 61) C dX7_stuck_60 rfl ?_
          refine aw_istn (n := 62) (L' := [_, _, _, _, _]) C dX7_stuck_61 rfl (by decide) rfl rfl ?_
          refine aw_iinc (n := 65) (L' := [_, _, _, _, _]) C dX7_stuck_62 rfl rfl (by decide) rfl rfl ?_
          refine aw_goto (tgt := 34) C dX7_stuck_65 rfl ?_
          first | exact L34 (fun h => h_53 (hs.1.mpr h)) | exact ih2 (fun v hv2 => by (by_cases e : v = w); (rw [e]; exact hs.1.mp h_53); exact hv v (by omega))
        · refine aw_iconst (n := 57) C dX7_stuck_56 rfl ?_
          refine aw_goto (tgt := 61) C dX7_stuck_57 rfl ?_
          refine aw_istn (n := 62) (L' := [_, _, _, _, _]) C dX7_stuck_61 rfl (by decide) rfl rfl ?_
          refine aw_iinc (n := 65) (L' := [_, _, _, _, _]) C dX7_stuck_62 rfl rfl (by decide) rfl rfl ?_
          refine aw_goto (tgt := 34) C dX7_stuck_65 rfl ?_
          first | exact L34 (fun h => h_53 (hs.1.mpr h)) | exact ih2 (fun v hv2 => by (by_cases e : v = w); (rw [e]; exact hs.1.mp h_53); exact hv v (by omega))
theorem d_st_loop {post : Int → Mem → Prop} (E : EM S M P du) (C : CX X 3 RX7 cX7_stuck 5) (hret : ∀ (pc : Nat) (L : List (Option AV)) (z : Int) (S' : Mem), decode cX7_stuck pc = .ok (.ireturn, 1) → ((some FieldType.int) = some .int ∨ ((some FieldType.int) = some .boolean ∧ (z = 0 ∨ z = 1))) → post z S' → AW X cX7_stuck 5 pc L [.inl z] S') (hp : post (eS M P (S 70) du) S) : ∀ (r m : Nat) (x y : Option AV), m + r = M → eS M P (S 70) du = fst1 (fun m => !anyF P (S 70) du m) r m → AW X cX7_stuck 5 21 [some (.inr (.inr 66)), some (.inl ((3 ^ P : Nat) : Int)), some (.inl (m : Int)), x, y] [] S := by
  obtain ⟨e1, e2, e3, e4, e5, e6, e7, e8⟩ := id E
  intro r
  induction r with
  | zero =>
    intro m x y hm he
    rw [he] at hp
    generalize hU : 3 ^ P = U at *
    refine aw_ildn (n := 22) C dX7_stuck_21 rfl rfl ?_
    refine aw_aldn (n := 23) C dX7_stuck_22 rfl rfl ?_
    refine aw_getI (z := 5) (n := 26) C dX7_stuck_23 rfl fl_X7_84 rfl rfl rfl ?_
    rw [e1]
    refine aw_icge (tgt := 80) (n := 29) C dX7_stuck_26 rfl rfl (by omega) (by omega) (fun h_26 => ?_) (fun h_26 => ?_)
    · refine aw_bipush (n := 82) C dX7_stuck_80 rfl rfl ?_
      refine hret 82 _ _ _ dX7_stuck_82 (Or.inl rfl) ?_
      exact hp
    · omega
  | succ r ih =>
    intro m x y hm he
    have k0 : ∀ x, anyF P (S 70) du m = false → AW X cX7_stuck 5 68 [some (.inr (.inr 66)), some (.inl ((3 ^ P : Nat) : Int)), some (.inl (m : Int)), some (.inl 0), some (.inl x)] [] S := by
      intro x ha
      have hb : (fun m => !anyF P (S 70) du m) m = true := by show (!anyF P (S 70) du m) = true; rw [ha]; rfl
      rw [he, fst1_t hb] at hp
      clear ih
      generalize hU : 3 ^ P = U at *
      refine aw_ildn (n := 69) C dX7_stuck_68 rfl rfl ?_
      refine aw_ifne (tgt := 74) (n := 72) C dX7_stuck_69 rfl rfl (by omega) (fun h_69 => ?_) (fun h_69 => ?_)
      · omega
      · refine aw_ildn (n := 73) C dX7_stuck_72 rfl rfl ?_
        refine hret 73 _ _ _ dX7_stuck_73 (Or.inl rfl) ?_
        exact hp
    have k1 : ∀ x, anyF P (S 70) du m = true → AW X cX7_stuck 5 68 [some (.inr (.inr 66)), some (.inl ((3 ^ P : Nat) : Int)), some (.inl (m : Int)), some (.inl 1), some (.inl x)] [] S := by
      intro x ha
      have hb : (fun m => !anyF P (S 70) du m) m = false := by show (!anyF P (S 70) du m) = false; rw [ha]; rfl
      have ih2 := fun x y => ih (m + 1) x y (by omega) (by rw [he, fst1_f hb])
      clear ih
      generalize hU : 3 ^ P = U at *
      refine aw_ildn (n := 69) C dX7_stuck_68 rfl rfl ?_
      refine aw_ifne (tgt := 74) (n := 72) C dX7_stuck_69 rfl rfl (by omega) (fun h_69 => ?_) (fun h_69 => ?_)
      · refine aw_iinc (n := 77) (L' := [_, _, _, _, _]) C dX7_stuck_74 rfl rfl (by decide) rfl rfl ?_
        refine aw_goto (tgt := 21) C dX7_stuck_77 rfl ?_
        exact ih2 _ _
      · omega
    have kin := d_st_in E (by omega) C k0 k1 (3 ^ P) 0 (by omega) (fun v hv => absurd hv (by omega))
    clear ih k0 k1
    generalize hU : 3 ^ P = U at *
    refine aw_ildn (n := 22) C dX7_stuck_21 rfl rfl ?_
    refine aw_aldn (n := 23) C dX7_stuck_22 rfl rfl ?_
    refine aw_getI (z := 5) (n := 26) C dX7_stuck_23 rfl fl_X7_84 rfl rfl rfl ?_
    rw [e1]
    refine aw_icge (tgt := 80) (n := 29) C dX7_stuck_26 rfl rfl (by omega) (by omega) (fun h_26 => ?_) (fun h_26 => ?_)
    · omega
    · refine aw_iconst (n := 30) C dX7_stuck_29 rfl ?_
      refine aw_istn (n := 31) (L' := [_, _, _, _, _]) C dX7_stuck_30 rfl (by decide) rfl rfl ?_
      refine aw_iconst (n := 32) C dX7_stuck_31 rfl ?_
      refine aw_istw (n := 34) (L' := [_, _, _, _, _]) C dX7_stuck_32 rfl (by decide) rfl rfl ?_
      exact kin
theorem m_stuck (W : MW S) (hse : ∀ c, 0 ≤ c → c < 3 → 0 ≤ S 70 c ∧ S 70 c ≤ 4) (hmp0 : S 66 5 ≠ 0 → 0 < S 66 6) : AMi 3 yX7_stuck cX7_stuck 5 (some .int) [.inr (.inr 66)] S (fun z S' => fr 80 84 S S' ∧ z = (if S 66 5 = 0 then -3 else eS (S 66 5).toNat (S 66 6).toNat (S 70) (dM S))) := by
  obtain ⟨t1, t2, t3, t4, t5, t6⟩ := id W
  obtain ⟨M, hM⟩ : ∃ M : Nat, S 66 5 = M := ⟨(S 66 5).toNat, by omega⟩
  obtain ⟨P, hP⟩ : ∃ P : Nat, S 66 6 = P := ⟨(S 66 6).toNat, by omega⟩
  rw [hM, hP, Int.toNat_natCast, Int.toNat_natCast]
  have h81 := p3_81 P (by omega)
  refine ami_intro (L := [_, none, none, none, none]) (by decide) (Or.inl rfl) rfl (Nat.le_of_ble_eq_true rfl) (fun X C hret => ?_)
  refine aw_aldn (n := 1) C dX7_stuck_0 rfl rfl ?_
  refine aw_getI (z := 5) (n := 4) C dX7_stuck_1 rfl fl_X7_84 rfl rfl rfl ?_
  refine aw_ifne (tgt := 10) (n := 7) C dX7_stuck_4 rfl rfl (by omega) (fun h_4 => ?_) (fun h_4 => ?_)
  · have hP0 := hmp0 h_4
    refine aw_aldn (n := 11) C dX7_stuck_10 rfl rfl ?_
    refine aw_cVi (n := 14) (vs := []) C dX7_stuck_11 rfl rfl rfl mm_X7_rows wM_X7_201 rfl rfl (Nat.le_of_ble_eq_true rfl) (d_rows (P := P) hP (by omega)) (by decide) (fun z_11 S_11 q_11 => ?_)
    obtain ⟨qz, f1, u1⟩ := q_11
    rw [qz]
    have B1 : EB S_11 M P := ⟨MW_fr W f1 (by omega), by rw [f1 66 (by omega)]; exact hM, by rw [f1 66 (by omega)]; exact hP, by omega, by rw [f1 70 (by omega)]; exact hse⟩
    have eD : dM S_11 = dM S := by
      funext m p
      unfold dM RM
      rw [f1 66 (by omega), f1 71 (by omega), f1 72 (by omega), f1 73 (by omega), f1 74 (by omega), f1 75 (by omega), f1 76 (by omega)]
    refine aw_istn (n := 15) (L' := [_, _, _, _, _]) C dX7_stuck_14 rfl (by decide) rfl rfl ?_
    refine aw_aldn (n := 16) C dX7_stuck_15 rfl rfl ?_
    refine aw_cVv (n := 19) (vs := []) C dX7_stuck_16 rfl rfl rfl mm_X7_layDues wM_X7_177 rfl rfl (Nat.le_of_ble_eq_true rfl) (d_layDues B1.1 B1.2.1 B1.2.2.1) (by decide) (fun S_16 q_16 => ?_)
    obtain ⟨g1, g2⟩ := q_16
    have E0 := EB_EM B1 u1 g1 g2
    rw [eD] at E0
    have e70 : S_16 70 = S 70 := by rw [g1 70 (by omega), f1 70 (by omega)]
    refine aw_iconst (n := 20) C dX7_stuck_19 rfl ?_
    refine aw_istn (n := 21) (L' := [_, _, _, _, _]) C dX7_stuck_20 rfl (by decide) rfl rfl ?_
    refine d_st_loop E0 C hret ⟨fr_tr (fr_w f1 (by omega) (by omega)) (fr_w g1 (by omega) (by omega)), ?_⟩ M 0 _ _ (by omega) rfl
    rw [e70, if_neg (by omega)]
  · refine aw_bipush (n := 9) C dX7_stuck_7 rfl rfl ?_
    refine hret 9 _ _ _ dX7_stuck_9 (Or.inl rfl) ?_
    exact ⟨fr_rf _ _ _, by rw [if_pos (by omega)]⟩
end MEC
