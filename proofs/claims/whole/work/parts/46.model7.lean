/-! the model: a line read -/
def FRL (S S' : Mem) : Prop := (∀ c, c ≠ 66 → c < 77 ∨ 80 ≤ c → S' c = S c) ∧ ∀ x, x ≠ 16 → x ≠ 17 → x ≠ 18 → S' 66 x = S 66 x
theorem FRL_rf (S : Mem) : FRL S S := ⟨fun _ _ _ => rfl, fun _ _ _ _ => rfl⟩
theorem FRL_tr {S S1 S2 : Mem} (h : FRL S S1) (g : FRL S1 S2) : FRL S S2 := ⟨fun c a b => (g.1 c a b).trans (h.1 c a b), fun x a b c => (g.2 x a b c).trans (h.2 x a b c)⟩
theorem FRL_f {S : Mem} {x v : Int} (hx : x = 16 ∨ x = 17 ∨ x = 18) : FRL S (st2 S 66 x v) := ⟨fun c a _ => st2_o c a, fun y a b c => st2_n (by omega)⟩
theorem FRL_c {S : Mem} {c : Nat} {x v : Int} (hc : 77 ≤ c ∧ c < 80) : FRL S (st2 S c x v) := ⟨fun d _ b => st2_o d (by omega), fun y _ _ _ => st2_c (by omega)⟩
section MLI
variable {X : AMX} {S : Mem} {b n : Int}
theorem d_digit {e lo hi : Int} (ha : 0 ≤ S 66 16 ∧ S 66 16 ≤ e) (he : e ≤ 240) (hc : ∀ j, rng (S 69 j)) (hl : 0 ≤ lo ∧ lo ≤ 9) (hh : 0 ≤ hi ∧ hi ≤ 9) : AMi 1 yX7_digit cX7_digit 4 (some .int) [.inr (.inr 66), .inl e, .inl lo, .inl hi] S (fun z S' => (z = -9 ∧ S' = S ∧ (e ≤ S 66 16 ∨ ¬ (48 + lo ≤ S 69 (S 66 16) ∧ S 69 (S 66 16) ≤ 48 + hi))) ∨ (z = S 69 (S 66 16) - 48 ∧ S' = st2 S 66 16 (S 66 16 + 1) ∧ S 66 16 < e ∧ 48 + lo ≤ S 69 (S 66 16) ∧ S 69 (S 66 16) ≤ 48 + hi)) := by
  have hca := hc (S 66 16)
  have e1 : st2 S 66 16 (S 66 16 + 1) 66 16 = S 66 16 + 1 := rfl
  refine ami_intro (L := [_, _, _, _]) (by decide) (Or.inl rfl) rfl (Nat.le_of_ble_eq_true rfl) (fun X C hret => ?_)
  refine aw_aldn (n := 1) C dX7_digit_0 rfl rfl ?_
  refine aw_getI (z := 16) (n := 4) C dX7_digit_1 rfl fl_X7_87 rfl rfl rfl ?_
  refine aw_ildn (n := 5) C dX7_digit_4 rfl rfl ?_
  refine aw_icge (tgt := 31) (n := 8) C dX7_digit_5 rfl rfl (by omega) (by omega) (fun h_5 => ?_) (fun h_5 => ?_)
  · refine aw_bipush (n := 33) C dX7_digit_31 rfl rfl ?_
    refine hret 33 _ _ _ dX7_digit_33 (Or.inl rfl) ?_
    exact Or.inl ⟨rfl, rfl, by omega⟩
  · refine aw_aldn (n := 9) C dX7_digit_8 rfl rfl ?_
    refine aw_getR (n := 12) C dX7_digit_9 rfl fl_X7_16 rfl rfl ?_
    refine aw_aldn (n := 13) C dX7_digit_12 rfl rfl ?_
    refine aw_getI (z := 16) (n := 16) C dX7_digit_13 rfl fl_X7_87 rfl rfl rfl ?_
    refine aw_iald (n := 17) C dX7_digit_16 rfl rfl (by omega) (by omega) ?_
    refine aw_bipush (n := 19) C dX7_digit_17 rfl rfl ?_
    refine aw_ildn (n := 20) C dX7_digit_19 rfl rfl ?_
    refine aw_iadd (n := 21) C dX7_digit_20 rfl ?_
    refine aw_bipush (n := 23) C dX7_digit_21 rfl rfl ?_
    refine aw_ildn (n := 24) C dX7_digit_23 rfl rfl ?_
    refine aw_iadd (n := 25) C dX7_digit_24 rfl ?_
    refine aw_cSi (n := 28) (vs := [_, _, _]) C dX7_digit_25 rfl rfl rfl mm_X7_within wM_X7_77 (Nat.le_of_ble_eq_true rfl) (d_within (by omega) (by omega) (by omega)) (by decide) (fun z_25 S_25 q_25 => ?_)
    rw [q_25.1, q_25.2]
    clear q_25 S_25 z_25
    refine aw_ifne (tgt := 34) (n := 31) C dX7_digit_28 rfl rfl (by omega) (fun h_28 => ?_) (fun h_28 => ?_)
    · refine aw_aldn (n := 35) C dX7_digit_34 rfl rfl ?_
      refine aw_dup (n := 36) C dX7_digit_35 rfl rfl ?_
      refine aw_getI (z := 16) (n := 39) C dX7_digit_36 rfl fl_X7_87 rfl rfl rfl ?_
      refine aw_iconst (n := 40) C dX7_digit_39 rfl ?_
      refine aw_iadd (n := 41) C dX7_digit_40 rfl ?_
      refine aw_put (z := 16) (n := 44) C dX7_digit_41 rfl fp_X7_87 rfl rfl rfl (Or.inl rfl) ?_
      refine aw_aldn (n := 45) C dX7_digit_44 rfl rfl ?_
      refine aw_getR (n := 48) C dX7_digit_45 rfl fl_X7_16 rfl rfl ?_
      refine aw_aldn (n := 49) C dX7_digit_48 rfl rfl ?_
      refine aw_getI (z := 16) (n := 52) C dX7_digit_49 rfl fl_X7_87 rfl rfl rfl ?_
      refine aw_iconst (n := 53) C dX7_digit_52 rfl ?_
      rw [e1]
      refine aw_isub (n := 54) C dX7_digit_53 rfl ?_
      rw [show S 66 16 + 1 - 1 = S 66 16 by omega]
      refine aw_iald (n := 55) C dX7_digit_54 rfl rfl (by omega) (by omega) ?_
      refine aw_bipush (n := 57) C dX7_digit_55 rfl rfl ?_
      refine aw_isub (n := 58) C dX7_digit_57 rfl ?_
      refine hret 58 _ _ _ dX7_digit_58 (Or.inl rfl) ?_
      exact Or.inr ⟨rfl, rfl, by omega, by omega, by omega⟩
    · refine aw_bipush (n := 33) C dX7_digit_31 rfl rfl ?_
      refine hret 33 _ _ _ dX7_digit_33 (Or.inl rfl) ?_
      exact Or.inl ⟨rfl, rfl, by omega⟩
theorem d_isSign {e c : Int} (ha : 0 ≤ S 66 16 ∧ S 66 16 ≤ e) (he : e ≤ 240) (hc : ∀ j, rng (S 69 j)) (hcc : rng c) : AMi 0 yX7_isSign cX7_isSign 3 (some .boolean) [.inr (.inr 66), .inl e, .inl c] S (fun z S' => (z = 0 ∧ S' = S ∧ (e ≤ S 66 16 ∨ ¬ S 69 (S 66 16) = c)) ∨ (z = 1 ∧ S' = st2 S 66 16 (S 66 16 + 1) ∧ S 66 16 < e ∧ S 69 (S 66 16) = c)) := by
  have hca := hc (S 66 16)
  refine ami_intro (L := [_, _, _]) (by decide) (Or.inr rfl) rfl (Nat.le_of_ble_eq_true rfl) (fun X C hret => ?_)
  refine aw_aldn (n := 1) C dX7_isSign_0 rfl rfl ?_
  refine aw_getI (z := 16) (n := 4) C dX7_isSign_1 rfl fl_X7_87 rfl rfl rfl ?_
  refine aw_ildn (n := 5) C dX7_isSign_4 rfl rfl ?_
  refine aw_icge (tgt := 21) (n := 8) C dX7_isSign_5 rfl rfl (by omega) (by omega) (fun h_5 => ?_) (fun h_5 => ?_)
  · refine aw_iconst (n := 22) C dX7_isSign_21 rfl ?_
    refine hret 22 _ _ _ dX7_isSign_22 (Or.inr ⟨rfl, by omega⟩) ?_
    exact Or.inl ⟨rfl, rfl, by omega⟩
  · refine aw_aldn (n := 9) C dX7_isSign_8 rfl rfl ?_
    refine aw_getR (n := 12) C dX7_isSign_9 rfl fl_X7_16 rfl rfl ?_
    refine aw_aldn (n := 13) C dX7_isSign_12 rfl rfl ?_
    refine aw_getI (z := 16) (n := 16) C dX7_isSign_13 rfl fl_X7_87 rfl rfl rfl ?_
    refine aw_iald (n := 17) C dX7_isSign_16 rfl rfl (by omega) (by omega) ?_
    refine aw_ildn (n := 18) C dX7_isSign_17 rfl rfl ?_
    refine aw_iceq (tgt := 23) (n := 21) C dX7_isSign_18 rfl rfl (by omega) (by omega) (fun h_18 => ?_) (fun h_18 => ?_)
    · refine aw_aldn (n := 24) C dX7_isSign_23 rfl rfl ?_
      refine aw_dup (n := 25) C dX7_isSign_24 rfl rfl ?_
      refine aw_getI (z := 16) (n := 28) C dX7_isSign_25 rfl fl_X7_87 rfl rfl rfl ?_
      refine aw_iconst (n := 29) C dX7_isSign_28 rfl ?_
      refine aw_iadd (n := 30) C dX7_isSign_29 rfl ?_
      refine aw_put (z := 16) (n := 33) C dX7_isSign_30 rfl fp_X7_87 rfl rfl rfl (Or.inl rfl) ?_
      refine aw_iconst (n := 34) C dX7_isSign_33 rfl ?_
      refine hret 34 _ _ _ dX7_isSign_34 (Or.inr ⟨rfl, by omega⟩) ?_
      exact Or.inr ⟨rfl, rfl, by omega, by omega⟩
    · refine aw_iconst (n := 22) C dX7_isSign_21 rfl ?_
      refine hret 22 _ _ _ dX7_isSign_22 (Or.inr ⟨rfl, by omega⟩) ?_
      exact Or.inl ⟨rfl, rfl, by omega⟩
/-- how reading a passenger ends -/
def rpE (q : Fn) (n b : Int) (a p : Nat) (S : Mem) (z : Int) (S' : Mem) : Prop := FRL S S' ∧ ((z = 0 ∧ ∃ v : Nat, (∀ K, ffP q n K 4 1 a = v) ∧ S' 66 16 = b + v) ∨ (z = 1 ∧ (∀ K, ffP q n K 4 1 a = K) ∧ (a : Int) + 4 ≤ n ∧ S' 66 16 = b + a + 4 ∧ S' 66 18 = p + 1 ∧ S' 66 17 = S 66 17 ∧ S' 77 = S 77 ∧ S' 78 = S 78 ∧ (∀ x, x < 3 * (p : Int) → S' 79 x = S 79 x) ∧ S' 79 (3 * p) = kdOf (q a) ∧ S' 79 (3 * p + 1) = 10 * (q (a + 1) - 48) + q (a + 2) - 48 ∧ S' 79 (3 * p + 2) = q (a + 3) - 48))
theorem ffP_t {q : Fn} {n K : Int} {r part a : Nat} (h : n ≤ (a : Int) ∨ fitP part (q a) = false) : ffP q n K (r + 1) part a = a := by unfold ffP; rw [if_pos h]
theorem ffP_f {q : Fn} {n K : Int} {r part a : Nat} (h : (a : Int) < n) (h2 : fitP part (q a) = true) : ffP q n K (r + 1) part a = ffP q n K r (part + 1) (a + 1) := by
  rw [ffP, if_neg]
  intro hh
  rcases hh with hh | hh
  · omega
  · rw [h2] at hh; cases hh
theorem d_rp67 {post : Int → Mem → Prop} {q : Fn} {a p : Nat} {kv cd : Int} {S1 : Mem} (hq : ∀ x : Int, q x = S 69 (b + x)) (hb : 0 ≤ b) (hn : 0 ≤ n) (hbn : b + n ≤ 240) (hc : ∀ j, rng (S 69 j)) (hp : p < 4) (han : (a : Int) ≤ n) (h16 : S 66 16 = b + a) (h18 : S 66 18 = p) (hS1 : S1 = st2 S 79 (3 * (p : Int)) kv) (hkr : -9 ≤ kv ∧ kv ≤ 2) (hk1 : kv = -9 → (n ≤ (a : Int) ∨ fitP 1 (q a) = false)) (hk2 : kv ≠ -9 → (a : Int) < n ∧ fitP 1 (q a) = true ∧ kv = kdOf (q a)) (C : CX X 2 RX7 cX7_readPassenger 6) (hret : ∀ (pc : Nat) (L : List (Option AV)) (z : Int) (S' : Mem), decode cX7_readPassenger pc = .ok (.ireturn, 1) → ((some FieldType.boolean) = some .int ∨ ((some FieldType.boolean) = some .boolean ∧ (z = 0 ∨ z = 1))) → post z S' → AW X cX7_readPassenger 6 pc L [.inl z] S') (hpost : ∀ z S', rpE q n b a p S z S' → post z S') : AW X cX7_readPassenger 6 67 [some (.inr (.inr 66)), some (.inl (b + n)), some (.inl (3 * (p : Int))), some (.inl cd), none, none] [] S1 := by
  subst hS1
  have f0 : FRL S (st2 S 79 (3 * (p : Int)) kv) := FRL_c (by omega)
  generalize hS1 : st2 S 79 (3 * (p : Int)) kv = S1 at *
  have v0 : S1 79 (3 * p) = kv := by rw [← hS1, st2_s]
  have v9 : ∀ x, x < 3 * (p : Int) → S1 79 x = S 79 x := fun x hx => by rw [← hS1, st2_n (by omega)]
  have g16 : S1 66 16 = b + a := by rw [← hS1]; exact h16
  have g17 : S1 66 17 = S 66 17 := by rw [← hS1]; rfl
  have g18 : S1 66 18 = p := by rw [← hS1]; exact h18
  have g77 : S1 77 = S 77 := by rw [← hS1]; rfl
  have g78 : S1 78 = S 78 := by rw [← hS1]; rfl
  have g69 : S1 69 = S 69 := by rw [← hS1]; rfl
  refine aw_aldn (n := 68) C dX7_readPassenger_67 rfl rfl ?_
  refine aw_getR (n := 71) C dX7_readPassenger_68 rfl fl_X7_47 rfl rfl ?_
  refine aw_ildn (n := 72) C dX7_readPassenger_71 rfl rfl ?_
  refine aw_iald (n := 73) C dX7_readPassenger_72 rfl rfl (by omega) (by omega) ?_
  rw [v0]
  refine aw_bipush (n := 75) C dX7_readPassenger_73 rfl rfl ?_
  refine aw_icne (tgt := 80) (n := 78) C dX7_readPassenger_75 rfl rfl (by omega) (by omega) (fun h_75 => ?_) (fun h_75 => ?_)
  · obtain ⟨ka, kb, kc⟩ := hk2 h_75
    refine aw_aldn (n := 81) C dX7_readPassenger_80 rfl rfl ?_
    refine aw_dup (n := 82) C dX7_readPassenger_81 rfl rfl ?_
    refine aw_getI (z := 16) (n := 85) C dX7_readPassenger_82 rfl fl_X7_87 rfl rfl rfl ?_
    refine aw_iconst (n := 86) C dX7_readPassenger_85 rfl ?_
    rw [g16]
    refine aw_iadd (n := 87) C dX7_readPassenger_86 rfl ?_
    refine aw_put (z := 16) (n := 90) C dX7_readPassenger_87 rfl fp_X7_87 rfl rfl rfl (Or.inl rfl) ?_
    have f2 := FRL_tr f0 (FRL_f (S := S1) (x := 16) (v := b + a + 1) (Or.inl rfl))
    generalize hS2 : st2 S1 66 16 (b + a + 1) = S2 at *
    have i16 : S2 66 16 = b + a + 1 := by rw [← hS2]; rfl
    have i17 : S2 66 17 = S 66 17 := by rw [← hS2]; exact g17
    have i18 : S2 66 18 = p := by rw [← hS2]; exact g18
    have i77 : S2 77 = S 77 := by rw [← hS2]; exact g77
    have i78 : S2 78 = S 78 := by rw [← hS2]; exact g78
    have i79 : S2 79 = S1 79 := by rw [← hS2]; rfl
    have i69 : S2 69 = S 69 := by rw [← hS2]; exact g69
    have fp1 : ∀ K, ffP q n K 4 1 a = ffP q n K 3 2 (a + 1) := fun K => ffP_f ka kb
    have q1 : q (a + 1) = S 69 (b + a + 1) := by rw [hq]; congr 1; omega
    have q2 : q (a + 2) = S 69 (b + a + 1 + 1) := by rw [hq]; congr 1; omega
    have q3 : q (a + 3) = S 69 (b + a + 1 + 1 + 1) := by rw [hq]; congr 1; omega
    refine aw_aldn (n := 91) C dX7_readPassenger_90 rfl rfl ?_
    refine aw_ildn (n := 92) C dX7_readPassenger_91 rfl rfl ?_
    refine aw_iconst (n := 93) C dX7_readPassenger_92 rfl ?_
    refine aw_iconst (n := 94) C dX7_readPassenger_93 rfl ?_
    refine aw_cVi (n := 97) (vs := [_, _, _]) C dX7_readPassenger_94 rfl rfl rfl mm_X7_digit wM_X7_130 rfl rfl (Nat.le_of_ble_eq_true rfl) (d_digit (S := S2) (by omega) hbn (fun j => by rw [i69]; exact hc j) (by decide) (by decide)) (by decide) (fun z_94 S_94 q_94 => ?_)
    rw [i16, i69] at q_94
    have hz1 : rng z_94 := by have := hc (b + a + 1); omega
    refine aw_istw (n := 99) (L' := [_, _, _, _, _, _]) C dX7_readPassenger_97 rfl (by decide) rfl rfl ?_
    refine aw_ildw (n := 101) C dX7_readPassenger_99 rfl rfl ?_
    refine aw_bipush (n := 103) C dX7_readPassenger_101 rfl rfl ?_
    refine aw_icne (tgt := 108) (n := 106) C dX7_readPassenger_103 rfl rfl (by omega) (by omega) (fun h_103 => ?_) (fun h_103 => ?_)
    · obtain ⟨e1, e2, e3, e4, e5⟩ := q_94.resolve_left (fun hh => h_103 hh.1)
      rw [e2]
      have f3 := FRL_tr f2 (FRL_f (S := S2) (x := 16) (v := b + a + 1 + 1) (Or.inl rfl))
      generalize hS3 : st2 S2 66 16 (b + a + 1 + 1) = S3 at *
      have j16 : S3 66 16 = b + a + 1 + 1 := by rw [← hS3]; rfl
      have j17 : S3 66 17 = S 66 17 := by rw [← hS3]; exact i17
      have j18 : S3 66 18 = p := by rw [← hS3]; exact i18
      have j77 : S3 77 = S 77 := by rw [← hS3]; exact i77
      have j78 : S3 78 = S 78 := by rw [← hS3]; exact i78
      have j79 : S3 79 = S1 79 := by rw [← hS3]; exact i79
      have j69 : S3 69 = S 69 := by rw [← hS3]; exact i69
      have fp2 : ∀ K, ffP q n K 4 1 a = ffP q n K 2 3 (a + 1 + 1) := fun K => by
        rw [fp1 K]
        refine ffP_f (by omega) (decide_eq_true ?_)
        show 48 ≤ q ((a : Int) + 1) ∧ q ((a : Int) + 1) ≤ 53
        rw [q1]
        omega
      refine aw_aldn (n := 109) C dX7_readPassenger_108 rfl rfl ?_
      refine aw_ildn (n := 110) C dX7_readPassenger_109 rfl rfl ?_
      refine aw_iconst (n := 111) C dX7_readPassenger_110 rfl ?_
      refine aw_bipush (n := 113) C dX7_readPassenger_111 rfl rfl ?_
      refine aw_cVi (n := 116) (vs := [_, _, _]) C dX7_readPassenger_113 rfl rfl rfl mm_X7_digit wM_X7_130 rfl rfl (Nat.le_of_ble_eq_true rfl) (d_digit (S := S3) (by omega) hbn (fun j => by rw [j69]; exact hc j) (by decide) (by decide)) (by decide) (fun z_113 S_113 q_113 => ?_)
      rw [j16, j69] at q_113
      have hz2 : rng z_113 := by have := hc (b + a + 1 + 1); omega
      refine aw_istw (n := 118) (L' := [_, _, _, _, _, _]) C dX7_readPassenger_116 rfl (by decide) rfl rfl ?_
      refine aw_ildw (n := 120) C dX7_readPassenger_118 rfl rfl ?_
      refine aw_bipush (n := 122) C dX7_readPassenger_120 rfl rfl ?_
      refine aw_icne (tgt := 127) (n := 125) C dX7_readPassenger_122 rfl rfl (by omega) (by omega) (fun h_122 => ?_) (fun h_122 => ?_)
      · obtain ⟨d1, d2, d3, d4, d5⟩ := q_113.resolve_left (fun hh => h_122 hh.1)
        rw [d2]
        have f4 := FRL_tr f3 (FRL_f (S := S3) (x := 16) (v := b + a + 1 + 1 + 1) (Or.inl rfl))
        generalize hS4 : st2 S3 66 16 (b + a + 1 + 1 + 1) = S4 at *
        have k16 : S4 66 16 = b + a + 1 + 1 + 1 := by rw [← hS4]; rfl
        have k17 : S4 66 17 = S 66 17 := by rw [← hS4]; exact j17
        have k18 : S4 66 18 = p := by rw [← hS4]; exact j18
        have k77 : S4 77 = S 77 := by rw [← hS4]; exact j77
        have k78 : S4 78 = S 78 := by rw [← hS4]; exact j78
        have k79 : S4 79 = S1 79 := by rw [← hS4]; exact j79
        have k69 : S4 69 = S 69 := by rw [← hS4]; exact j69
        have fp3 : ∀ K, ffP q n K 4 1 a = ffP q n K 1 4 (a + 1 + 1 + 1) := fun K => by
          rw [fp2 K]
          refine ffP_f (by omega) (decide_eq_true ?_)
          show 48 ≤ q ((a + 1 + 1 : Nat) : Int) ∧ q ((a + 1 + 1 : Nat) : Int) ≤ 57
          rw [show ((a + 1 + 1 : Nat) : Int) = (a : Int) + 2 by omega, q2]
          omega
        refine aw_aldn (n := 128) C dX7_readPassenger_127 rfl rfl ?_
        refine aw_getR (n := 131) C dX7_readPassenger_128 rfl fl_X7_47 rfl rfl ?_
        refine aw_ildn (n := 132) C dX7_readPassenger_131 rfl rfl ?_
        refine aw_iconst (n := 133) C dX7_readPassenger_132 rfl ?_
        refine aw_iadd (n := 134) C dX7_readPassenger_133 rfl ?_
        refine aw_bipush (n := 136) C dX7_readPassenger_134 rfl rfl ?_
        refine aw_ildw (n := 138) C dX7_readPassenger_136 rfl rfl ?_
        refine aw_imul (n := 139) C dX7_readPassenger_138 rfl ?_
        refine aw_ildw (n := 141) C dX7_readPassenger_139 rfl rfl ?_
        refine aw_iadd (n := 142) C dX7_readPassenger_141 rfl ?_
        refine aw_iast (n := 143) C dX7_readPassenger_142 rfl rfl (by omega) (by omega) ?_
        generalize hT : 10 * z_94 + z_113 = T at *
        have f5 := FRL_tr f4 (FRL_c (S := S4) (c := 79) (x := 3 * (p : Int) + 1) (v := T) (by omega))
        generalize hS5 : st2 S4 79 (3 * (p : Int) + 1) T = S5 at *
        have l16 : S5 66 16 = b + a + 1 + 1 + 1 := by rw [← hS5]; exact k16
        have l17 : S5 66 17 = S 66 17 := by rw [← hS5]; exact k17
        have l18 : S5 66 18 = p := by rw [← hS5]; exact k18
        have l77 : S5 77 = S 77 := by rw [← hS5]; exact k77
        have l78 : S5 78 = S 78 := by rw [← hS5]; exact k78
        have l69 : S5 69 = S 69 := by rw [← hS5]; exact k69
        have l0 : S5 79 (3 * p) = kv := by rw [← hS5, st2_n (by omega), k79, v0]
        have l1 : S5 79 (3 * p + 1) = T := by rw [← hS5, st2_s]
        have l9 : ∀ x, x < 3 * (p : Int) → S5 79 x = S 79 x := fun x hx => by rw [← hS5, st2_n (by omega), k79, v9 x hx]
        refine aw_aldn (n := 144) C dX7_readPassenger_143 rfl rfl ?_
        refine aw_getR (n := 147) C dX7_readPassenger_144 rfl fl_X7_47 rfl rfl ?_
        refine aw_ildn (n := 148) C dX7_readPassenger_147 rfl rfl ?_
        refine aw_iconst (n := 149) C dX7_readPassenger_148 rfl ?_
        refine aw_iadd (n := 150) C dX7_readPassenger_149 rfl ?_
        refine aw_aldn (n := 151) C dX7_readPassenger_150 rfl rfl ?_
        refine aw_ildn (n := 152) C dX7_readPassenger_151 rfl rfl ?_
        refine aw_iconst (n := 153) C dX7_readPassenger_152 rfl ?_
        refine aw_bipush (n := 155) C dX7_readPassenger_153 rfl rfl ?_
        refine aw_cVi (n := 158) (vs := [_, _, _]) C dX7_readPassenger_155 rfl rfl rfl mm_X7_digit wM_X7_130 rfl rfl (Nat.le_of_ble_eq_true rfl) (d_digit (S := S5) (by omega) hbn (fun j => by rw [l69]; exact hc j) (by decide) (by decide)) (by decide) (fun z_155 S_155 q_155 => ?_)
        rw [l16, l69] at q_155
        have hz3 : rng z_155 := by have := hc (b + a + 1 + 1 + 1); omega
        have m18 : S_155 66 18 = p := by
          rcases q_155 with ⟨-, c2, -⟩ | ⟨-, c2, -⟩
          · rw [c2]; exact l18
          · rw [c2]; exact l18
        refine aw_iast (n := 159) C dX7_readPassenger_158 rfl rfl (by omega) (by omega) ?_
        refine aw_aldn (n := 160) C dX7_readPassenger_159 rfl rfl ?_
        refine aw_dup (n := 161) C dX7_readPassenger_160 rfl rfl ?_
        refine aw_getI (z := 18) (n := 164) C dX7_readPassenger_161 rfl fl_X7_114 rfl rfl rfl ?_
        refine aw_iconst (n := 165) C dX7_readPassenger_164 rfl ?_
        rw [show st2 S_155 79 (3 * (p : Int) + 2) z_155 66 18 = S_155 66 18 from rfl, m18]
        refine aw_iadd (n := 166) C dX7_readPassenger_165 rfl ?_
        refine aw_put (z := 18) (n := 169) C dX7_readPassenger_166 rfl fp_X7_114 rfl rfl rfl (Or.inl rfl) ?_
        refine aw_aldn (n := 170) C dX7_readPassenger_169 rfl rfl ?_
        refine aw_getR (n := 173) C dX7_readPassenger_170 rfl fl_X7_47 rfl rfl ?_
        refine aw_ildn (n := 174) C dX7_readPassenger_173 rfl rfl ?_
        refine aw_iconst (n := 175) C dX7_readPassenger_174 rfl ?_
        refine aw_iadd (n := 176) C dX7_readPassenger_175 rfl ?_
        refine aw_iald (n := 177) C dX7_readPassenger_176 rfl rfl (by omega) (by omega) ?_
        rw [show st2 (st2 S_155 79 (3 * (p : Int) + 2) z_155) 66 18 ((p : Int) + 1) 79 (3 * (p : Int) + 2) = z_155 from st2_s _ _ _ _]
        refine aw_bipush (n := 179) C dX7_readPassenger_177 rfl rfl ?_
        have LA : z_155 = -9 → post 0 (st2 (st2 S_155 79 (3 * (p : Int) + 2) z_155) 66 18 ((p : Int) + 1)) := fun hz => by
          obtain ⟨c1, c2, c3⟩ := q_155.resolve_right (fun hh => by omega)
          rw [c2]
          refine hpost _ _ ⟨FRL_tr f5 (FRL_tr (FRL_c (by omega)) (FRL_f (Or.inr (Or.inr rfl)))), Or.inl ⟨rfl, a + 1 + 1 + 1, fun K => ?_, ?_⟩⟩
          · rw [fp3 K]
            refine ffP_t ?_
            rcases c3 with c3 | c3
            · exact Or.inl (by omega)
            · refine Or.inr (decide_eq_false (fun hh => c3 ?_))
              rw [← q3]
              exact hh
          · show S5 66 16 = _
            rw [l16]; omega
        have LB : ¬ z_155 = -9 → post 1 (st2 (st2 S_155 79 (3 * (p : Int) + 2) z_155) 66 18 ((p : Int) + 1)) := fun hz => by
          obtain ⟨c1, c2, c3, c4, c5⟩ := q_155.resolve_left (fun hh => hz hh.1)
          rw [c2]
          refine hpost _ _ ⟨FRL_tr f5 (FRL_tr (FRL_f (Or.inl rfl)) (FRL_tr (FRL_c (by omega)) (FRL_f (Or.inr (Or.inr rfl))))), Or.inr ⟨rfl, fun K => ?_, by omega, ?_, rfl, l17, l77, l78, fun x hx => ?_, ?_, ?_, ?_⟩⟩
          · rw [fp3 K]
            refine ffP_f (r := 0) (part := 4) (by omega) (decide_eq_true ?_)
            show 48 ≤ q ((a + 1 + 1 + 1 : Nat) : Int) ∧ q ((a + 1 + 1 + 1 : Nat) : Int) ≤ 57
            rw [show ((a + 1 + 1 + 1 : Nat) : Int) = (a : Int) + 3 by omega, q3]
            omega
          · show b + a + 1 + 1 + 1 + 1 = _
            omega
          · show st2 (st2 S5 66 16 _) 79 (3 * (p : Int) + 2) z_155 79 x = _
            rw [st2_n (by omega)]
            exact l9 x hx
          · show st2 (st2 S5 66 16 _) 79 (3 * (p : Int) + 2) z_155 79 (3 * (p : Int)) = _
            rw [st2_n (by omega), ← kc]
            exact l0
          · show st2 (st2 S5 66 16 _) 79 (3 * (p : Int) + 2) z_155 79 (3 * (p : Int) + 1) = _
            rw [st2_n (by omega), q1, q2]
            show S5 79 (3 * (p : Int) + 1) = _
            omega
          · show st2 (st2 S5 66 16 _) 79 (3 * (p : Int) + 2) z_155 79 (3 * (p : Int) + 2) = _
            rw [st2_s, q3]
            exact c1
        refine aw_iceq (tgt := 186) (n := 182) C dX7_readPassenger_179 rfl rfl (by omega) (by omega) (fun h_179 => ?_) (fun h_179 => ?_)
        · refine aw_iconst (n := 187) C dX7_readPassenger_186 rfl ?_
          refine hret 187 _ _ _ dX7_readPassenger_187 (Or.inr ⟨rfl, by omega⟩) ?_
          first | exact LA h_179 | exact LB h_179
        · refine aw_iconst (n := 183) C dX7_readPassenger_182 rfl ?_
          refine aw_goto (tgt := 187) C dX7_readPassenger_183 rfl ?_
          refine hret 187 _ _ _ dX7_readPassenger_187 (Or.inr ⟨rfl, by omega⟩) ?_
          first | exact LA h_179 | exact LB h_179
      · refine aw_iconst (n := 126) C dX7_readPassenger_125 rfl ?_
        refine hret 126 _ _ _ dX7_readPassenger_126 (Or.inr ⟨rfl, by omega⟩) ?_
        rcases q_113 with ⟨-, d2, d3⟩ | ⟨d1, -, -, d4, d5⟩
        · rw [d2]
          exact hpost _ _ ⟨f3, Or.inl ⟨rfl, a + 1 + 1, fun K => by
            rw [fp2 K]
            refine ffP_t ?_
            rcases d3 with d3 | d3
            · exact Or.inl (by omega)
            · refine Or.inr (decide_eq_false (fun hh => d3 ?_))
              rw [← q2]
              exact hh, by rw [j16]; omega⟩⟩
        · omega
    · refine aw_iconst (n := 107) C dX7_readPassenger_106 rfl ?_
      refine hret 107 _ _ _ dX7_readPassenger_107 (Or.inr ⟨rfl, by omega⟩) ?_
      rcases q_94 with ⟨-, e2, e3⟩ | ⟨e1, -, -, e4, e5⟩
      · rw [e2]
        exact hpost _ _ ⟨f2, Or.inl ⟨rfl, a + 1, fun K => by
          rw [fp1 K]
          refine ffP_t ?_
          rcases e3 with e3 | e3
          · exact Or.inl (by omega)
          · refine Or.inr (decide_eq_false (fun hh => e3 ?_))
            rw [← q1]
            exact hh, by rw [i16]; omega⟩⟩
      · omega
  · refine aw_iconst (n := 79) C dX7_readPassenger_78 rfl ?_
    refine hret 79 _ _ _ dX7_readPassenger_79 (Or.inr ⟨rfl, by omega⟩) ?_
    exact hpost _ _ ⟨f0, Or.inl ⟨rfl, a, fun K => ffP_t (hk1 h_75), g16⟩⟩
theorem d_readPassenger {q : Fn} {a p : Nat} (hq : ∀ x : Int, q x = S 69 (b + x)) (hb : 0 ≤ b) (hn : 0 ≤ n) (hbn : b + n ≤ 240) (hc : ∀ j, rng (S 69 j)) (hp : p < 4) (han : (a : Int) ≤ n) (h16 : S 66 16 = b + a) (h18 : S 66 18 = p) : AMi 2 yX7_readPassenger cX7_readPassenger 6 (some .boolean) [.inr (.inr 66), .inl (b + n)] S (fun z S' => rpE q n b a p S z S') := by
  have hqa : q a = S 69 (b + a) := hq a
  have hca := hc (b + a)
  refine ami_intro (L := [_, _, none, none, none, none]) (by decide) (Or.inr rfl) rfl (Nat.le_of_ble_eq_true rfl) (fun X C hret => ?_)
  refine aw_iconst (n := 1) C dX7_readPassenger_0 rfl ?_
  refine aw_aldn (n := 2) C dX7_readPassenger_1 rfl rfl ?_
  refine aw_getI (z := 18) (n := 5) C dX7_readPassenger_2 rfl fl_X7_114 rfl rfl rfl ?_
  rw [h18]
  refine aw_imul (n := 6) C dX7_readPassenger_5 rfl ?_
  refine aw_istn (n := 7) (L' := [_, _, _, _, _, _]) C dX7_readPassenger_6 rfl (by decide) rfl rfl ?_
  refine aw_aldn (n := 8) C dX7_readPassenger_7 rfl rfl ?_
  refine aw_getI (z := 16) (n := 11) C dX7_readPassenger_8 rfl fl_X7_87 rfl rfl rfl ?_
  refine aw_ildn (n := 12) C dX7_readPassenger_11 rfl rfl ?_
  rw [h16]
  refine aw_icge (tgt := 27) (n := 15) C dX7_readPassenger_12 rfl rfl (by omega) (by omega) (fun h_12 => ?_) (fun h_12 => ?_)
  · refine aw_iconst (n := 28) C dX7_readPassenger_27 rfl ?_
    refine aw_istn (n := 29) (L' := [_, _, _, _, _, _]) C dX7_readPassenger_28 rfl (by decide) rfl rfl ?_
    refine aw_aldn (n := 30) C dX7_readPassenger_29 rfl rfl ?_
    refine aw_getR (n := 33) C dX7_readPassenger_30 rfl fl_X7_47 rfl rfl ?_
    refine aw_ildn (n := 34) C dX7_readPassenger_33 rfl rfl ?_
    refine aw_ildn (n := 35) C dX7_readPassenger_34 rfl rfl ?_
    refine aw_bipush (n := 37) C dX7_readPassenger_35 rfl rfl ?_
    refine aw_icne (tgt := 44) (n := 40) C dX7_readPassenger_37 rfl rfl (by omega) (by omega) (fun h_37 => ?_) (fun h_37 => ?_)
    · refine aw_ildn (n := 45) C dX7_readPassenger_44 rfl rfl ?_
      refine aw_bipush (n := 47) C dX7_readPassenger_45 rfl rfl ?_
      refine aw_icne (tgt := 54) (n := 50) C dX7_readPassenger_47 rfl rfl (by omega) (by omega) (fun h_47 => ?_) (fun h_47 => ?_)
      · refine aw_ildn (n := 55) C dX7_readPassenger_54 rfl rfl ?_
        refine aw_bipush (n := 57) C dX7_readPassenger_55 rfl rfl ?_
        refine aw_icne (tgt := 64) (n := 60) C dX7_readPassenger_57 rfl rfl (by omega) (by omega) (fun h_57 => ?_) (fun h_57 => ?_)
        · refine aw_bipush (n := 66) C dX7_readPassenger_64 rfl rfl ?_
          refine aw_iast (n := 67) C dX7_readPassenger_66 rfl rfl (by omega) (by omega) ?_
          refine d_rp67 hq hb hn hbn hc hp han h16 h18 rfl (by decide) (fun hh => ?_) (fun hh => ?_) C hret (fun z S' h => h)
          · first | (exfalso; revert hh; decide; done) | exact Or.inl (by omega) | (refine Or.inr (decide_eq_false ?_); rw [hqa]; omega)
          · first | (exact absurd rfl hh) | (exact ⟨by omega, decide_eq_true (by rw [hqa]; omega), by unfold kdOf; rw [hqa]; omega⟩) | (exfalso; omega)
        · refine aw_iconst (n := 61) C dX7_readPassenger_60 rfl ?_
          refine aw_goto (tgt := 66) C dX7_readPassenger_61 rfl ?_
          refine aw_iast (n := 67) C dX7_readPassenger_66 rfl rfl (by omega) (by omega) ?_
          refine d_rp67 hq hb hn hbn hc hp han h16 h18 rfl (by decide) (fun hh => ?_) (fun hh => ?_) C hret (fun z S' h => h)
          · first | (exfalso; revert hh; decide; done) | exact Or.inl (by omega) | (refine Or.inr (decide_eq_false ?_); rw [hqa]; omega)
          · first | (exact absurd rfl hh) | (exact ⟨by omega, decide_eq_true (by rw [hqa]; omega), by unfold kdOf; rw [hqa]; omega⟩) | (exfalso; omega)
      · refine aw_iconst (n := 51) C dX7_readPassenger_50 rfl ?_
        refine aw_goto (tgt := 66) C dX7_readPassenger_51 rfl ?_
        refine aw_iast (n := 67) C dX7_readPassenger_66 rfl rfl (by omega) (by omega) ?_
        refine d_rp67 hq hb hn hbn hc hp han h16 h18 rfl (by decide) (fun hh => ?_) (fun hh => ?_) C hret (fun z S' h => h)
        · first | (exfalso; revert hh; decide; done) | exact Or.inl (by omega) | (refine Or.inr (decide_eq_false ?_); rw [hqa]; omega)
        · first | (exact absurd rfl hh) | (exact ⟨by omega, decide_eq_true (by rw [hqa]; omega), by unfold kdOf; rw [hqa]; omega⟩) | (exfalso; omega)
    · refine aw_iconst (n := 41) C dX7_readPassenger_40 rfl ?_
      refine aw_goto (tgt := 66) C dX7_readPassenger_41 rfl ?_
      refine aw_iast (n := 67) C dX7_readPassenger_66 rfl rfl (by omega) (by omega) ?_
      refine d_rp67 hq hb hn hbn hc hp han h16 h18 rfl (by decide) (fun hh => ?_) (fun hh => ?_) C hret (fun z S' h => h)
      · first | (exfalso; revert hh; decide; done) | exact Or.inl (by omega) | (refine Or.inr (decide_eq_false ?_); rw [hqa]; omega)
      · first | (exact absurd rfl hh) | (exact ⟨by omega, decide_eq_true (by rw [hqa]; omega), by unfold kdOf; rw [hqa]; omega⟩) | (exfalso; omega)
  · refine aw_aldn (n := 16) C dX7_readPassenger_15 rfl rfl ?_
    refine aw_getR (n := 19) C dX7_readPassenger_16 rfl fl_X7_16 rfl rfl ?_
    refine aw_aldn (n := 20) C dX7_readPassenger_19 rfl rfl ?_
    refine aw_getI (z := 16) (n := 23) C dX7_readPassenger_20 rfl fl_X7_87 rfl rfl rfl ?_
    rw [h16]
    refine aw_iald (n := 24) C dX7_readPassenger_23 rfl rfl (by omega) (by omega) ?_
    refine aw_goto (tgt := 28) C dX7_readPassenger_24 rfl ?_
    refine aw_istn (n := 29) (L' := [_, _, _, _, _, _]) C dX7_readPassenger_28 rfl (by decide) rfl rfl ?_
    refine aw_aldn (n := 30) C dX7_readPassenger_29 rfl rfl ?_
    refine aw_getR (n := 33) C dX7_readPassenger_30 rfl fl_X7_47 rfl rfl ?_
    refine aw_ildn (n := 34) C dX7_readPassenger_33 rfl rfl ?_
    refine aw_ildn (n := 35) C dX7_readPassenger_34 rfl rfl ?_
    refine aw_bipush (n := 37) C dX7_readPassenger_35 rfl rfl ?_
    refine aw_icne (tgt := 44) (n := 40) C dX7_readPassenger_37 rfl rfl (by omega) (by omega) (fun h_37 => ?_) (fun h_37 => ?_)
    · refine aw_ildn (n := 45) C dX7_readPassenger_44 rfl rfl ?_
      refine aw_bipush (n := 47) C dX7_readPassenger_45 rfl rfl ?_
      refine aw_icne (tgt := 54) (n := 50) C dX7_readPassenger_47 rfl rfl (by omega) (by omega) (fun h_47 => ?_) (fun h_47 => ?_)
      · refine aw_ildn (n := 55) C dX7_readPassenger_54 rfl rfl ?_
        refine aw_bipush (n := 57) C dX7_readPassenger_55 rfl rfl ?_
        refine aw_icne (tgt := 64) (n := 60) C dX7_readPassenger_57 rfl rfl (by omega) (by omega) (fun h_57 => ?_) (fun h_57 => ?_)
        · refine aw_bipush (n := 66) C dX7_readPassenger_64 rfl rfl ?_
          refine aw_iast (n := 67) C dX7_readPassenger_66 rfl rfl (by omega) (by omega) ?_
          refine d_rp67 hq hb hn hbn hc hp han h16 h18 rfl (by decide) (fun hh => ?_) (fun hh => ?_) C hret (fun z S' h => h)
          · first | (exfalso; revert hh; decide; done) | exact Or.inl (by omega) | (refine Or.inr (decide_eq_false ?_); rw [hqa]; omega)
          · first | (exact absurd rfl hh) | (exact ⟨by omega, decide_eq_true (by rw [hqa]; omega), by unfold kdOf; rw [hqa]; omega⟩) | (exfalso; omega)
        · refine aw_iconst (n := 61) C dX7_readPassenger_60 rfl ?_
          refine aw_goto (tgt := 66) C dX7_readPassenger_61 rfl ?_
          refine aw_iast (n := 67) C dX7_readPassenger_66 rfl rfl (by omega) (by omega) ?_
          refine d_rp67 hq hb hn hbn hc hp han h16 h18 rfl (by decide) (fun hh => ?_) (fun hh => ?_) C hret (fun z S' h => h)
          · first | (exfalso; revert hh; decide; done) | exact Or.inl (by omega) | (refine Or.inr (decide_eq_false ?_); rw [hqa]; omega)
          · first | (exact absurd rfl hh) | (exact ⟨by omega, decide_eq_true (by rw [hqa]; omega), by unfold kdOf; rw [hqa]; omega⟩) | (exfalso; omega)
      · refine aw_iconst (n := 51) C dX7_readPassenger_50 rfl ?_
        refine aw_goto (tgt := 66) C dX7_readPassenger_51 rfl ?_
        refine aw_iast (n := 67) C dX7_readPassenger_66 rfl rfl (by omega) (by omega) ?_
        refine d_rp67 hq hb hn hbn hc hp han h16 h18 rfl (by decide) (fun hh => ?_) (fun hh => ?_) C hret (fun z S' h => h)
        · first | (exfalso; revert hh; decide; done) | exact Or.inl (by omega) | (refine Or.inr (decide_eq_false ?_); rw [hqa]; omega)
        · first | (exact absurd rfl hh) | (exact ⟨by omega, decide_eq_true (by rw [hqa]; omega), by unfold kdOf; rw [hqa]; omega⟩) | (exfalso; omega)
    · refine aw_iconst (n := 41) C dX7_readPassenger_40 rfl ?_
      refine aw_goto (tgt := 66) C dX7_readPassenger_41 rfl ?_
      refine aw_iast (n := 67) C dX7_readPassenger_66 rfl rfl (by omega) (by omega) ?_
      refine d_rp67 hq hb hn hbn hc hp han h16 h18 rfl (by decide) (fun hh => ?_) (fun hh => ?_) C hret (fun z S' h => h)
      · first | (exfalso; revert hh; decide; done) | exact Or.inl (by omega) | (refine Or.inr (decide_eq_false ?_); rw [hqa]; omega)
      · first | (exact absurd rfl hh) | (exact ⟨by omega, decide_eq_true (by rw [hqa]; omega), by unfold kdOf; rw [hqa]; omega⟩) | (exfalso; omega)
def E77 (q : Fn) (c : Int) (S1 : Mem) : Prop := ∀ x, 0 ≤ x → x < c → S1 77 x = nSe q x
def E78 (q : Fn) (m : Int) (S1 : Mem) : Prop := ∀ x, 0 ≤ x → x < m → S1 78 x = nTu q x
def E79 (q : Fn) (mc p : Int) (S1 : Mem) : Prop := ∀ x, 0 ≤ x → x < p → S1 79 (3 * x) = nKd q mc x ∧ S1 79 (3 * x + 1) = nBg q mc x ∧ S1 79 (3 * x + 2) = nFd q mc x
/-- how reading a line ends -/
def rlE (q : Fn) (n b : Int) (S : Mem) (z : Int) (S' : Mem) : Prop := FRL S S' ∧ ((z = 0 ∧ 0 ≤ ff q n ∧ S' 66 16 = b + ff q n) ∨ (z = 1 ∧ ff q n = -1 ∧ ∃ mc p : Nat, mcF q n 8 5 = 5 + mc ∧ (1 ≤ mc ∧ mc ≤ 8) ∧ (1 ≤ p ∧ p ≤ 4) ∧ n = 5 + mc + 5 * p ∧ S' 66 17 = mc ∧ S' 66 18 = p ∧ E77 q 3 S' ∧ E78 q mc S' ∧ E79 q mc p S'))
theorem d_rl3 {post : Int → Mem → Prop} {q : Fn} {mc : Nat} {x : Option AV} (hq : ∀ x : Int, q x = S 69 (b + x)) (hb : 0 ≤ b) (hn : 0 ≤ n) (hbn : b + n ≤ 240) (hc : ∀ j, rng (S 69 j)) (hm1 : mcF q n 8 5 = 5 + mc) (hm2 : 1 ≤ mc ∧ mc ≤ 8) (C : CX X 3 RX7 cX7_readLine 3) (hret : ∀ (pc : Nat) (L : List (Option AV)) (z : Int) (S' : Mem), decode cX7_readLine pc = .ok (.ireturn, 1) → ((some FieldType.boolean) = some .int ∨ ((some FieldType.boolean) = some .boolean ∧ (z = 0 ∨ z = 1))) → post z S' → AW X cX7_readLine 3 pc L [.inl z] S') (hpost : ∀ z S', rlE q n b S z S' → post z S') : ∀ (r p : Nat) (S1 : Mem), p + r = 4 → ff q n = ffA q n r p (5 + mc + 5 * p) → ((5 + mc + 5 * p : Nat) : Int) ≤ n → FRL S S1 → S1 66 16 = b + ((5 + mc + 5 * p : Nat) : Int) → S1 66 17 = mc → S1 66 18 = p → E77 q 3 S1 → E78 q mc S1 → E79 q mc p S1 → AW X cX7_readLine 3 178 [some (.inr (.inr 66)), some (.inl (b + n)), x] [] S1 := by
  intro r
  induction r with
  | zero =>
    intro p S1 hpr hff han hf g16 g17 g18 h77 h78 h79
    unfold ffA ffE at hff
    refine aw_aldn (n := 179) C dX7_readLine_178 rfl rfl ?_
    refine aw_getI (z := 18) (n := 182) C dX7_readLine_179 rfl fl_X7_114 rfl rfl rfl ?_
    rw [g18]
    refine aw_ifeq (tgt := 201) (n := 185) C dX7_readLine_182 rfl rfl (by omega) (fun h_182 => ?_) (fun h_182 => ?_)
    · omega
    · refine aw_aldn (n := 186) C dX7_readLine_185 rfl rfl ?_
      refine aw_getI (z := 18) (n := 189) C dX7_readLine_186 rfl fl_X7_114 rfl rfl rfl ?_
      refine aw_iconst (n := 190) C dX7_readLine_189 rfl ?_
      rw [g18]
      refine aw_icge (tgt := 221) (n := 193) C dX7_readLine_190 rfl rfl (by omega) (by omega) (fun h_190 => ?_) (fun h_190 => ?_)
      · refine aw_aldn (n := 222) C dX7_readLine_221 rfl rfl ?_
        refine aw_getI (z := 16) (n := 225) C dX7_readLine_222 rfl fl_X7_87 rfl rfl rfl ?_
        refine aw_ildn (n := 226) C dX7_readLine_225 rfl rfl ?_
        rw [g16]
        refine aw_icne (tgt := 233) (n := 229) C dX7_readLine_226 rfl rfl (by omega) (by omega) (fun h_226 => ?_) (fun h_226 => ?_)
        · refine aw_iconst (n := 234) C dX7_readLine_233 rfl ?_
          refine hret 234 _ _ _ dX7_readLine_234 (Or.inr ⟨rfl, by omega⟩) ?_
          first | (refine hpost _ _ ⟨hf, Or.inr ⟨rfl, ?_, mc, p, hm1, hm2, by omega, by omega, g17, g18, h77, h78, h79⟩⟩; rw [hff, if_neg (by omega)]) | (refine hpost _ _ ⟨hf, Or.inl ⟨rfl, ?_, ?_⟩⟩ <;> (rw [hff, if_pos (by omega)]; omega))
        · refine aw_iconst (n := 230) C dX7_readLine_229 rfl ?_
          refine aw_goto (tgt := 234) C dX7_readLine_230 rfl ?_
          refine hret 234 _ _ _ dX7_readLine_234 (Or.inr ⟨rfl, by omega⟩) ?_
          first | (refine hpost _ _ ⟨hf, Or.inr ⟨rfl, ?_, mc, p, hm1, hm2, by omega, by omega, g17, g18, h77, h78, h79⟩⟩; rw [hff, if_neg (by omega)]) | (refine hpost _ _ ⟨hf, Or.inl ⟨rfl, ?_, ?_⟩⟩ <;> (rw [hff, if_pos (by omega)]; omega))
      · omega
  | succ r ih =>
    intro p S1 hpr hff han hf g16 g17 g18 h77 h78 h79
    have e69 : S1 69 = S 69 := hf.1 69 (by decide) (by decide)
    have hca := hc (b + ((5 + mc + 5 * p : Nat) : Int))
    unfold ffA at hff
    have hqa := hq ((5 + mc + 5 * p : Nat) : Int)
    generalize ha : 5 + mc + 5 * p = a at *
    have L221 : ¬ (p = 0 ∨ (a : Int) < n) → post 1 S1 := fun hno => by
      rw [if_neg hno, ffE, if_neg (by omega)] at hff
      exact hpost _ _ ⟨hf, Or.inr ⟨rfl, hff, mc, p, hm1, hm2, by omega, by omega, g17, g18, h77, h78, h79⟩⟩
    have L201 : p = 0 ∨ (a : Int) < n → AW X cX7_readLine 3 201 [some (.inr (.inr 66)), some (.inl (b + n)), x] [] S1 := by
      intro hyes
      rw [if_pos hyes] at hff
      refine aw_aldn (n := 202) C dX7_readLine_201 rfl rfl ?_
      refine aw_ildn (n := 203) C dX7_readLine_202 rfl rfl ?_
      refine aw_bipush (n := 205) C dX7_readLine_203 rfl rfl ?_
      refine aw_cVi (n := 208) (vs := [_, _]) C dX7_readLine_205 rfl rfl rfl mm_X7_isSign wM_X7_126 rfl rfl (Nat.le_of_ble_eq_true rfl) (d_isSign (S := S1) (by omega) hbn (fun j => by rw [e69]; exact hc j) (by decide)) (by decide) (fun z_205 S_205 q_205 => ?_)
      rw [g16, e69] at q_205
      refine aw_ifeq (tgt := 219) (n := 211) C dX7_readLine_208 rfl rfl (by omega) (fun h_208 => ?_) (fun h_208 => ?_)
      · obtain ⟨z1, z2, z3⟩ := q_205.resolve_right (fun hh => by omega)
        rw [z2]
        have LF : post 0 S1 := by
          have hv : ff q n = a := by
            rw [hff]
            refine ffP_t ?_
            rcases z3 with z3 | z3
            · exact Or.inl (by omega)
            · exact Or.inr (decide_eq_false (fun hh => z3 (by rw [← hqa]; exact hh)))
          exact hpost _ _ ⟨hf, Or.inl ⟨rfl, by omega, by rw [hv]; exact g16⟩⟩
        refine aw_iconst (n := 220) C dX7_readLine_219 rfl ?_
        refine hret 220 _ _ _ dX7_readLine_220 (Or.inr ⟨rfl, by omega⟩) ?_
        exact LF
      · obtain ⟨z1, z2, z3, z4⟩ := q_205.resolve_left (fun hh => h_208 hh.1)
        rw [z2]
        have hff2 : ∀ K, ffP q n K 5 0 a = ffP q n K 4 1 (a + 1) := fun K => ffP_f (by omega) (decide_eq_true (by rw [hqa]; exact z4))
        rw [hff2] at hff
        have f2 := FRL_tr hf (FRL_f (S := S1) (x := 16) (v := b + a + 1) (Or.inl rfl))
        generalize hS2 : st2 S1 66 16 (b + a + 1) = S2 at *
        have i16 : S2 66 16 = b + ((a + 1 : Nat) : Int) := by rw [← hS2]; show b + (a : Int) + 1 = _; omega
        have i17 : S2 66 17 = mc := by rw [← hS2]; exact g17
        have i18 : S2 66 18 = p := by rw [← hS2]; exact g18
        have i77 : S2 77 = S1 77 := by rw [← hS2]; rfl
        have i78 : S2 78 = S1 78 := by rw [← hS2]; rfl
        have i79 : S2 79 = S1 79 := by rw [← hS2]; rfl
        have i69 : S2 69 = S 69 := by rw [← hS2]; exact e69
        refine aw_aldn (n := 212) C dX7_readLine_211 rfl rfl ?_
        refine aw_ildn (n := 213) C dX7_readLine_212 rfl rfl ?_
        refine aw_cVi (n := 216) (vs := [_]) C dX7_readLine_213 rfl rfl rfl mm_X7_readPassenger wM_X7_134 rfl rfl (Nat.le_of_ble_eq_true rfl) (d_readPassenger (S := S2) (q := q) (a := a + 1) (p := p) (fun x => by rw [i69]; exact hq x) hb hn hbn (fun j => by rw [i69]; exact hc j) (by omega) (by omega) i16 i18) (by decide) (fun z_213 S_213 q_213 => ?_)
        obtain ⟨k1, k2⟩ := q_213
        have hzr : z_213 = 0 ∨ z_213 = 1 := k2.elim (fun h => Or.inl h.1) (fun h => Or.inr h.1)
        refine aw_ifne (tgt := 178) (n := 219) C dX7_readLine_216 rfl rfl (by omega) (fun h_216 => ?_) (fun h_216 => ?_)
        · obtain ⟨y1, y2, y3, y4, y5, y6, y7, y8, y9, y10, y11, y12⟩ := k2.resolve_left (fun hh => h_216 hh.1)
          rw [y2] at hff
          refine ih (p + 1) _ (by omega) (by rw [show 5 + mc + 5 * (p + 1) = a + 5 by omega]; exact hff) (by omega) (FRL_tr f2 k1) (by rw [y4]; omega) (by rw [y6, i17]) (by rw [y5]; omega) (fun x x0 x1 => by rw [y7, i77]; exact h77 x x0 x1) (fun x x0 x1 => by rw [y8, i78]; exact h78 x x0 x1) (fun x x0 x1 => ?_)
          by_cases e : x = p
          · subst e
            refine ⟨?_, ?_, ?_⟩
            · rw [y10]; unfold nKd; congr 2; omega
            · rw [y11]; unfold nBg; rw [show ((a + 1 : Nat) : Int) + 1 = 5 + mc + 5 * p + 2 by omega, show ((a + 1 : Nat) : Int) + 2 = 5 + mc + 5 * p + 3 by omega]
            · rw [y12]; unfold nFd; rw [show ((a + 1 : Nat) : Int) + 3 = 5 + mc + 5 * p + 4 by omega]
          · rw [y9 _ (by omega), y9 _ (by omega), y9 _ (by omega), i79]
            exact h79 x x0 (by omega)
        · have LF : post 0 S_213 := by
            obtain ⟨y1, v, y2, y3⟩ := k2.resolve_right (fun hh => by have := hh.1; omega)
            have hv : ff q n = v := by rw [hff]; exact y2 _
            exact hpost _ _ ⟨FRL_tr f2 k1, Or.inl ⟨rfl, by omega, by rw [hv]; exact y3⟩⟩
          refine aw_iconst (n := 220) C dX7_readLine_219 rfl ?_
          refine hret 220 _ _ _ dX7_readLine_220 (Or.inr ⟨rfl, by omega⟩) ?_
          exact LF
    refine aw_aldn (n := 179) C dX7_readLine_178 rfl rfl ?_
    refine aw_getI (z := 18) (n := 182) C dX7_readLine_179 rfl fl_X7_114 rfl rfl rfl ?_
    rw [g18]
    refine aw_ifeq (tgt := 201) (n := 185) C dX7_readLine_182 rfl rfl (by omega) (fun h_182 => ?_) (fun h_182 => ?_)
    · exact L201 (by omega)
    · refine aw_aldn (n := 186) C dX7_readLine_185 rfl rfl ?_
      refine aw_getI (z := 18) (n := 189) C dX7_readLine_186 rfl fl_X7_114 rfl rfl rfl ?_
      refine aw_iconst (n := 190) C dX7_readLine_189 rfl ?_
      rw [g18]
      refine aw_icge (tgt := 221) (n := 193) C dX7_readLine_190 rfl rfl (by omega) (by omega) (fun h_190 => ?_) (fun h_190 => ?_)
      · omega
      · refine aw_aldn (n := 194) C dX7_readLine_193 rfl rfl ?_
        refine aw_getI (z := 16) (n := 197) C dX7_readLine_194 rfl fl_X7_87 rfl rfl rfl ?_
        refine aw_ildn (n := 198) C dX7_readLine_197 rfl rfl ?_
        rw [g16]
        refine aw_icge (tgt := 221) (n := 201) C dX7_readLine_198 rfl rfl (by omega) (by omega) (fun h_198 => ?_) (fun h_198 => ?_)
        · refine aw_aldn (n := 222) C dX7_readLine_221 rfl rfl ?_
          refine aw_getI (z := 16) (n := 225) C dX7_readLine_222 rfl fl_X7_87 rfl rfl rfl ?_
          refine aw_ildn (n := 226) C dX7_readLine_225 rfl rfl ?_
          rw [g16]
          refine aw_icne (tgt := 233) (n := 229) C dX7_readLine_226 rfl rfl (by omega) (by omega) (fun h_226 => ?_) (fun h_226 => ?_)
          · refine aw_iconst (n := 234) C dX7_readLine_233 rfl ?_
            refine hret 234 _ _ _ dX7_readLine_234 (Or.inr ⟨rfl, by omega⟩) ?_
            first | (exfalso; omega; done) | exact L221 (by omega)
          · refine aw_iconst (n := 230) C dX7_readLine_229 rfl ?_
            refine aw_goto (tgt := 234) C dX7_readLine_230 rfl ?_
            refine hret 234 _ _ _ dX7_readLine_234 (Or.inr ⟨rfl, by omega⟩) ?_
            first | (exfalso; omega; done) | exact L221 (by omega)
        · exact L201 (by omega)
end MLI
