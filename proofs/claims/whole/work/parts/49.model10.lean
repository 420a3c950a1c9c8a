/-! the model: ease and stuck: what the table holds -/
/-- what can't be is -9 in the model -/
def sent (x : Int) : Int := if 10000 ≤ x then -9 else x
theorem sm_rev (g : Nat → Int) {P : Nat} (hP : P ≤ 4) : sm (fun p => g (P - 1 - p)) P = sm g P := by
  rcases (show P = 0 ∨ P = 1 ∨ P = 2 ∨ P = 3 ∨ P = 4 by omega) with rfl | rfl | rfl | rfl | rfl
  · rfl
  · rfl
  · show 0 + g 1 + g 0 = 0 + g 0 + g 1; omega
  · show 0 + g 2 + g 1 + g 0 = 0 + g 0 + g 1 + g 2; omega
  · show 0 + g 3 + g 2 + g 1 + g 0 = 0 + g 0 + g 1 + g 2 + g 3; omega
section MEZ
variable {M P : Nat} {se : Fn} {du : Int → Int → Int}
theorem bhF_s (j w : Nat) : bhF M P se du (j + 1) w = bst (fun v => min 10000 (lwm P se du (M - 1 - j) v + bhF M P se du j v)) P w := rfl
theorem bhF_b (hP : P ≤ 4) (hd : ∀ m p, 0 ≤ du m p ∧ du m p ≤ 2) : ∀ (j w : Nat), w < 3 ^ P → bhF M P se du j w = 10000 ∨ (0 ≤ bhF M P se du j w ∧ bhF M P se du j w ≤ 12 * j)
  | 0, w, _ => Or.inr (by show 0 ≤ (0 : Int) ∧ (0 : Int) ≤ 12 * ((0 : Nat) : Int); omega)
  | j + 1, w, hw => by
    obtain ⟨h1, v, v1, v2⟩ := bst_isMn (f := fun v => min 10000 (lwm P se du (M - 1 - j) v + bhF M P se du j v)) hP hw
    have hr := bhF_r (M := M) (se := se) hP hd (j + 1) w hw
    have v3 : bhF M P se du (j + 1) w = min 10000 (lwm P se du (M - 1 - j) v + bhF M P se du j v) + chl w v P := v2
    have hb := bhF_b hP hd j v v1
    have hb2 := bhF_r (M := M) (se := se) hP hd j v v1
    have hl := lwm_r P se du (M - 1 - j) v hP hd
    have hc := chl_r w v P
    omega
theorem tgF_b (hP : P ≤ 4) (hM : M ≤ 8) (hd : ∀ m p, 0 ≤ du m p ∧ du m p ≤ 2) (m w : Nat) (hw : w < 3 ^ P) : tgF M P se du m w = 10000 ∨ (0 ≤ tgF M P se du m w ∧ tgF M P se du m w ≤ 100) := by
  have h1 := bhF_b (M := M) (se := se) hP hd (M - 1 - m) w hw
  have h2 := lwm_r P se du m w hP hd
  have h3 := tgF_r (M := M) (se := se) hP hd m w hw
  have h4 : M - 1 - m ≤ 7 := by omega
  unfold tgF at *
  omega
theorem tgF_sent (hP : P ≤ 4) (hM : M ≤ 8) (hd : ∀ m p, 0 ≤ du m p ∧ du m p ≤ 2) (m w : Nat) (hw : w < 3 ^ P) : sent (tgF M P se du m w) = (if sent (lwm P se du m w) = -9 ∨ sent (bhF M P se du (M - 1 - m) w) = -9 then -9 else lwm P se du m w + bhF M P se du (M - 1 - m) w) := by
  have h1 := bhF_b (M := M) (se := se) hP hd (M - 1 - m) w hw
  have h2 := lwm_r P se du m w hP hd
  have h4 : M - 1 - m ≤ 7 := by omega
  unfold tgF sent
  omega
/-- what lies behind a mile, out of the next mile's row -/
theorem bhF_tg {m : Nat} (hm : m + 1 < M) (w : Nat) : bhF M P se du (M - 1 - m) w = bst (tgF M P se du (m + 1)) P w := by
  rw [show M - 1 - m = (M - 1 - (m + 1)) + 1 by omega, bhF_s]
  unfold tgF
  rw [show M - 1 - (M - 1 - (m + 1)) = m + 1 by omega]
/-- the least among those that can be -/
def mnS (f : Nat → Int) (P w n : Nat) (b : Int) : Prop := (b = -9 ∧ ∀ v, v < n → f v = 10000) ∨ ((0 ≤ b ∧ b ≤ 200) ∧ (∀ v, v < n → f v ≠ 10000 → b ≤ f v + chl w v P) ∧ ∃ v, v < n ∧ f v ≠ 10000 ∧ b = f v + chl w v P)
theorem mnS_end {f : Nat → Int} {w : Nat} {b : Int} (hP : P ≤ 4) (hw : w < 3 ^ P) (hf : ∀ v, v < 3 ^ P → f v = 10000 ∨ (0 ≤ f v ∧ f v ≤ 100)) (h : mnS f P w (3 ^ P) b) : b = sent (bst f P w) := by
  obtain ⟨h1, v, v1, v2⟩ := bst_isMn (f := f) hP hw
  have hc := chl_r w v P
  rcases h with ⟨hb, ha⟩ | ⟨hb, ha, u, u1, u2, u3⟩
  · have := ha v v1
    unfold sent
    rw [if_pos (by omega)]
    exact hb
  · have g1 := h1 u u1
    have hfv := hf v v1
    have hfu := hf u u1
    have hcu := chl_r w u P
    have : f v ≠ 10000 := by omega
    have := ha v v1 this
    unfold sent
    rw [if_neg (by omega)]
    omega
/-- the first of the least, among those that can be -/
def fsS (f : Nat → Int) (n : Nat) (b l : Int) : Prop := (b = -9 ∧ l = -9 ∧ 10000 ≤ (fo f n).2 ∧ ∀ v, v < n → 10000 ≤ f v) ∨ ((0 ≤ l ∧ l ≤ 200) ∧ b = ((fo f n).1 : Int) ∧ l = (fo f n).2 ∧ (fo f n).1 < n ∧ f (fo f n).1 = l)
theorem fsS_0 (f : Nat → Int) : fsS f 0 (-9) (-9) := Or.inl ⟨rfl, rfl, by show (10000 : Int) ≤ 20000; decide, fun v hv => absurd hv (by omega)⟩
theorem fsS_no {f : Nat → Int} {n : Nat} {b l : Int} (h : fsS f n b l) (hn : 10000 ≤ f n) : fsS f (n + 1) b l := by
  unfold fsS
  rw [fo_s]
  rcases h with ⟨h1, h2, h3, h4⟩ | ⟨h1, h2, h3, h4, h5⟩
  · refine Or.inl ⟨h1, h2, ?_, fun v hv => ?_⟩
    · split
      · exact hn
      · exact h3
    · by_cases e : v = n
      · rw [e]; exact hn
      · exact h4 v (by omega)
  · rw [if_neg (by omega)]
    exact Or.inr ⟨h1, h2, h3, by omega, h5⟩
theorem fsS_yes {f : Nat → Int} {n : Nat} {b l : Int} (h : fsS f n b l) (hn : 0 ≤ f n ∧ f n ≤ 200) : ((b = -9 ∨ f n < l) → fsS f (n + 1) n (f n)) ∧ (¬ (b = -9 ∨ f n < l) → fsS f (n + 1) b l) := by
  unfold fsS
  rw [fo_s]
  rcases h with ⟨h1, h2, h3, h4⟩ | ⟨h1, h2, h3, h4, h5⟩
  · rw [if_pos (by omega)]
    exact ⟨fun _ => Or.inr ⟨hn, rfl, rfl, by show n < n + 1; omega, rfl⟩, fun hh => absurd (Or.inl h1) hh⟩
  · refine ⟨fun hh => ?_, fun hh => ?_⟩
    · rw [if_pos (by omega)]
      exact Or.inr ⟨hn, rfl, rfl, by show n < n + 1; omega, rfl⟩
    · rw [if_neg (by omega)]
      exact Or.inr ⟨h1, h2, h3, by omega, h5⟩
/-- what can be at all -/
theorem tg_none (hP : P ≤ 4) (hM : M ≤ 8) (hd : ∀ m p, 0 ≤ du m p ∧ du m p ≤ 2) {m : Nat} (hm : m < M) (hno : anyF P se du m = false) : ∀ i : Nat, i ≤ m → ∀ w, w < 3 ^ P → tgF M P se du (m - i) w = 10000
  | 0, _, w, hw => by
    have h1 := bhF_b (M := M) (se := se) hP hd (M - 1 - m) w hw
    have h2 := lwm_r P se du m w hP hd
    have : lwm P se du m w = 10000 := by
      rcases h2 with h2 | h2
      · have : anyF P se du m = true := bB_t.mpr ⟨w, hw, by omega⟩
        rw [hno] at this; cases this
      · exact h2
    rw [Nat.sub_zero]
    unfold tgF
    omega
  | i + 1, hi, w, hw => by
    have ih := tg_none hP hM hd hm hno i (by omega)
    have h2 := lwm_r P se du (m - (i + 1)) w hP hd
    have hb : bhF M P se du (M - 1 - (m - (i + 1))) w = 10000 := by
      rw [bhF_tg (by omega)]
      obtain ⟨h1, v, v1, v2⟩ := bst_isMn (f := tgF M P se du (m - (i + 1) + 1)) hP hw
      rw [show m - (i + 1) + 1 = m - i by omega] at *
      have := h1 w hw
      rw [ih w hw, chl_self] at this
      have h3 := ih v v1
      have := chl_r w v P
      omega
    unfold tgF
    rw [hb]
    omega
theorem tg_some (hP : P ≤ 4) (hM : M ≤ 8) (hd : ∀ m p, 0 ≤ du m p ∧ du m p ≤ 2) (hall : ∀ m, m < M → anyF P se du m = true) : ∀ i : Nat, i < M → ∃ w, w < 3 ^ P ∧ tgF M P se du (M - 1 - i) w ≠ 10000
  | 0, hi => by
    obtain ⟨w, hw, hl⟩ := bB_t.mp (hall (M - 1) (by omega))
    refine ⟨w, hw, ?_⟩
    rw [Nat.sub_zero]
    unfold tgF
    rw [show M - 1 - (M - 1) = 0 by omega]
    show min 10000 (lwm P se du (M - 1) w + 0) ≠ 10000
    omega
  | i + 1, hi => by
    obtain ⟨v, hv, hn⟩ := tg_some hP hM hd hall i (by omega)
    obtain ⟨w, hw, hl⟩ := bB_t.mp (hall (M - 1 - (i + 1)) (by omega))
    refine ⟨w, hw, ?_⟩
    have hb := bhF_b (M := M) (se := se) hP hd (M - 1 - (M - 1 - (i + 1))) w hw
    have h1 := (bst_isMn (f := tgF M P se du (M - 1 - (i + 1) + 1)) hP hw).1 v hv
    rw [← bhF_tg (by omega), show M - 1 - (i + 1) + 1 = M - 1 - i by omega] at h1
    have hr := tgF_b (M := M) (se := se) hP hM hd (M - 1 - i) v hv
    have hc := chl_r w v P
    have h2 := lwm_r P se du (M - 1 - (i + 1)) w hP hd
    have h4 : M - 1 - (M - 1 - (i + 1)) ≤ 7 := by omega
    unfold tgF
    omega
theorem fst1_none {b : Nat → Bool} : ∀ n i : Nat, fst1 b n i = -9 → ∀ k, i ≤ k → k < i + n → b k = false
  | 0, i, _, k, h1, h2 => by omega
  | n + 1, i, h, k, h1, h2 => by
    by_cases hb : b i = true
    · rw [fst1_t hb] at h; omega
    · have hb' : b i = false := by cases e : b i with | true => exact absurd e hb | false => rfl
      rw [fst1_f hb'] at h
      by_cases e : k = i
      · rw [e]; exact hb'
      · exact fst1_none n (i + 1) h k (by omega) (by omega)
theorem fst1_some {b : Nat → Bool} : ∀ n i : Nat, fst1 b n i ≠ -9 → ∃ k, i ≤ k ∧ k < i + n ∧ b k = true
  | 0, i, h => absurd rfl h
  | n + 1, i, h => by
    by_cases hb : b i = true
    · exact ⟨i, by omega, by omega, hb⟩
    · have hb' : b i = false := by cases e : b i with | true => exact absurd e hb | false => rfl
      rw [fst1_f hb'] at h
      obtain ⟨k, k1, k2, k3⟩ := fst1_some n (i + 1) h
      exact ⟨k, by omega, by omega, k3⟩
theorem eS_all (h : eS M P se du = -9) : ∀ m, m < M → anyF P se du m = true := fun m hm => by
  have := fst1_none M 0 h m (by omega) (by omega)
  simpa using this
theorem eS_not (hP : P ≤ 4) (hM : M ≤ 8) (hd : ∀ m p, 0 ≤ du m p ∧ du m p ≤ 2) (h : ¬ eS M P se du = -9) : ∀ w, w < 3 ^ P → tgF M P se du 0 w = 10000 := fun w hw => by
  obtain ⟨m, m1, m2, m3⟩ := fst1_some M 0 h
  have hno : anyF P se du m = false := by simpa using m3
  have := tg_none (se := se) hP hM hd (by omega) hno m (Nat.le_refl m) w hw
  rw [Nat.sub_self] at this
  exact this
theorem eS_yes (hP : P ≤ 4) (hM : M ≤ 8) (hd : ∀ m p, 0 ≤ du m p ∧ du m p ≤ 2) (h : eS M P se du = -9) {m : Nat} (hm : m < M) : ∃ w, w < 3 ^ P ∧ tgF M P se du m w ≠ 10000 := by
  have := tg_some hP hM hd (eS_all h) (M - 1 - m) (by omega)
  rw [show M - 1 - (M - 1 - m) = m by omega] at this
  exact this
end MEZ
