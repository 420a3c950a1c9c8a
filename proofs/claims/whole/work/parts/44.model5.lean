/-! the model: odds -/
theorem lm_ti {a : Int} (h : 0 ≤ a ∧ a ≤ 2147483647) : (Int64.ofInt a).toInt = a := Int64.toInt_ofInt_of_le (by omega) (by omega)
theorem lm_div {a b : Int} (h0 : 0 ≤ a) (ha : a ≤ 2147483647) (h1 : 0 < b) (hb : b ≤ 2147483647) : Int64.ofInt a / Int64.ofInt b = Int64.ofInt (a / b) := by
  rw [← Int64.toInt_inj, Int64.toInt_div_of_ne_right _ _ (fun h => by
    have := congrArg Int64.toInt h
    rw [lm_ti ⟨by omega, hb⟩] at this
    have e : (-1 : Int64).toInt = -1 := by decide
    omega), lm_ti ⟨h0, ha⟩, lm_ti ⟨by omega, hb⟩, Int.tdiv_eq_ediv_of_nonneg h0, lm_ti]
  have h2 := Int.ediv_nonneg h0 (Int.le_of_lt h1)
  have h3 := Int.ediv_le_self b h0
  exact ⟨by omega, by omega⟩
theorem lm_nz {b : Int} (h1 : 0 < b) (hb : b ≤ 2147483647) : ¬ Int64.ofInt b = 0 := fun h => by
  have := congrArg Int64.toInt h
  rw [lm_ti ⟨by omega, hb⟩] at this
  have e : (0 : Int64).toInt = 0 := by decide
  omega
theorem lm_rem {a b : Int} (h0 : 0 ≤ a) (ha : a ≤ 2147483647) (h1 : 0 < b) (hb : b ≤ 2147483647) : Int64.ofInt a - Int64.ofInt a / Int64.ofInt b * Int64.ofInt b = Int64.ofInt (a % b) := by
  rw [lm_div h0 ha h1 hb, ← Int64.ofInt_mul, ← Int64.ofInt_sub, Int.emod_def, Int.mul_comm]
theorem lm_cmp0 {y : Int} (h0 : 0 ≤ y) (h1 : y ≤ 2147483647) : lg_cmp (Int64.ofInt y) (Int64.ofInt 0) = Int32.ofInt (if y = 0 then 0 else 1) := by
  by_cases e : y = 0
  · rw [e]; decide
  · rw [if_neg e]
    unfold lg_cmp
    rw [if_pos]
    · rfl
    · show Int64.ofInt 0 < Int64.ofInt y
      rw [Int64.lt_iff_toInt_lt, lm_ti ⟨h0, h1⟩, lm_ti ⟨by decide, by decide⟩]
      omega
theorem gcd_step (x y : Nat) : Nat.gcd y (x % y) = Nat.gcd x y := by rw [Nat.gcd_comm x y, Nat.gcd_rec y x, Nat.gcd_comm]
section MOD
variable {X : AMX} {S : Mem} {p c w : Int}
theorem d_inLeast_loop {post : Int → Mem → Prop} {u d g : Nat} (hu : u ≤ 256) (hd : 0 < d ∧ d ≤ 256) (hw : rng w) (C : CX X 0 RX7 cX7_inLeastTerms 11) (hret : ∀ (pc : Nat) (L : List (Option AV)) (z : Int) (S' : Mem), decode cX7_inLeastTerms pc = .ok (.lreturn, 1) → post z S' → AW X cX7_inLeastTerms 11 pc L [.inr (.inl z)] S') (hg : g ≤ 256) (hp : 0 < g → post (if w = 0 then ((u / g : Nat) : Int) else ((d / g : Nat) : Int)) S) : ∀ (n y x : Nat) (k : Option AV), y < n → 0 < x + y → x ≤ 256 → y ≤ 256 → Nat.gcd x y = g → AW X cX7_inLeastTerms 11 6 [some (.inr (.inl (u : Int))), none, some (.inr (.inl (d : Int))), none, some (.inl w), some (.inr (.inl (x : Int))), none, some (.inr (.inl (y : Int))), none, k, none] [] S := by
  intro n
  induction n with
  | zero => intro y x k hy; omega
  | succ n ih =>
    intro y x k hy hxy hx hyy hgc
    refine aw_lldw (n := 8) C dX7_inLeastTerms_6 rfl rfl ?_
    refine aw_lconst (z := 0) (n := 9) C dX7_inLeastTerms_8 rfl (by decide) ?_
    refine aw_lcmp (n := 10) C dX7_inLeastTerms_9 rfl (lm_cmp0 (by omega) (by omega)) ?_
    refine aw_ifeq (tgt := 31) (n := 13) C dX7_inLeastTerms_10 rfl rfl (by split <;> decide) (fun h_10 => ?_) (fun h_10 => ?_)
    · have hy0 : y = 0 := by
        by_cases e : (y : Int) = 0
        · omega
        · rw [if_neg e] at h_10; exact absurd h_10 (by decide)
      subst hy0
      rw [Nat.gcd_zero_right] at hgc
      subst hgc
      refine aw_ildw (n := 33) C dX7_inLeastTerms_31 rfl rfl ?_
      refine aw_ifne (tgt := 43) (n := 36) C dX7_inLeastTerms_33 rfl rfl (by omega) (fun h_33 => ?_) (fun h_33 => ?_)
      · refine aw_lldn (n := 44) C dX7_inLeastTerms_43 rfl rfl ?_
        refine aw_lldw (n := 46) C dX7_inLeastTerms_44 rfl rfl ?_
        refine aw_ldiv (n := 47) C dX7_inLeastTerms_46 rfl (lm_nz (by omega) (by omega)) (lm_div (by omega) (by omega) (by omega) (by omega)) ?_
        refine hret 47 _ _ _ dX7_inLeastTerms_47 ?_
        have := hp (by omega)
        rw [Int.natCast_ediv, Int.natCast_ediv] at this
        first | (rw [if_pos h_33] at this; exact this) | (rw [if_neg h_33] at this; exact this)
      · refine aw_lldn (n := 37) C dX7_inLeastTerms_36 rfl rfl ?_
        refine aw_lldw (n := 39) C dX7_inLeastTerms_37 rfl rfl ?_
        refine aw_ldiv (n := 40) C dX7_inLeastTerms_39 rfl (lm_nz (by omega) (by omega)) (lm_div (by omega) (by omega) (by omega) (by omega)) ?_
        refine aw_goto (tgt := 47) C dX7_inLeastTerms_40 rfl ?_
        refine hret 47 _ _ _ dX7_inLeastTerms_47 ?_
        have := hp (by omega)
        rw [Int.natCast_ediv, Int.natCast_ediv] at this
        first | (rw [if_pos h_33] at this; exact this) | (rw [if_neg h_33] at this; exact this)
    · have hy0 : y ≠ 0 := fun e => h_10 (if_pos (by omega))
      refine aw_lldw (n := 15) C dX7_inLeastTerms_13 rfl rfl ?_
      refine aw_lldw (n := 17) C dX7_inLeastTerms_15 rfl rfl ?_
      refine aw_lrem (n := 18) C dX7_inLeastTerms_17 rfl (lm_nz (by omega) (by omega)) (lm_rem (by omega) (by omega) (by omega) (by omega)) ?_
      refine aw_lstw (n := 20) (L' := [_, _, _, _, _, _, _, _, _, _, _]) C dX7_inLeastTerms_18 rfl (by decide) rfl rfl ?_
      refine aw_lldw (n := 22) C dX7_inLeastTerms_20 rfl rfl ?_
      refine aw_lstw (n := 24) (L' := [_, _, _, _, _, _, _, _, _, _, _]) C dX7_inLeastTerms_22 rfl (by decide) rfl rfl ?_
      refine aw_lldw (n := 26) C dX7_inLeastTerms_24 rfl rfl ?_
      refine aw_lstw (n := 28) (L' := [_, _, _, _, _, _, _, _, _, _, _]) C dX7_inLeastTerms_26 rfl (by decide) rfl rfl ?_
      refine aw_goto (tgt := 6) C dX7_inLeastTerms_28 rfl ?_
      have hm := Nat.mod_lt x (Nat.pos_of_ne_zero hy0)
      rw [← Int.natCast_emod]
      exact ih (x % y) y _ (by omega) (by omega) (by omega) (by omega) (by rw [gcd_step]; exact hgc)
theorem d_inLeast {u d : Nat} (hu : u ≤ 256) (hd : 0 < d ∧ d ≤ 256) (hw : rng w) : AMl 0 yX7_inLeastTerms cX7_inLeastTerms 11 (some .long) [.inr (.inl (u : Int)), .inr (.inl (d : Int)), .inl w] S (fun z S' => z = (if w = 0 then ((u / Nat.gcd u d : Nat) : Int) else ((d / Nat.gcd u d : Nat) : Int)) ∧ S' = S) := by
  refine aml_intro (L := [_, none, _, none, _, none, none, none, none, none, none]) (by decide) rfl (Nat.le_of_ble_eq_true rfl) (fun X C hret => ?_)
  refine aw_lldn (n := 1) C dX7_inLeastTerms_0 rfl rfl ?_
  refine aw_lstw (n := 3) (L' := [_, _, _, _, _, _, _, _, _, _, _]) C dX7_inLeastTerms_1 rfl (by decide) rfl rfl ?_
  refine aw_lldn (n := 4) C dX7_inLeastTerms_3 rfl rfl ?_
  refine aw_lstw (n := 6) (L' := [_, _, _, _, _, _, _, _, _, _, _]) C dX7_inLeastTerms_4 rfl (by decide) rfl rfl ?_
  exact d_inLeast_loop hu hd hw C hret (Nat.le_trans (Nat.gcd_le_right u hd.1) hd.2) (fun _ => ⟨rfl, rfl⟩) (d + 1) d u _ (by omega) (by omega) hu hd.2 rfl
/-- regrets if the bits of s say where tunnels are -/
def tuS (s : Nat) (x : Int) : Int := ((s / 2 ^ x.toNat % 2 : Nat) : Int)
def RMs (S : Mem) (s : Nat) : Nat → Fn := rg (S 74) (S 76) (S 75) (tuS s) (S 72) (S 73)
theorem tuS_n (s i : Nat) : tuS s (i : Int) = ((s / 2 ^ i % 2 : Nat) : Int) := by unfold tuS; rw [Int.toNat_natCast]
theorem RMs_r {s : Nat} (W : MW S) (m : Nat) (p : Int) (p0 : 0 ≤ p) (p1 : p < S 66 6) : 0 ≤ RMs S s m p ∧ RMs S s m p ≤ 99 := rg_r (fun x x0 x1 => (W.2.2.2.2.2 x x0 x1).2.1) m p p0 p1
theorem RMs_next {S1 : Mem} {s m : Nat} {t : Int} (W : MW S) (hm : (m : Int) < S 66 5) (ht : t = tuS s m) (h : ∀ p, 0 ≤ p → p < S 66 6 → S1 80 p = RMs S s m p) (p : Int) (p0 : 0 ≤ p) (p1 : p < S 66 6) : stp (S 74) (S 76) t (S 72 m) (S 73 m) (S1 80) p = RMs S s (m + 1) p := by
  rw [ht]
  exact stp_congr (W.2.2.2.2.1 m (by omega) hm).2 p0 p1 (fun _ _ _ => rfl) (fun _ _ _ => rfl) h
/-- the ways told by the bits of a number -/
def run (kd fd tA tB : Fn) : Nat → Nat → Fn → Nat → Fn
  | 0, _, row, _ => row
  | r + 1, m, row, s => run kd fd tA tB r (m + 1) (stp kd fd ((s % 2 : Nat) : Int) (tA m) (tB m) row) (s / 2)
theorem run_rg (kd fd bg tA tB : Fn) (s : Nat) : ∀ r m : Nat, run kd fd tA tB r m (rg kd fd bg (tuS s) tA tB m) (s / 2 ^ m) = rg kd fd bg (tuS s) tA tB (m + r)
  | 0, m => rfl
  | r + 1, m => by
    show run kd fd tA tB r (m + 1) (stp kd fd ((s / 2 ^ m % 2 : Nat) : Int) (tA m) (tB m) (rg kd fd bg (tuS s) tA tB m)) (s / 2 ^ m / 2) = _
    rw [← tuS_n, Nat.div_div_eq_div_mul, ← Nat.pow_succ]
    have := run_rg kd fd bg tA tB s r (m + 1)
    rw [show m + (r + 1) = m + 1 + r by omega]
    exact this
theorem sm_two (f : Nat → Int) : ∀ n : Nat, sm f (n + n) = sm (fun k => f (2 * k)) n + sm (fun k => f (2 * k + 1)) n
  | 0 => rfl
  | n + 1 => by
    have h := sm_two f n
    show sm f (n + 1 + (n + 1)) = sm (fun k => f (2 * k)) n + f (2 * n) + (sm (fun k => f (2 * k + 1)) n + f (2 * n + 1))
    rw [show n + 1 + (n + 1) = n + n + 1 + 1 by omega, sm_s, sm_s, h, show n + n = 2 * n by omega]
    omega
theorem wy_sum (kd fd tA tB : Fn) (l1 l2 : Int) : ∀ (r m : Nat) (row : Fn), wy kd fd tA tB l1 l2 p c r m row = sm (fun s => if due l1 l2 (run kd fd tA tB r m row s p) = c then 1 else 0) (2 ^ r)
  | 0, m, row => by
    show (if due l1 l2 (row p) = c then 1 else 0) = 0 + (if due l1 l2 (row p) = c then (1 : Int) else 0)
    rw [Int.zero_add]
  | r + 1, m, row => by
    unfold wy
    rw [show 2 ^ (r + 1) = 2 ^ r + 2 ^ r by rw [Nat.pow_succ]; omega, sm_two, wy_sum kd fd tA tB l1 l2 r (m + 1), wy_sum kd fd tA tB l1 l2 r (m + 1)]
    congr 1
    · refine sm_congr (fun k _ => ?_)
      show _ = (if due l1 l2 (run kd fd tA tB r (m + 1) (stp kd fd ((2 * k % 2 : Nat) : Int) (tA m) (tB m) row) (2 * k / 2) p) = c then (1 : Int) else 0)
      rw [show 2 * k % 2 = 0 by omega, show 2 * k / 2 = k by omega]
      rfl
    · refine sm_congr (fun k _ => ?_)
      show _ = (if due l1 l2 (run kd fd tA tB r (m + 1) (stp kd fd (((2 * k + 1) % 2 : Nat) : Int) (tA m) (tB m) row) ((2 * k + 1) / 2) p) = c then (1 : Int) else 0)
      rw [show (2 * k + 1) % 2 = 1 by omega, show (2 * k + 1) / 2 = k by omega]
      rfl
/-- one more if due in c by the bits of s -/
def fOd (S : Mem) (p c : Int) (M s : Nat) : Int := if due (S 66 7) (S 66 8) (RMs S s M p) = c then 1 else 0
theorem fOd_wy (M : Nat) : sm (fOd S p c M) (2 ^ M) = wy (S 74) (S 76) (S 72) (S 73) (S 66 7) (S 66 8) p c M 0 (S 75) := by
  rw [wy_sum]
  refine sm_congr (fun s _ => ?_)
  have := run_rg (S 74) (S 76) (S 75) (S 72) (S 73) s M 0
  rw [Nat.pow_zero, Nat.div_one, Nat.zero_add] at this
  unfold fOd RMs
  rw [← this]
  rfl
theorem shr_bit : ∀ i : Nat, i < 8 → ∀ s : Nat, s < 256 → Int32.ofInt (s : Int) >>> (Int32.ofInt (i : Int) &&& 31) = Int32.ofInt ((s / 2 ^ i : Nat) : Int) := by decide +kernel
theorem and_one : ∀ s : Nat, s < 256 → Int32.ofInt (s : Int) &&& Int32.ofInt 1 = Int32.ofInt ((s % 2 : Nat) : Int) := by decide +kernel
theorem lshl_bit : ∀ v : Nat, v < 9 → Int64.ofInt 1 <<< ((Int32.ofInt (v : Int)).toInt64 &&& 63) = Int64.ofInt ((2 ^ v : Nat) : Int) := by decide +kernel
theorem pwn8 : ∀ r : Nat, r ≤ 8 → 2 ^ r ≤ 256 := by decide
theorem rdc_gcd : ∀ M : Nat, M ≤ 8 → ∀ u : Nat, u ≤ 256 → u ≤ 2 ^ M → rdc M (u : Int) (2 ^ M) = (((u / Nat.gcd u (2 ^ M) : Nat) : Int), ((2 ^ M / Nat.gcd u (2 ^ M) : Nat) : Int)) := by decide +kernel
theorem d_odds_in {M s : Nat} {k : Int} (W : MW S) (h5 : S 66 5 = (M : Int)) (hs : s < 256) (C : CX X 2 RX7 cX7_odds 7) (kk : ∀ S', fr 80 81 S S' → (∀ p, 0 ≤ p → p < S 66 6 → S' 80 p = RMs S s M p) → AW X cX7_odds 7 91 [some (.inr (.inr 66)), some (.inl p), some (.inl c), some (.inl w), some (.inl k), some (.inl s), some (.inl M)] [] S') : ∀ (n i : Nat) (S1 : Mem), i + n = M → fr 80 81 S S1 → (∀ p, 0 ≤ p → p < S 66 6 → S1 80 p = RMs S s i p) → AW X cX7_odds 7 54 [some (.inr (.inr 66)), some (.inl p), some (.inl c), some (.inl w), some (.inl k), some (.inl s), some (.inl i)] [] S1 := by
  obtain ⟨t1, t2, t3, t4, t5, t6⟩ := id W
  intro n
  induction n with
  | zero =>
    intro i S1 hi hf hv
    obtain rfl : i = M := by omega
    have e5 : S1 66 5 = S 66 5 := by rw [hf 66 (by omega)]
    refine aw_ildw (n := 56) C dX7_odds_54 rfl rfl ?_
    refine aw_aldn (n := 57) C dX7_odds_56 rfl rfl ?_
    refine aw_getI (z := 5) (n := 60) C dX7_odds_57 rfl fl_X7_84 rfl rfl rfl ?_
    refine aw_icge (tgt := 91) (n := 63) C dX7_odds_60 rfl rfl (by omega) (by omega) (fun h_60 => ?_) (fun h_60 => ?_)
    · exact kk S1 hf hv
    · omega
  | succ n ih =>
    intro i S1 hi hf hv
    have e66 := hf 66 (by omega)
    have e5 : S1 66 5 = S 66 5 := by rw [e66]
    have W1 := MW_fr W hf (by omega)
    have ets := tuS_n s i
    have hsd : s / 2 ^ i < 256 := Nat.lt_of_le_of_lt (Nat.div_le_self s (2 ^ i)) hs
    have hsh := shr_bit i (by omega) s hs
    generalize hq : s / 2 ^ i = q at *
    refine aw_ildw (n := 56) C dX7_odds_54 rfl rfl ?_
    refine aw_aldn (n := 57) C dX7_odds_56 rfl rfl ?_
    refine aw_getI (z := 5) (n := 60) C dX7_odds_57 rfl fl_X7_84 rfl rfl rfl ?_
    refine aw_icge (tgt := 91) (n := 63) C dX7_odds_60 rfl rfl (by omega) (by omega) (fun h_60 => ?_) (fun h_60 => ?_)
    · omega
    · refine aw_aldn (n := 64) C dX7_odds_63 rfl rfl ?_
      refine aw_ildw (n := 66) C dX7_odds_64 rfl rfl ?_
      refine aw_ildw (n := 68) C dX7_odds_66 rfl rfl ?_
      refine aw_ildw (n := 70) C dX7_odds_68 rfl rfl ?_
      refine aw_ishr (n := 71) C dX7_odds_70 rfl hsh ?_
      refine aw_iconst (n := 72) C dX7_odds_71 rfl ?_
      refine aw_iand (n := 73) C dX7_odds_72 rfl (and_one q hsd) ?_
      refine aw_iconst (n := 74) C dX7_odds_73 rfl ?_
      refine aw_icne (tgt := 81) (n := 77) C dX7_odds_74 rfl rfl (by omega) (by omega) (fun h_74 => ?_) (fun h_74 => ?_)
      · refine aw_iconst (n := 82) C dX7_odds_81 rfl ?_
        refine aw_cVv (n := 85) (vs := [_, _]) C dX7_odds_82 rfl rfl rfl mm_X7_goMile wM_X7_153 rfl rfl (Nat.le_of_ble_eq_true rfl) (d_goMile (m := i) W1 (by rw [e66]; omega) (by first | exact Or.inl rfl | exact Or.inr rfl) (fun p p0 p1 => by rw [e66] at p1; rw [hv p p0 p1]; exact RMs_r W i p p0 p1)) (by decide) (fun S_82 q_82 => ?_)
        obtain ⟨g1, g2⟩ := q_82
        rw [e66, hf 74 (by omega), hf 76 (by omega), hf 72 (by omega), hf 73 (by omega)] at g2
        refine aw_iinc (n := 88) (L' := [_, _, _, _, _, _, _]) C dX7_odds_85 rfl rfl (by decide) rfl rfl ?_
        refine aw_goto (tgt := 54) C dX7_odds_88 rfl ?_
        exact ih (i + 1) _ (by omega) (fr_tr hf g1) (fun p p0 p1 => by rw [g2 p p0 p1]; exact RMs_next W (by omega) (by omega) hv p p0 p1)
      · refine aw_iconst (n := 78) C dX7_odds_77 rfl ?_
        refine aw_goto (tgt := 82) C dX7_odds_78 rfl ?_
        refine aw_cVv (n := 85) (vs := [_, _]) C dX7_odds_82 rfl rfl rfl mm_X7_goMile wM_X7_153 rfl rfl (Nat.le_of_ble_eq_true rfl) (d_goMile (m := i) W1 (by rw [e66]; omega) (by first | exact Or.inl rfl | exact Or.inr rfl) (fun p p0 p1 => by rw [e66] at p1; rw [hv p p0 p1]; exact RMs_r W i p p0 p1)) (by decide) (fun S_82 q_82 => ?_)
        obtain ⟨g1, g2⟩ := q_82
        rw [e66, hf 74 (by omega), hf 76 (by omega), hf 72 (by omega), hf 73 (by omega)] at g2
        refine aw_iinc (n := 88) (L' := [_, _, _, _, _, _, _]) C dX7_odds_85 rfl rfl (by decide) rfl rfl ?_
        refine aw_goto (tgt := 54) C dX7_odds_88 rfl ?_
        exact ih (i + 1) _ (by omega) (fr_tr hf g1) (fun p p0 p1 => by rw [g2 p p0 p1]; exact RMs_next W (by omega) (by omega) hv p p0 p1)
theorem d_odds_loop {post : Int → Mem → Prop} {M : Nat} (W : MW S) (h5 : S 66 5 = (M : Int)) (hp0 : 0 ≤ p ∧ p < S 66 6) (hc : rng c) (hw : w = 0 ∨ w = 1) (C : CX X 2 RX7 cX7_odds 7) (hret : ∀ (pc : Nat) (L : List (Option AV)) (z : Int) (S' : Mem), decode cX7_odds pc = .ok (.lreturn, 1) → post z S' → AW X cX7_odds 7 pc L [.inr (.inl z)] S') (hp : ∀ S', fr 80 81 S S' → post (if w = 0 then (rdc M (sm (fOd S p c M) (2 ^ M)) (2 ^ M)).1 else (rdc M (sm (fOd S p c M) (2 ^ M)) (2 ^ M)).2) S') : ∀ (n s : Nat) (S1 : Mem) (x : Option AV), s + n = 2 ^ M → fr 80 81 S S1 → AW X cX7_odds 7 36 [some (.inr (.inr 66)), some (.inl p), some (.inl c), some (.inl w), some (.inl (sm (fOd S p c M) s)), some (.inl s), x] [] S1 := by
  obtain ⟨t1, t2, t3, t4, t5, t6⟩ := id W
  have hM8 : M ≤ 8 := by omega
  have hp8 := pwn8 M hM8
  have e2M : (2 : Int) ^ M = ((2 ^ M : Nat) : Int) := by rw [Int.natCast_pow]; rfl
  have hsh := shl_bitI (v := M) (by omega)
  rw [e2M] at hsh
  have hls := lshl_bit M (by omega)
  have hgc := rdc_gcd M hM8
  rw [e2M] at hp
  have hpp : 0 < 2 ^ M := Nat.pow_pos (by decide)
  intro n
  induction n with
  | zero =>
    intro s S1 x hs hf
    obtain rfl : s = 2 ^ M := by omega
    have hsr := sm_r (f := fOd S p c M) (a := 1) (n := 2 ^ M) (fun k _ => by unfold fOd; split <;> omega)
    obtain ⟨u, hu⟩ : ∃ u : Nat, sm (fOd S p c M) (2 ^ M) = u := ⟨(sm (fOd S p c M) (2 ^ M)).toNat, by omega⟩
    have hgu := hgc u
    rw [e2M] at hgu
    rw [hu] at hp hsr ⊢
    have e5 : S1 66 5 = (M : Int) := by rw [hf 66 (by omega)]; exact h5
    generalize hN : 2 ^ M = N at *
    refine aw_ildw (n := 38) C dX7_odds_36 rfl rfl ?_
    refine aw_iconst (n := 39) C dX7_odds_38 rfl ?_
    refine aw_aldn (n := 40) C dX7_odds_39 rfl rfl ?_
    refine aw_getI (z := 5) (n := 43) C dX7_odds_40 rfl fl_X7_84 rfl rfl rfl ?_
    rw [e5]
    refine aw_ishl (n := 44) C dX7_odds_43 rfl hsh ?_
    refine aw_icge (tgt := 121) (n := 47) C dX7_odds_44 rfl rfl (by omega) (by omega) (fun h_44 => ?_) (fun h_44 => ?_)
    · refine aw_ildw (n := 123) C dX7_odds_121 rfl rfl ?_
      refine aw_i2l (n := 124) C dX7_odds_123 rfl (by omega) ?_
      refine aw_lconst (z := 1) (n := 125) C dX7_odds_124 rfl (by decide) ?_
      refine aw_aldn (n := 126) C dX7_odds_125 rfl rfl ?_
      refine aw_getI (z := 5) (n := 129) C dX7_odds_126 rfl fl_X7_84 rfl rfl rfl ?_
      rw [e5]
      refine aw_lshl (n := 130) C dX7_odds_129 rfl hls ?_
      refine aw_ildn (n := 131) C dX7_odds_130 rfl rfl ?_
      refine aw_cSl (n := 134) (vs := [_, _, _]) C dX7_odds_131 rfl rfl rfl mm_X7_inLeastTerms wM_X7_221 (Nat.le_of_ble_eq_true rfl) (d_inLeast (u := u) (d := N) (by omega) (by omega) (by omega)) (by decide) (fun z_131 S_131 q_131 => ?_)
      rw [q_131.1, q_131.2]
      clear q_131 S_131 z_131
      refine hret 134 _ _ _ dX7_odds_134 ?_
      have := hp S1 hf
      rw [hgu (by omega) (by omega)] at this
      exact this
    · omega
  | succ n ih =>
    intro s S1 x hs hf
    have hsr := sm_r (f := fOd S p c M) (a := 1) (n := s) (fun k _ => by unfold fOd; split <;> omega)
    have e5 : S1 66 5 = (M : Int) := by rw [hf 66 (by omega)]; exact h5
    have k91 : ∀ S', fr 80 81 S S' → (∀ p, 0 ≤ p → p < S 66 6 → S' 80 p = RMs S s M p) → AW X cX7_odds 7 91 [some (.inr (.inr 66)), some (.inl p), some (.inl c), some (.inl w), some (.inl (sm (fOd S p c M) s)), some (.inl s), some (.inl M)] [] S' := by
      intro S2 hf2 hv2
      have e66 := hf2 66 (by omega)
      have hr2 := RMs_r (s := s) W M p hp0.1 hp0.2
      have hdr := due_r (S 66 7) (S 66 8) (RMs S s M p)
      refine aw_ildw (n := 93) C dX7_odds_91 rfl rfl ?_
      refine aw_aldn (n := 94) C dX7_odds_93 rfl rfl ?_
      refine aw_aldn (n := 95) C dX7_odds_94 rfl rfl ?_
      refine aw_getR (n := 98) C dX7_odds_95 rfl fl_X7_50 rfl rfl ?_
      refine aw_ildn (n := 99) C dX7_odds_98 rfl rfl ?_
      refine aw_iald (n := 100) C dX7_odds_99 rfl rfl (by omega) (by omega) ?_
      rw [hv2 p hp0.1 hp0.2]
      refine aw_cVi (n := 103) (vs := [_]) C dX7_odds_100 rfl rfl rfl mm_X7_dueBy wM_X7_165 rfl rfl (Nat.le_of_ble_eq_true rfl) (d_dueBy (by omega) (by rw [e66]; omega) (by rw [e66]; omega)) (by decide) (fun z_100 S_100 q_100 => ?_)
      rw [q_100.1, q_100.2]
      clear q_100 S_100 z_100
      refine aw_ildn (n := 104) C dX7_odds_103 rfl rfl ?_
      rw [e66]
      refine aw_icne (tgt := 111) (n := 107) C dX7_odds_104 rfl rfl (by omega) (by omega) (fun h_104 => ?_) (fun h_104 => ?_)
      · refine aw_iconst (n := 112) C dX7_odds_111 rfl ?_
        refine aw_iadd (n := 113) C dX7_odds_112 rfl ?_
        refine aw_istw (n := 115) (L' := [_, _, _, _, _, _, _]) C dX7_odds_113 rfl (by decide) rfl rfl ?_
        refine aw_iinc (n := 118) (L' := [_, _, _, _, _, _, _]) C dX7_odds_115 rfl rfl (by decide) rfl rfl ?_
        refine aw_goto (tgt := 36) C dX7_odds_118 rfl ?_
        have := ih (s + 1) S2 (some (.inl M)) (by omega) hf2
        rw [sm_s] at this
        unfold fOd at this
        first | (rw [if_pos h_104] at this; exact this) | (rw [if_neg h_104] at this; exact this)
      · refine aw_iconst (n := 108) C dX7_odds_107 rfl ?_
        refine aw_goto (tgt := 112) C dX7_odds_108 rfl ?_
        refine aw_iadd (n := 113) C dX7_odds_112 rfl ?_
        refine aw_istw (n := 115) (L' := [_, _, _, _, _, _, _]) C dX7_odds_113 rfl (by decide) rfl rfl ?_
        refine aw_iinc (n := 118) (L' := [_, _, _, _, _, _, _]) C dX7_odds_115 rfl rfl (by decide) rfl rfl ?_
        refine aw_goto (tgt := 36) C dX7_odds_118 rfl ?_
        have := ih (s + 1) S2 (some (.inl M)) (by omega) hf2
        rw [sm_s] at this
        unfold fOd at this
        first | (rw [if_pos h_104] at this; exact this) | (rw [if_neg h_104] at this; exact this)
    generalize hN : 2 ^ M = N at *
    refine aw_ildw (n := 38) C dX7_odds_36 rfl rfl ?_
    refine aw_iconst (n := 39) C dX7_odds_38 rfl ?_
    refine aw_aldn (n := 40) C dX7_odds_39 rfl rfl ?_
    refine aw_getI (z := 5) (n := 43) C dX7_odds_40 rfl fl_X7_84 rfl rfl rfl ?_
    rw [e5]
    refine aw_ishl (n := 44) C dX7_odds_43 rfl hsh ?_
    refine aw_icge (tgt := 121) (n := 47) C dX7_odds_44 rfl rfl (by omega) (by omega) (fun h_44 => ?_) (fun h_44 => ?_)
    · omega
    · refine aw_aldn (n := 48) C dX7_odds_47 rfl rfl ?_
      refine aw_cVv (n := 51) (vs := []) C dX7_odds_48 rfl rfl rfl mm_X7_begin wM_X7_150 rfl rfl (Nat.le_of_ble_eq_true rfl) (d_begin (by rw [hf 66 (by omega)]; exact t2)) (by decide) (fun S_48 q_48 => ?_)
      obtain ⟨g1, g2⟩ := q_48
      rw [hf 66 (by omega), hf 75 (by omega)] at g2
      refine aw_iconst (n := 52) C dX7_odds_51 rfl ?_
      refine aw_istw (n := 54) (L' := [_, _, _, _, _, _, _]) C dX7_odds_52 rfl (by decide) rfl rfl ?_
      exact d_odds_in W h5 (by omega) C k91 M 0 _ (by omega) (fr_tr hf g1) g2
theorem m_odds (hp : rng p) (hc : rng c) (hw : rng w) (W : MW S) : AMl 2 yX7_odds cX7_odds 7 (some .long) [.inr (.inr 66), .inl p, .inl c, .inl w] S (fun z S' => fr 80 81 S S' ∧ z = (if p < 0 ∨ S 66 6 ≤ p ∨ c < 0 ∨ 3 ≤ c ∨ w < 0 ∨ 1 < w then -9223372036854775808 else if w = 0 then (rdc (S 66 5).toNat (wy (S 74) (S 76) (S 72) (S 73) (S 66 7) (S 66 8) p c (S 66 5).toNat 0 (S 75)) (2 ^ (S 66 5).toNat)).1 else (rdc (S 66 5).toNat (wy (S 74) (S 76) (S 72) (S 73) (S 66 7) (S 66 8) p c (S 66 5).toNat 0 (S 75)) (2 ^ (S 66 5).toNat)).2)) := by
  obtain ⟨t1, t2, t3, t4, t5, t6⟩ := id W
  obtain ⟨M, hM⟩ : ∃ M : Nat, S 66 5 = M := ⟨(S 66 5).toNat, by omega⟩
  refine aml_intro (L := [_, _, _, _, none, none, none]) (by decide) rfl (Nat.le_of_ble_eq_true rfl) (fun X C hret => ?_)
  refine aw_aldn (n := 1) C dX7_odds_0 rfl rfl ?_
  refine aw_ildn (n := 2) C dX7_odds_1 rfl rfl ?_
  refine aw_cVi (n := 5) (vs := [_]) C dX7_odds_2 rfl rfl rfl mm_X7_isPassenger wM_X7_137 rfl rfl (Nat.le_of_ble_eq_true rfl) (d_isPassenger hp (by omega)) (by decide) (fun z_2 S_2 q_2 => ?_)
  rw [q_2.1, q_2.2]
  clear q_2 S_2 z_2
  refine aw_ifeq (tgt := 26) (n := 8) C dX7_odds_5 rfl rfl (by omega) (fun h_5 => ?_) (fun h_5 => ?_)
  · refine aw_ldc2 (z := -9223372036854775808) (n := 29) C dX7_odds_26 rfl wL_X7_75 (by decide) ?_
    refine hret 29 _ _ _ dX7_odds_29 ?_
    exact ⟨fr_rf _ _ _, by rw [if_pos (by omega)]⟩
  · refine aw_ildn (n := 9) C dX7_odds_8 rfl rfl ?_
    refine aw_iconst (n := 10) C dX7_odds_9 rfl ?_
    refine aw_iconst (n := 11) C dX7_odds_10 rfl ?_
    refine aw_cSi (n := 14) (vs := [_, _, _]) C dX7_odds_11 rfl rfl rfl mm_X7_within wM_X7_77 (Nat.le_of_ble_eq_true rfl) (d_within hc (by decide) (by decide)) (by decide) (fun z_11 S_11 q_11 => ?_)
    rw [q_11.1, q_11.2]
    clear q_11 S_11 z_11
    refine aw_ifeq (tgt := 26) (n := 17) C dX7_odds_14 rfl rfl (by omega) (fun h_14 => ?_) (fun h_14 => ?_)
    · refine aw_ldc2 (z := -9223372036854775808) (n := 29) C dX7_odds_26 rfl wL_X7_75 (by decide) ?_
      refine hret 29 _ _ _ dX7_odds_29 ?_
      exact ⟨fr_rf _ _ _, by rw [if_pos (by omega)]⟩
    · refine aw_ildn (n := 18) C dX7_odds_17 rfl rfl ?_
      refine aw_iconst (n := 19) C dX7_odds_18 rfl ?_
      refine aw_iconst (n := 20) C dX7_odds_19 rfl ?_
      refine aw_cSi (n := 23) (vs := [_, _, _]) C dX7_odds_20 rfl rfl rfl mm_X7_within wM_X7_77 (Nat.le_of_ble_eq_true rfl) (d_within hw (by decide) (by decide)) (by decide) (fun z_20 S_20 q_20 => ?_)
      rw [q_20.1, q_20.2]
      clear q_20 S_20 z_20
      refine aw_ifne (tgt := 30) (n := 26) C dX7_odds_23 rfl rfl (by omega) (fun h_23 => ?_) (fun h_23 => ?_)
      · refine aw_iconst (n := 31) C dX7_odds_30 rfl ?_
        refine aw_istw (n := 33) (L' := [_, _, _, _, _, _, _]) C dX7_odds_31 rfl (by decide) rfl rfl ?_
        refine aw_iconst (n := 34) C dX7_odds_33 rfl ?_
        refine aw_istw (n := 36) (L' := [_, _, _, _, _, _, _]) C dX7_odds_34 rfl (by decide) rfl rfl ?_
        refine d_odds_loop (M := M) W hM (by omega) hc (by omega) C hret (fun S' hf => ⟨hf, ?_⟩) (2 ^ M) 0 S _ (by omega) (fr_rf _ _ _)
        symm
        rw [if_neg (by omega), hM, Int.toNat_natCast, fOd_wy]
      · refine aw_ldc2 (z := -9223372036854775808) (n := 29) C dX7_odds_26 rfl wL_X7_75 (by decide) ?_
        refine hret 29 _ _ _ dX7_odds_29 ?_
        exact ⟨fr_rf _ _ _, by rw [if_pos (by omega)]⟩
end MOD
