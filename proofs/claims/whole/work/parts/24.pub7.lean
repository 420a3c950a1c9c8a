/-! RegretLine: odds -/
/-- in how many ways the miles from m on bring one to a class -/
def wy (kd fd tA tB : Fn) (l1 l2 p c : Int) : Nat → Nat → Fn → Int
  | 0, _, row => if due l1 l2 (row p) = c then 1 else 0
  | r + 1, m, row => wy kd fd tA tB l1 l2 p c r (m + 1) (stp kd fd 0 (tA m) (tB m) row) + wy kd fd tA tB l1 l2 p c r (m + 1) (stp kd fd 1 (tA m) (tB m) row)
theorem wy_congr {kd fd tA tB kd' fd' tA' tB' : Fn} {l1 l2 p c mi pe : Int} (p0 : 0 ≤ p) (p1 : p < pe) (hk : ∀ p, 0 ≤ p → p < pe → kd p = kd' p) (hf : ∀ p, 0 ≤ p → p < pe → fd p = fd' p) (hm : ∀ m, 0 ≤ m → m < mi → tA m = tA' m ∧ tB m = tB' m) (ht : ∀ m, 0 ≤ m → m < mi → tok pe (tA m) (tB m)) : ∀ (r m : Nat) (row row' : Fn), (m : Int) + r ≤ mi → (∀ x, 0 ≤ x → x < pe → row x = row' x) → wy kd fd tA tB l1 l2 p c r m row = wy kd' fd' tA' tB' l1 l2 p c r m row'
  | 0, m, row, row', _, h => by unfold wy; rw [h p p0 p1]
  | r + 1, m, row, row', hmr, h => by
    obtain ⟨e1, e2⟩ := hm m (by omega) (by omega)
    unfold wy
    rw [← e1, ← e2, wy_congr p0 p1 hk hf hm ht r (m + 1) _ _ (by omega) (fun x x0 x1 => stp_congr (t := 0) (ht m (by omega) (by omega)) x0 x1 hk hf h), wy_congr p0 p1 hk hf hm ht r (m + 1) _ _ (by omega) (fun x x0 x1 => stp_congr (t := 1) (ht m (by omega) (by omega)) x0 x1 hk hf h)]
theorem wy_r (kd fd tA tB : Fn) (l1 l2 p c : Int) : ∀ (r m : Nat) (row : Fn), 0 ≤ wy kd fd tA tB l1 l2 p c r m row ∧ wy kd fd tA tB l1 l2 p c r m row ≤ 2 ^ r
  | 0, m, row => by unfold wy; split <;> decide
  | r + 1, m, row => by
    have h1 := wy_r kd fd tA tB l1 l2 p c r (m + 1) (stp kd fd 0 (tA m) (tB m) row)
    have h2 := wy_r kd fd tA tB l1 l2 p c r (m + 1) (stp kd fd 1 (tA m) (tB m) row)
    have e : (2 : Int) ^ (r + 1) = 2 ^ r + 2 ^ r := by rw [Int.pow_succ]; omega
    unfold wy
    rw [e]
    omega
theorem pw8 : ∀ r : Nat, r ≤ 8 → (2 : Int) ^ r ≤ 256 := by decide
theorem pwC : ∀ r : Nat, r ≤ 8 → 2 ^ r ≤ 256 := by decide
theorem shr_bitC : ∀ i : Nat, i < 8 → ∀ s : Nat, s < 256 → Int32.ofInt (s : Int) >>> (Int32.ofInt (i : Int) &&& 31) = Int32.ofInt ((s / 2 ^ i : Nat) : Int) := by decide +kernel
theorem and_oneC : ∀ s : Nat, s < 256 → Int32.ofInt (s : Int) &&& Int32.ofInt 1 = Int32.ofInt ((s % 2 : Nat) : Int) := by decide +kernel
/-- the tunnels that a number's bits say, the last mile by the lowest -/
def tuH (M s : Nat) (x : Int) : Int := ((s / 2 ^ (M - 1 - x.toNat) % 2 : Nat) : Int)
theorem tuH_n (M s i : Nat) : tuH M s (i : Int) = ((s / 2 ^ (M - 1 - i) % 2 : Nat) : Int) := by unfold tuH; rw [Int.toNat_natCast]
theorem tuH_b (M s : Nat) (x : Int) : tuH M s x = 0 ∨ tuH M s x = 1 := by unfold tuH; omega
/-- rows by the bits of a number, the highest first -/
def runH (kd fd tA tB : Fn) : Nat → Nat → Fn → Nat → Fn
  | 0, _, row, _ => row
  | r + 1, m, row, s => runH kd fd tA tB r (m + 1) (stp kd fd ((s / 2 ^ r % 2 : Nat) : Int) (tA m) (tB m) row) s
theorem runH_congr (kd fd tA tB : Fn) {s s' : Nat} : ∀ (r m : Nat) (row : Fn), (∀ i, i < r → s / 2 ^ i % 2 = s' / 2 ^ i % 2) → runH kd fd tA tB r m row s = runH kd fd tA tB r m row s'
  | 0, _, _, _ => rfl
  | r + 1, m, row, h => by
    show runH kd fd tA tB r (m + 1) (stp kd fd ((s / 2 ^ r % 2 : Nat) : Int) (tA m) (tB m) row) s = runH kd fd tA tB r (m + 1) (stp kd fd ((s' / 2 ^ r % 2 : Nat) : Int) (tA m) (tB m) row) s'
    rw [h r (Nat.lt_succ_self r)]
    exact runH_congr kd fd tA tB r (m + 1) _ (fun i hi => h i (by omega))
theorem hb_low {r i s : Nat} (hi : i < r) : (2 ^ r + s) / 2 ^ i % 2 = s / 2 ^ i % 2 := by
  have e : 2 ^ r = 2 ^ i * (2 * 2 ^ (r - 1 - i)) := by
    rw [← Nat.mul_assoc, ← Nat.pow_succ, ← Nat.pow_add]
    congr 1
    omega
  rw [e, Nat.mul_add_div (Nat.pow_pos (by decide))]
  generalize 2 ^ (r - 1 - i) = k
  generalize s / 2 ^ i = q
  omega
theorem sm_addH (f : Nat → Int) (a : Nat) : ∀ b : Nat, sm f (a + b) = sm f a + sm (fun k => f (a + k)) b
  | 0 => (Int.add_zero _).symm
  | b + 1 => by
    show sm f (a + b) + f (a + b) = sm f a + (sm (fun k => f (a + k)) b + f (a + b))
    rw [sm_addH f a b]
    omega
theorem wy_sumH (kd fd tA tB : Fn) (l1 l2 p c : Int) : ∀ (r m : Nat) (row : Fn), wy kd fd tA tB l1 l2 p c r m row = sm (fun s => if due l1 l2 (runH kd fd tA tB r m row s p) = c then 1 else 0) (2 ^ r)
  | 0, m, row => by
    show (if due l1 l2 (row p) = c then 1 else 0) = 0 + (if due l1 l2 (row p) = c then (1 : Int) else 0)
    rw [Int.zero_add]
  | r + 1, m, row => by
    unfold wy
    rw [show 2 ^ (r + 1) = 2 ^ r + 2 ^ r by rw [Nat.pow_succ]; omega, sm_addH, wy_sumH kd fd tA tB l1 l2 p c r (m + 1), wy_sumH kd fd tA tB l1 l2 p c r (m + 1)]
    congr 1
    · refine sm_congr (fun s hs => ?_)
      show _ = (if due l1 l2 (runH kd fd tA tB r (m + 1) (stp kd fd ((s / 2 ^ r % 2 : Nat) : Int) (tA m) (tB m) row) s p) = c then (1 : Int) else 0)
      rw [Nat.div_eq_of_lt hs]
      rfl
    · refine sm_congr (fun s hs => ?_)
      show _ = (if due l1 l2 (runH kd fd tA tB r (m + 1) (stp kd fd (((2 ^ r + s) / 2 ^ r % 2 : Nat) : Int) (tA m) (tB m) row) (2 ^ r + s) p) = c then (1 : Int) else 0)
      rw [runH_congr kd fd tA tB (s := 2 ^ r + s) (s' := s) r (m + 1) _ (fun i hi => hb_low hi), Nat.add_div_left s (Nat.pow_pos (by decide)), Nat.div_eq_of_lt hs]
      rfl
theorem runH_rg (kd fd bg tA tB : Fn) (M s : Nat) : ∀ r m : Nat, m + r = M → runH kd fd tA tB r m (rg kd fd bg (tuH M s) tA tB m) s = rg kd fd bg (tuH M s) tA tB M
  | 0, m, h => by
    have e : m = M := by omega
    show rg kd fd bg (tuH M s) tA tB m = _
    rw [e]
  | r + 1, m, h => by
    show runH kd fd tA tB r (m + 1) (stp kd fd ((s / 2 ^ r % 2 : Nat) : Int) (tA m) (tB m) (rg kd fd bg (tuH M s) tA tB m)) s = _
    rw [show ((s / 2 ^ r % 2 : Nat) : Int) = tuH M s (m : Int) by rw [tuH_n, show M - 1 - m = r by omega]]
    exact runH_rg kd fd bg tA tB M s r (m + 1) (by omega)
/-- one more if due in c by the bits of s -/
def fH (S : Mem) (p c : Int) (M s : Nat) : Int := if due (S 10 10) (S 10 11) (rg (S 15) (S 17) (S 16) (tuH M s) (S 13) (S 14) M p) = c then 1 else 0
theorem fH_wy {S : Mem} {p c : Int} (M : Nat) : sm (fH S p c M) (2 ^ M) = wy (S 15) (S 17) (S 13) (S 14) (S 10 10) (S 10 11) p c M 0 (S 16) := by
  rw [wy_sumH]
  refine sm_congr (fun s _ => ?_)
  unfold fH
  rw [← runH_rg (S 15) (S 17) (S 16) (S 13) (S 14) M s M 0 (by omega)]
  rfl
/-- the rows of the guess are its regrets -/
def CGg (S : Mem) : Prop := ∀ m : Nat, (m : Int) ≤ S 28 8 → ∀ p, 0 ≤ p → p < S 28 9 → S (37 + m) p = rg (S 33) (S 35) (S 34) (S 30) (S 31) (S 32) m p
theorem c_dig_loop {X : AMX} {S : Mem} {s M : Nat} {post : Mem → Prop} (T : TW 28 S) (hM : S 28 8 = (M : Int)) (hs : s < 256) (C : CX X 4 RX5 cX5_digAndRide 5) (hret : ∀ (pc : Nat) (L : List (Option AV)) (S' : Mem), decode cX5_digAndRide pc = .ok (.return_, 1) → post S' → AW X cX5_digAndRide 5 pc L [] S') (hk : ∀ (S1 : Mem) (f : Nat) (y x : Option AV), f ≤ M → (∀ c, c ≠ 30 → S1 c = S c) → (∀ m : Nat, m < M → S1 30 m = tuH M s m) → (∀ m : Nat, m < f → S1 30 m = S 30 m) → AW X cX5_digAndRide 5 66 [some (.inr (.inr 28)), some (.inl (s : Int)), some (.inl (f : Int)), y, x] [] S1) : ∀ (n f : Nat) (x : Option AV) (S1 : Mem), n ≤ f → f ≤ M → (∀ c, c ≠ 30 → S1 c = S c) → (∀ m : Nat, n ≤ m → m < M → S1 30 m = tuH M s m) → (∀ m : Nat, m < f → S1 30 m = S 30 m) → AW X cX5_digAndRide 5 12 [some (.inr (.inr 28)), some (.inl (s : Int)), some (.inl (f : Int)), some (.inl ((n : Int) - 1)), x] [] S1 := by
  obtain ⟨t1, t2, t3, t4, t5, t6⟩ := TW28 T
  intro n
  induction n with
  | zero =>
    intro f x S1 hnf hf ho hv hw
    refine aw_ildn (n := 13) C dX5_digAndRide_12 rfl rfl ?_
    refine aw_iflt (tgt := 66) (n := 16) C dX5_digAndRide_13 rfl rfl (by omega) (fun h_13 => ?_) (fun h_13 => ?_)
    · exact hk S1 f _ _ hf ho (fun m h => hv m (Nat.zero_le m) h) hw
    · omega
  | succ n ih =>
    intro f x S1 hnf hf ho hv hw
    have e8 : S1 28 8 = (M : Int) := by rw [ho 28 (by decide)]; exact hM
    have h30 : S1 30 (n : Int) = 0 ∨ S1 30 (n : Int) = 1 := by
      rw [hw n (by omega)]
      exact (t5 n (by omega) (by omega)).1
    have ht := tuH_n M s n
    have hsh := shr_bitC (M - 1 - n) (by omega) s hs
    have hsd : s / 2 ^ (M - 1 - n) < 256 := Nat.lt_of_le_of_lt (Nat.div_le_self s _) hs
    rw [show ((M - 1 - n : Nat) : Int) = (M : Int) - 1 - (n : Int) by omega] at hsh
    generalize hq : s / 2 ^ (M - 1 - n) = q at *
    have hl : ((n + 1 : Nat) : Int) - 1 = (n : Int) := by omega
    have hl2 : (n : Int) + -1 = (n : Int) - 1 := by omega
    rw [hl]
    refine aw_ildn (n := 13) C dX5_digAndRide_12 rfl rfl ?_
    refine aw_iflt (tgt := 66) (n := 16) C dX5_digAndRide_13 rfl rfl (by omega) (fun h_13 => ?_) (fun h_13 => ?_)
    · omega
    · refine aw_ildn (n := 17) C dX5_digAndRide_16 rfl rfl ?_
      refine aw_aldn (n := 18) C dX5_digAndRide_17 rfl rfl ?_
      refine aw_getI (z := 8) (n := 21) C dX5_digAndRide_18 rfl fl_X5_39 rfl rfl rfl ?_
      refine aw_iconst (n := 22) C dX5_digAndRide_21 rfl ?_
      refine aw_isub (n := 23) C dX5_digAndRide_22 rfl ?_
      refine aw_ildn (n := 24) C dX5_digAndRide_23 rfl rfl ?_
      refine aw_isub (n := 25) C dX5_digAndRide_24 rfl ?_
      rw [e8]
      refine aw_ishr (n := 26) C dX5_digAndRide_25 rfl hsh ?_
      refine aw_iconst (n := 27) C dX5_digAndRide_26 rfl ?_
      refine aw_iand (n := 28) C dX5_digAndRide_27 rfl (and_oneC q hsd) ?_
      refine aw_iconst (n := 29) C dX5_digAndRide_28 rfl ?_
      refine aw_icne (tgt := 36) (n := 32) C dX5_digAndRide_29 rfl rfl (by omega) (by omega) (fun h_29 => ?_) (fun h_29 => ?_)
      · refine aw_iconst (n := 37) C dX5_digAndRide_36 rfl ?_
        refine aw_istw (n := 39) (L' := [_, _, _, _, _]) C dX5_digAndRide_37 rfl (by decide) rfl rfl ?_
        refine aw_aldn (n := 40) C dX5_digAndRide_39 rfl rfl ?_
        refine aw_getR (n := 43) C dX5_digAndRide_40 rfl fl_X5_15 rfl rfl ?_
        refine aw_ildn (n := 44) C dX5_digAndRide_43 rfl rfl ?_
        refine aw_zald (n := 45) C dX5_digAndRide_44 rfl rfl (by omega) (by omega) ?_
        refine aw_ildw (n := 47) C dX5_digAndRide_45 rfl rfl ?_
        refine aw_iceq (tgt := 60) (n := 50) C dX5_digAndRide_47 rfl rfl (by omega) (by omega) (fun h_47 => ?_) (fun h_47 => ?_)
        · refine aw_iinc (n := 63) (L' := [_, _, _, _, _]) C dX5_digAndRide_60 rfl rfl (by decide) rfl rfl ?_
          refine aw_goto (tgt := 12) C dX5_digAndRide_63 rfl ?_
          rw [hl2]
          first
            | exact ih n _ _ (Nat.le_refl n) (by omega) (fun c hc => by rw [st2_o c hc]; exact ho c hc) (fun m h1 h2 => by
                by_cases e : m = n
                · subst e
                  rw [st2_s, ht]
                  omega
                · rw [st2_n (by omega)]
                  exact hv m (by omega) h2) (fun m h => by
                rw [st2_n (by omega)]
                exact hw m (by omega))
            | exact ih f _ S1 (by omega) hf ho (fun m h1 h2 => by
                by_cases e : m = n
                · subst e
                  rw [ht]
                  omega
                · exact hv m (by omega) h2) hw
        · refine aw_aldn (n := 51) C dX5_digAndRide_50 rfl rfl ?_
          refine aw_getR (n := 54) C dX5_digAndRide_51 rfl fl_X5_15 rfl rfl ?_
          refine aw_ildn (n := 55) C dX5_digAndRide_54 rfl rfl ?_
          refine aw_ildw (n := 57) C dX5_digAndRide_55 rfl rfl ?_
          refine aw_zast (n := 58) C dX5_digAndRide_57 rfl rfl (by omega) (by omega) (by omega) ?_
          refine aw_ildn (n := 59) C dX5_digAndRide_58 rfl rfl ?_
          refine aw_istn (n := 60) (L' := [_, _, _, _, _]) C dX5_digAndRide_59 rfl (by decide) rfl rfl ?_
          refine aw_iinc (n := 63) (L' := [_, _, _, _, _]) C dX5_digAndRide_60 rfl rfl (by decide) rfl rfl ?_
          refine aw_goto (tgt := 12) C dX5_digAndRide_63 rfl ?_
          rw [hl2]
          first
            | exact ih n _ _ (Nat.le_refl n) (by omega) (fun c hc => by rw [st2_o c hc]; exact ho c hc) (fun m h1 h2 => by
                by_cases e : m = n
                · subst e
                  rw [st2_s, ht]
                  omega
                · rw [st2_n (by omega)]
                  exact hv m (by omega) h2) (fun m h => by
                rw [st2_n (by omega)]
                exact hw m (by omega))
            | exact ih f _ S1 (by omega) hf ho (fun m h1 h2 => by
                by_cases e : m = n
                · subst e
                  rw [ht]
                  omega
                · exact hv m (by omega) h2) hw
      · refine aw_iconst (n := 33) C dX5_digAndRide_32 rfl ?_
        refine aw_goto (tgt := 37) C dX5_digAndRide_33 rfl ?_
        refine aw_istw (n := 39) (L' := [_, _, _, _, _]) C dX5_digAndRide_37 rfl (by decide) rfl rfl ?_
        refine aw_aldn (n := 40) C dX5_digAndRide_39 rfl rfl ?_
        refine aw_getR (n := 43) C dX5_digAndRide_40 rfl fl_X5_15 rfl rfl ?_
        refine aw_ildn (n := 44) C dX5_digAndRide_43 rfl rfl ?_
        refine aw_zald (n := 45) C dX5_digAndRide_44 rfl rfl (by omega) (by omega) ?_
        refine aw_ildw (n := 47) C dX5_digAndRide_45 rfl rfl ?_
        refine aw_iceq (tgt := 60) (n := 50) C dX5_digAndRide_47 rfl rfl (by omega) (by omega) (fun h_47 => ?_) (fun h_47 => ?_)
        · refine aw_iinc (n := 63) (L' := [_, _, _, _, _]) C dX5_digAndRide_60 rfl rfl (by decide) rfl rfl ?_
          refine aw_goto (tgt := 12) C dX5_digAndRide_63 rfl ?_
          rw [hl2]
          first
            | exact ih n _ _ (Nat.le_refl n) (by omega) (fun c hc => by rw [st2_o c hc]; exact ho c hc) (fun m h1 h2 => by
                by_cases e : m = n
                · subst e
                  rw [st2_s, ht]
                  omega
                · rw [st2_n (by omega)]
                  exact hv m (by omega) h2) (fun m h => by
                rw [st2_n (by omega)]
                exact hw m (by omega))
            | exact ih f _ S1 (by omega) hf ho (fun m h1 h2 => by
                by_cases e : m = n
                · subst e
                  rw [ht]
                  omega
                · exact hv m (by omega) h2) hw
        · refine aw_aldn (n := 51) C dX5_digAndRide_50 rfl rfl ?_
          refine aw_getR (n := 54) C dX5_digAndRide_51 rfl fl_X5_15 rfl rfl ?_
          refine aw_ildn (n := 55) C dX5_digAndRide_54 rfl rfl ?_
          refine aw_ildw (n := 57) C dX5_digAndRide_55 rfl rfl ?_
          refine aw_zast (n := 58) C dX5_digAndRide_57 rfl rfl (by omega) (by omega) (by omega) ?_
          refine aw_ildn (n := 59) C dX5_digAndRide_58 rfl rfl ?_
          refine aw_istn (n := 60) (L' := [_, _, _, _, _]) C dX5_digAndRide_59 rfl (by decide) rfl rfl ?_
          refine aw_iinc (n := 63) (L' := [_, _, _, _, _]) C dX5_digAndRide_60 rfl rfl (by decide) rfl rfl ?_
          refine aw_goto (tgt := 12) C dX5_digAndRide_63 rfl ?_
          rw [hl2]
          first
            | exact ih n _ _ (Nat.le_refl n) (by omega) (fun c hc => by rw [st2_o c hc]; exact ho c hc) (fun m h1 h2 => by
                by_cases e : m = n
                · subst e
                  rw [st2_s, ht]
                  omega
                · rw [st2_n (by omega)]
                  exact hv m (by omega) h2) (fun m h => by
                rw [st2_n (by omega)]
                exact hw m (by omega))
            | exact ih f _ S1 (by omega) hf ho (fun m h1 h2 => by
                by_cases e : m = n
                · subst e
                  rw [ht]
                  omega
                · exact hv m (by omega) h2) hw
theorem c_digAndRide28 {S : Mem} {s M : Nat} (T : TW 28 S) (G : CGg S) (hM : S 28 8 = (M : Int)) (hs : s < 256) : AMv 4 yX5_digAndRide cX5_digAndRide 5 [.inr (.inr 28), .inl (s : Int)] S (fun S' => (∀ c, c ≠ 30 → c < 38 ∨ 46 ≤ c → S' c = S c) ∧ (∀ m : Nat, m < M → S' 30 m = tuH M s m) ∧ CGg S' ∧ TW 28 S') := by
  obtain ⟨t1, t2, t3, t4, t5, t6⟩ := TW28 T
  refine amv_intro (L := [_, _, none, none, none]) (by decide) rfl (Nat.le_of_ble_eq_true rfl) (fun X C hret => ?_)
  have k66 : ∀ (S1 : Mem) (f : Nat) (y x : Option AV), f ≤ M → (∀ c, c ≠ 30 → S1 c = S c) → (∀ m : Nat, m < M → S1 30 m = tuH M s m) → (∀ m : Nat, m < f → S1 30 m = S 30 m) → AW X cX5_digAndRide 5 66 [some (.inr (.inr 28)), some (.inl (s : Int)), some (.inl (f : Int)), y, x] [] S1 := by
    intro S1 f y x hf ho hv hw
    have T1 : TW 28 S1 := by
      unfold TW
      rw [ho 28 (by decide)]
      refine ⟨t1, t2, t3, t4, fun x x0 x1 => ?_, fun p p0 p1 => ?_⟩
      · show (S1 30 x = 0 ∨ S1 30 x = 1) ∧ tok (S 28 9) (S1 31 x) (S1 32 x)
        rw [ho 31 (by decide), ho 32 (by decide)]
        refine ⟨?_, (t5 x x0 x1).2⟩
        obtain ⟨k, rfl⟩ : ∃ k : Nat, x = (k : Int) := ⟨x.toNat, by omega⟩
        rw [hv k (by omega)]
        exact tuH_b _ _ _
      · show (0 ≤ S1 33 p ∧ S1 33 p ≤ 2) ∧ (0 ≤ S1 34 p ∧ S1 34 p ≤ 59) ∧ (0 ≤ S1 35 p ∧ S1 35 p ≤ 9)
        rw [ho 33 (by decide), ho 34 (by decide), ho 35 (by decide)]
        exact t6 p p0 p1
    refine aw_aldn (n := 67) C dX5_digAndRide_66 rfl rfl ?_
    refine aw_ildn (n := 68) C dX5_digAndRide_67 rfl rfl ?_
    refine aw_cVv (n := 71) (vs := [_]) C dX5_digAndRide_68 rfl rfl rfl mm_X5_rideFrom wM_X5_70 rfl rfl (Nat.le_of_ble_eq_true rfl) (c_rideFrom28 (f := f) T1 (by rw [ho 28 (by decide)]; omega) (fun p p0 p1 => by rw [ho 28 (by decide)] at p1; rw [ho (37 + f) (by omega), G f (by omega) p p0 p1]; exact rg_r (fun x x0 x1 => (t6 x x0 x1).2.1) f p p0 p1)) (by decide) (fun S_68 q_68 => ?_)
    obtain ⟨g1, g2⟩ := q_68
    rw [ho 33 (by decide), ho 35 (by decide), ho 31 (by decide), ho 32 (by decide), ho 28 (by decide)] at g2
    refine hret 71 _ _ dX5_digAndRide_71 ?_
    refine ⟨fun c c0 c1 => by rw [g1 c (by omega), ho c c0], fun m hm => by rw [g1 30 (by omega)]; exact hv m hm, ?_, TW28_fr T1 (fr_w g1 (by omega) (by omega))⟩
    unfold CGg
    rw [g1 28 (by omega), ho 28 (by decide), g1 33 (by omega), ho 33 (by decide), g1 35 (by omega), ho 35 (by decide), g1 34 (by omega), ho 34 (by decide), g1 31 (by omega), ho 31 (by decide), g1 32 (by omega), ho 32 (by decide)]
    refine rows_rg (row := fun m => S_68 (37 + m)) (fun p p0 p1 => ?_) (fun m m0 m1 => (t5 m m0 m1).2) (fun j hj p p0 p1 => ?_)
    · show S_68 37 p = _
      rw [g1 37 (by omega), ho 37 (by decide)]
      exact G 0 (by omega) p p0 p1
    · show S_68 (37 + (j + 1)) p = stp (S 33) (S 35) (S_68 30 j) (S 31 j) (S 32 j) (S_68 (37 + j)) p
      by_cases hjf : f ≤ j
      · rw [show 37 + (j + 1) = 38 + j by omega, g2 j hjf hj p p0 p1, g1 30 (by omega)]
      · rw [g1 (37 + (j + 1)) (by omega), ho (37 + (j + 1)) (by omega), G (j + 1) (by omega) p p0 p1, g1 30 (by omega), hw j (by omega)]
        exact stp_congr (t5 j (by omega) hj).2 p0 p1 (fun _ _ _ => rfl) (fun _ _ _ => rfl) (fun x x0 x1 => by rw [g1 (37 + j) (by omega), ho (37 + j) (by omega), G j (by omega) x x0 x1])
  refine aw_aldn (n := 1) C dX5_digAndRide_0 rfl rfl ?_
  refine aw_getI (z := 8) (n := 4) C dX5_digAndRide_1 rfl fl_X5_39 rfl rfl rfl ?_
  refine aw_istn (n := 5) (L' := [_, _, _, _, _]) C dX5_digAndRide_4 rfl (by decide) rfl rfl ?_
  refine aw_aldn (n := 6) C dX5_digAndRide_5 rfl rfl ?_
  refine aw_getI (z := 8) (n := 9) C dX5_digAndRide_6 rfl fl_X5_39 rfl rfl rfl ?_
  refine aw_iconst (n := 10) C dX5_digAndRide_9 rfl ?_
  refine aw_isub (n := 11) C dX5_digAndRide_10 rfl ?_
  refine aw_istn (n := 12) (L' := [_, _, _, _, _]) C dX5_digAndRide_11 rfl (by decide) rfl rfl ?_
  rw [hM]
  exact c_dig_loop T hM hs C hret k66 M M _ S (Nat.le_refl M) (Nat.le_refl M) (fun _ _ => rfl) (fun m h1 h2 => by omega) (fun _ _ => rfl)
/-- the guess is like the line but for its tunnels, and has been ridden -/
def GI (S S1 : Mem) : Prop := LKf S S1 ∧ (∀ m, 0 ≤ m → m < S 10 8 → S1 31 m = S 13 m ∧ S1 32 m = S 14 m) ∧ LKp (S 10 9) S S1 ∧ TW 28 S1 ∧ CGg S1
theorem c_ways_loop {X : AMX} {S : Mem} {p c : Int} {M : Nat} {post : Int → Mem → Prop} (T : TW 10 S) (hM : S 10 8 = (M : Int)) (p0 : 0 ≤ p) (p1 : p < S 10 9) (c0 : 0 ≤ c) (c1 : c < 3) (C : CX X 5 RX6 cX6_waysToBeDue 6) (hret : ∀ (pc : Nat) (L : List (Option AV)) (z : Int) (S' : Mem), decode cX6_waysToBeDue pc = .ok (.ireturn, 1) → ((some FieldType.int) = some .int ∨ ((some FieldType.int) = some .boolean ∧ (z = 0 ∨ z = 1))) → post z S' → AW X cX6_waysToBeDue 6 pc L [.inl z] S') (hp : ∀ S', fr 28 46 S S' → post (sm (fH S p c M) (2 ^ M)) S') : ∀ (n s : Nat) (S1 : Mem), s + n = 2 ^ M → GI S S1 → AW X cX6_waysToBeDue 6 27 [some (.inr (.inr 0)), some (.inl p), some (.inl c), some (.inl (sm (fH S p c M) s)), some (.inl ((2 ^ M : Nat) : Int)), some (.inl (s : Int))] [] S1 := by
  obtain ⟨t1, t2, t3, t4, t5, t6⟩ := TW10 T
  have hp8 := pwC M (by omega)
  intro n
  induction n with
  | zero =>
    intro s S1 hs I
    obtain rfl : s = 2 ^ M := by omega
    generalize hN : 2 ^ M = N at *
    refine aw_ildw (n := 29) C dX6_waysToBeDue_27 rfl rfl ?_
    refine aw_ildw (n := 31) C dX6_waysToBeDue_29 rfl rfl ?_
    refine aw_icge (tgt := 71) (n := 34) C dX6_waysToBeDue_31 rfl rfl (by omega) (by omega) (fun h_31 => ?_) (fun h_31 => ?_)
    · refine aw_ildn (n := 72) C dX6_waysToBeDue_71 rfl rfl ?_
      refine hret 72 _ _ _ dX6_waysToBeDue_72 (Or.inl rfl) ?_
      exact hp S1 I.1.1
    · omega
  | succ n ih =>
    intro s S1 hs I
    obtain ⟨⟨f1, f2, f3, f4, f5⟩, im, ip, T1, G1⟩ := id I
    have hsr := sm_r (f := fH S p c M) (a := 1) (n := s) (fun k _ => by unfold fH; split <;> omega)
    have hdr := due_r (S 10 10) (S 10 11) (rg (S 15) (S 17) (S 16) (tuH M s) (S 13) (S 14) M p)
    have hrr := rg_r (kd := S 15) (fd := S 17) (bg := S 16) (tu := tuH M s) (tA := S 13) (tB := S 14) (pe := S 10 9) (fun x x0 x1 => (t6 x x0 x1).2.1) M p p0 p1
    generalize hN : 2 ^ M = N at *
    refine aw_ildw (n := 29) C dX6_waysToBeDue_27 rfl rfl ?_
    refine aw_ildw (n := 31) C dX6_waysToBeDue_29 rfl rfl ?_
    refine aw_icge (tgt := 71) (n := 34) C dX6_waysToBeDue_31 rfl rfl (by omega) (by omega) (fun h_31 => ?_) (fun h_31 => ?_)
    · omega
    · refine aw_aldn (n := 35) C dX6_waysToBeDue_34 rfl rfl ?_
      refine aw_getR (n := 38) C dX6_waysToBeDue_35 rfl fl_X6_25 rfl rfl ?_
      refine aw_ildw (n := 40) C dX6_waysToBeDue_38 rfl rfl ?_
      refine aw_cVv (n := 43) (vs := [_]) C dX6_waysToBeDue_40 rfl rfl rfl mm_X5_digAndRide wM_X6_223 rfl rfl (Nat.le_of_ble_eq_true rfl) (c_digAndRide28 (s := s) (M := M) T1 G1 (by rw [f2]; exact hM) (by omega)) (by decide) (fun S_40 q_40 => ?_)
      obtain ⟨g1, g2, g3, g4⟩ := q_40
      have e28 : S_40 28 = S1 28 := g1 28 (by decide) (by omega)
      have e8 : S_40 28 8 = (M : Int) := by rw [e28, f2]; exact hM
      have hR : S_40 (37 + M) p = rg (S 15) (S 17) (S 16) (tuH M s) (S 13) (S 14) M p := by
        refine (g3 M (by omega) p p0 (by rw [e28, f3]; exact p1)).trans (rg_congr (mi := (M : Int)) (pe := S 10 9) (fun x x0 x1 => ?_) (fun x x0 x1 => ?_) (fun x x0 x1 => ?_) (fun m m0 m1 => ⟨?_, ?_, ?_⟩) (fun m m0 m1 => ?_) M (Int.le_refl _) p p0 p1)
        · rw [g1 33 (by decide) (by omega)]; exact (ip x x0 x1).1
        · rw [g1 35 (by decide) (by omega)]; exact (ip x x0 x1).2.2
        · rw [g1 34 (by decide) (by omega)]; exact (ip x x0 x1).2.1
        · obtain ⟨k, rfl⟩ : ∃ k : Nat, m = (k : Int) := ⟨m.toNat, by omega⟩
          exact g2 k (by omega)
        · rw [g1 31 (by decide) (by omega)]; exact (im m m0 (by omega)).1
        · rw [g1 32 (by decide) (by omega)]; exact (im m m0 (by omega)).2
        · rw [g1 31 (by decide) (by omega), g1 32 (by decide) (by omega), (im m m0 (by omega)).1, (im m m0 (by omega)).2]
          exact (t5 m m0 (by omega)).2
      have I2 : GI S S_40 := ⟨⟨fun x hx => by rw [g1 x (by omega) (by omega), f1 x hx], by rw [e28]; exact f2, by rw [e28]; exact f3, by rw [e28]; exact f4, by rw [e28]; exact f5⟩, fun m m0 m1 => by rw [g1 31 (by decide) (by omega), g1 32 (by decide) (by omega)]; exact im m m0 m1, fun q q0 q1 => by rw [g1 33 (by decide) (by omega), g1 34 (by decide) (by omega), g1 35 (by decide) (by omega)]; exact ip q q0 q1, g4, g3⟩
      refine aw_aldn (n := 44) C dX6_waysToBeDue_43 rfl rfl ?_
      refine aw_getR (n := 47) C dX6_waysToBeDue_44 rfl fl_X6_25 rfl rfl ?_
      refine aw_ildn (n := 48) C dX6_waysToBeDue_47 rfl rfl ?_
      refine aw_aldn (n := 49) C dX6_waysToBeDue_48 rfl rfl ?_
      refine aw_getR (n := 52) C dX6_waysToBeDue_49 rfl fl_X6_25 rfl rfl ?_
      refine aw_getI (z := 8) (n := 55) C dX6_waysToBeDue_52 rfl fl_X6_154 rfl rfl rfl ?_
      rw [e8]
      refine aw_cVi (n := 58) (vs := [_, _]) C dX6_waysToBeDue_55 rfl rfl rfl mm_X5_classDue wM_X6_148 rfl rfl (Nat.le_of_ble_eq_true rfl) (c_classDue28 (m := M) (by omega) p0 (by omega) (by rw [hR]; omega) (by rw [e28, f4]; omega) (by rw [e28, f5]; omega)) (by decide) (fun z_55 S_55 q_55 => ?_)
      rw [q_55.1, q_55.2]
      clear q_55 S_55 z_55
      refine aw_ildn (n := 59) C dX6_waysToBeDue_58 rfl rfl ?_
      rw [e28, f4, f5, hR]
      refine aw_icne (tgt := 65) (n := 62) C dX6_waysToBeDue_59 rfl rfl (by omega) (by omega) (fun h_59 => ?_) (fun h_59 => ?_)
      · refine aw_iinc (n := 68) (L' := [_, _, _, _, _, _]) C dX6_waysToBeDue_65 rfl rfl (by decide) rfl rfl ?_
        refine aw_goto (tgt := 27) C dX6_waysToBeDue_68 rfl ?_
        have := ih (s + 1) S_40 (by omega) I2
        rw [sm_s] at this
        first
          | (rw [show fH S p c M s = 1 from if_pos h_59] at this; exact this)
          | (rw [show fH S p c M s = 0 from if_neg h_59, Int.add_zero] at this; exact this)
      · refine aw_iinc (n := 65) (L' := [_, _, _, _, _, _]) C dX6_waysToBeDue_62 rfl rfl (by decide) rfl rfl ?_
        refine aw_iinc (n := 68) (L' := [_, _, _, _, _, _]) C dX6_waysToBeDue_65 rfl rfl (by decide) rfl rfl ?_
        refine aw_goto (tgt := 27) C dX6_waysToBeDue_68 rfl ?_
        have := ih (s + 1) S_40 (by omega) I2
        rw [sm_s] at this
        first
          | (rw [show fH S p c M s = 1 from if_pos h_59] at this; exact this)
          | (rw [show fH S p c M s = 0 from if_neg h_59, Int.add_zero] at this; exact this)
theorem c_ways {S : Mem} {p c : Int} {M : Nat} (T : TW 10 S) (G : CG S) (hM : S 10 8 = (M : Int)) (p0 : 0 ≤ p) (p1 : p < S 10 9) (c0 : 0 ≤ c) (c1 : c < 3) : AMi 5 yX6_waysToBeDue cX6_waysToBeDue 6 (some .int) [.inr (.inr 0), .inl p, .inl c] S (fun z S' => fr 28 46 S S' ∧ z = wy (S 15) (S 17) (S 13) (S 14) (S 10 10) (S 10 11) p c M 0 (S 16)) := by
  obtain ⟨t1, t2, t3, t4, t5, t6⟩ := TW10 T
  refine ami_intro (L := [_, _, _, none, none, none]) (by decide) (Or.inl rfl) rfl (Nat.le_of_ble_eq_true rfl) (fun X C hret => ?_)
  refine aw_iconst (n := 1) C dX6_waysToBeDue_0 rfl ?_
  refine aw_istn (n := 2) (L' := [_, _, _, _, _, _]) C dX6_waysToBeDue_1 rfl (by decide) rfl rfl ?_
  refine aw_iconst (n := 3) C dX6_waysToBeDue_2 rfl ?_
  refine aw_aldn (n := 4) C dX6_waysToBeDue_3 rfl rfl ?_
  refine aw_getR (n := 7) C dX6_waysToBeDue_4 rfl fl_X6_21 rfl rfl ?_
  refine aw_getI (z := 8) (n := 10) C dX6_waysToBeDue_7 rfl fl_X6_154 rfl rfl rfl ?_
  rw [hM]
  refine aw_ishl (n := 11) C dX6_waysToBeDue_10 rfl (shl_bitI (by omega)) ?_
  refine aw_istw (n := 13) (L' := [_, _, _, _, _, _]) C dX6_waysToBeDue_11 rfl (by decide) rfl rfl ?_
  refine aw_aldn (n := 14) C dX6_waysToBeDue_13 rfl rfl ?_
  refine aw_getR (n := 17) C dX6_waysToBeDue_14 rfl fl_X6_25 rfl rfl ?_
  refine aw_aldn (n := 18) C dX6_waysToBeDue_17 rfl rfl ?_
  refine aw_getR (n := 21) C dX6_waysToBeDue_18 rfl fl_X6_21 rfl rfl ?_
  refine aw_cVv (n := 24) (vs := [_]) C dX6_waysToBeDue_21 rfl rfl rfl mm_X5_becomeLike wM_X6_192 rfl rfl (Nat.le_of_ble_eq_true rfl) (c_becomeLike t1 t2 (fun m m0 m1 => (t5 m m0 m1).1)) (by decide) (fun S_21 q_21 => ?_)
  have T28 := LK_TW T q_21
  obtain ⟨⟨f1, f2, f3, f4, f5⟩, km, kp, kr⟩ := id q_21
  refine aw_iconst (n := 25) C dX6_waysToBeDue_24 rfl ?_
  refine aw_istw (n := 27) (L' := [_, _, _, _, _, _]) C dX6_waysToBeDue_25 rfl (by decide) rfl rfl ?_
  rw [show (2 : Int) ^ M = ((2 ^ M : Nat) : Int) by rw [Int.natCast_pow]; rfl]
  refine c_ways_loop T hM p0 p1 c0 c1 C hret (fun S' hf => ⟨hf, fH_wy M⟩) (2 ^ M) 0 S_21 (by omega) ⟨⟨f1, f2, f3, f4, f5⟩, fun m m0 m1 => (km m m0 m1).2, kp, T28, fun m hm q q0 q1 => ?_⟩
  rw [f2] at hm
  rw [f3] at q1
  rw [kr m (by omega) q q0 q1, G m hm q q0 q1]
  exact rg_congr (mi := S 10 8) (pe := S 10 9) (fun x x0 x1 => (kp x x0 x1).1.symm) (fun x x0 x1 => (kp x x0 x1).2.2.symm) (fun x x0 x1 => (kp x x0 x1).2.1.symm) (fun x x0 x1 => ⟨(km x x0 x1).1.symm, (km x x0 x1).2.1.symm, (km x x0 x1).2.2.symm⟩) (fun x x0 x1 => (t5 x x0 x1).2) m hm q q0 q1
/-- a share in least terms, by halves -/
def rdc : Nat → Int → Int → Int × Int
  | 0, u, l => (u, l)
  | n + 1, u, l => if 1 < l ∧ u % 2 = 0 then rdc n (u / 2) (l / 2) else (u, l)
section ODDS
variable {X : AMX} {S : Mem} {p c w : Int}
theorem x_odds_loop {post : Int → Mem → Prop} {S1 : Mem} (hw : w = 0 ∨ w = 1) (C : CX X 6 RX6 cX6_odds 6) (hret : ∀ (pc : Nat) (L : List (Option AV)) (z : Int) (S' : Mem), decode cX6_odds pc = .ok (.lreturn, 1) → post z S' → AW X cX6_odds 6 pc L [.inr (.inl z)] S') : ∀ (j : Nat) (u : Int), j ≤ 8 → 0 ≤ u → u ≤ 256 → post (if w = 0 then (rdc j u (2 ^ j)).1 else (rdc j u (2 ^ j)).2) S1 → AW X cX6_odds 6 47 [some (.inr (.inr 0)), some (.inl p), some (.inl c), some (.inl w), some (.inl u), some (.inl (2 ^ j))] [] S1 := by
  have k75 : ∀ u l : Int, rng u → rng l → post (if w = 0 then u else l) S1 → AW X cX6_odds 6 75 [some (.inr (.inr 0)), some (.inl p), some (.inl c), some (.inl w), some (.inl u), some (.inl l)] [] S1 := by
    intro u l hu hl hp
    refine aw_ildn (n := 76) C dX6_odds_75 rfl rfl ?_
    refine aw_ifne (tgt := 85) (n := 79) C dX6_odds_76 rfl rfl (by omega) (fun h_76 => ?_) (fun h_76 => ?_)
    · refine aw_ildw (n := 87) C dX6_odds_85 rfl rfl ?_
      refine aw_i2l (n := 88) C dX6_odds_87 rfl (by omega) ?_
      refine hret 88 _ _ _ dX6_odds_88 ?_
      first | (rw [if_pos h_76] at hp; exact hp) | (rw [if_neg h_76] at hp; exact hp)
    · refine aw_ildw (n := 81) C dX6_odds_79 rfl rfl ?_
      refine aw_i2l (n := 82) C dX6_odds_81 rfl (by omega) ?_
      refine aw_goto (tgt := 88) C dX6_odds_82 rfl ?_
      refine hret 88 _ _ _ dX6_odds_88 ?_
      first | (rw [if_pos h_76] at hp; exact hp) | (rw [if_neg h_76] at hp; exact hp)
  intro j
  induction j with
  | zero =>
    intro u hj u0 u1 hp
    have e1 : (2 : Int) ^ 0 = 1 := rfl
    rw [e1] at hp ⊢
    refine aw_ildw (n := 49) C dX6_odds_47 rfl rfl ?_
    refine aw_iconst (n := 50) C dX6_odds_49 rfl ?_
    refine aw_icle (tgt := 75) (n := 53) C dX6_odds_50 rfl rfl (by omega) (by omega) (fun h_50 => ?_) (fun h_50 => ?_)
    · exact k75 u 1 (by omega) (by omega) hp
    · omega
  | succ j ih =>
    intro u hj u0 u1 hp
    have hp8 := pw8 (j + 1) hj
    have hpos : (0 : Int) < 2 ^ j := Int.pow_pos (by decide)
    have e1 : (2 : Int) ^ (j + 1) = 2 ^ j + 2 ^ j := by rw [Int.pow_succ]; omega
    have e2 : (2 : Int) ^ (j + 1) / 2 = 2 ^ j := by omega
    unfold rdc at hp
    refine aw_ildw (n := 49) C dX6_odds_47 rfl rfl ?_
    refine aw_iconst (n := 50) C dX6_odds_49 rfl ?_
    refine aw_icle (tgt := 75) (n := 53) C dX6_odds_50 rfl rfl (by omega) (by omega) (fun h_50 => ?_) (fun h_50 => ?_)
    · first | (exfalso; omega) | (rw [if_neg (show ¬ (1 < (2 : Int) ^ (j + 1) ∧ u % 2 = 0) by omega)] at hp; exact k75 u _ (by omega) (by omega) hp)
    · refine aw_ildw (n := 55) C dX6_odds_53 rfl rfl ?_
      refine aw_iconst (n := 56) C dX6_odds_55 rfl ?_
      refine aw_irem (n := 57) C dX6_odds_56 rfl (by omega) (by omega) ?_
      refine aw_ifne (tgt := 75) (n := 60) C dX6_odds_57 rfl rfl (by omega) (fun h_57 => ?_) (fun h_57 => ?_)
      · first | (exfalso; omega) | (rw [if_neg (show ¬ (1 < (2 : Int) ^ (j + 1) ∧ u % 2 = 0) by omega)] at hp; exact k75 u _ (by omega) (by omega) hp)
      · refine aw_ildw (n := 62) C dX6_odds_60 rfl rfl ?_
        refine aw_iconst (n := 63) C dX6_odds_62 rfl ?_
        refine aw_idiv (n := 64) C dX6_odds_63 rfl (by omega) (by omega) ?_
        refine aw_istw (n := 66) (L' := [_, _, _, _, _, _]) C dX6_odds_64 rfl (by decide) rfl rfl ?_
        refine aw_ildw (n := 68) C dX6_odds_66 rfl rfl ?_
        refine aw_iconst (n := 69) C dX6_odds_68 rfl ?_
        refine aw_idiv (n := 70) C dX6_odds_69 rfl (by omega) (by omega) ?_
        refine aw_istw (n := 72) (L' := [_, _, _, _, _, _]) C dX6_odds_70 rfl (by decide) rfl rfl ?_
        refine aw_goto (tgt := 47) C dX6_odds_72 rfl ?_
        rw [if_pos (show 1 < (2 : Int) ^ (j + 1) ∧ u % 2 = 0 by omega), e2] at hp
        rw [e2]
        exact ih (u / 2) (by omega) (by omega) (by omega) hp
theorem x_odds (hp : rng p) (hc : rng c) (hw : rng w) (W : XW S) (G : CG S) : AMl 6 yX6_odds cX6_odds 6 (some .long) [.inr (.inr 0), .inl p, .inl c, .inl w] S (fun z S' => fr 28 46 S S' ∧ z = (if p < 0 ∨ S 10 9 ≤ p ∨ c < 0 ∨ 3 ≤ c ∨ w < 0 ∨ 1 < w then -9223372036854775808 else if w = 0 then (rdc (S 10 8).toNat (wy (S 15) (S 17) (S 13) (S 14) (S 10 10) (S 10 11) p c (S 10 8).toNat 0 (S 16)) (2 ^ (S 10 8).toNat)).1 else (rdc (S 10 8).toNat (wy (S 15) (S 17) (S 13) (S 14) (S 10 10) (S 10 11) p c (S 10 8).toNat 0 (S 16)) (2 ^ (S 10 8).toNat)).2)) := by
  obtain ⟨T, w2, w3, w4, w5, w6⟩ := W
  obtain ⟨t1, t2, t3, t4, t5, t6⟩ := TW10 T
  obtain ⟨M, hM⟩ : ∃ M : Nat, S 10 8 = M := ⟨(S 10 8).toNat, by omega⟩
  refine aml_intro (L := [_, _, _, _, none, none]) (by decide) rfl (Nat.le_of_ble_eq_true rfl) (fun X C hret => ?_)
  refine aw_aldn (n := 1) C dX6_odds_0 rfl rfl ?_
  refine aw_ildn (n := 2) C dX6_odds_1 rfl rfl ?_
  refine aw_cVi (n := 5) (vs := [_]) C dX6_odds_2 rfl rfl rfl mm_X6_noPassenger wM_X6_96 rfl rfl (Nat.le_of_ble_eq_true rfl) (c_noPassenger hp (by omega)) (by decide) (fun z_2 S_2 q_2 => ?_)
  rw [q_2.1, q_2.2]
  clear q_2 S_2 z_2
  refine aw_ifne (tgt := 24) (n := 8) C dX6_odds_5 rfl rfl (by omega) (fun h_5 => ?_) (fun h_5 => ?_)
  · refine aw_ldc2 (z := -9223372036854775808) (n := 27) C dX6_odds_24 rfl wL_X6_218 (by decide) ?_
    refine hret 27 _ _ _ dX6_odds_27 ?_
    exact ⟨fr_rf _ _ _, by rw [if_pos (by omega)]⟩
  · refine aw_ildn (n := 9) C dX6_odds_8 rfl rfl ?_
    refine aw_cSi (n := 12) (vs := [_]) C dX6_odds_9 rfl rfl rfl mm_X6_noClass wM_X6_112 (Nat.le_of_ble_eq_true rfl) (c_noClass hc) (by decide) (fun z_9 S_9 q_9 => ?_)
    rw [q_9.1, q_9.2]
    clear q_9 S_9 z_9
    refine aw_ifne (tgt := 24) (n := 15) C dX6_odds_12 rfl rfl (by omega) (fun h_12 => ?_) (fun h_12 => ?_)
    · refine aw_ldc2 (z := -9223372036854775808) (n := 27) C dX6_odds_24 rfl wL_X6_218 (by decide) ?_
      refine hret 27 _ _ _ dX6_odds_27 ?_
      exact ⟨fr_rf _ _ _, by rw [if_pos (by omega)]⟩
    · refine aw_ildn (n := 16) C dX6_odds_15 rfl rfl ?_
      refine aw_iflt (tgt := 24) (n := 19) C dX6_odds_16 rfl rfl (by omega) (fun h_16 => ?_) (fun h_16 => ?_)
      · refine aw_ldc2 (z := -9223372036854775808) (n := 27) C dX6_odds_24 rfl wL_X6_218 (by decide) ?_
        refine hret 27 _ _ _ dX6_odds_27 ?_
        exact ⟨fr_rf _ _ _, by rw [if_pos (by omega)]⟩
      · refine aw_ildn (n := 20) C dX6_odds_19 rfl rfl ?_
        refine aw_iconst (n := 21) C dX6_odds_20 rfl ?_
        refine aw_icle (tgt := 28) (n := 24) C dX6_odds_21 rfl rfl (by omega) (by omega) (fun h_21 => ?_) (fun h_21 => ?_)
        · refine aw_aldn (n := 29) C dX6_odds_28 rfl rfl ?_
          refine aw_ildn (n := 30) C dX6_odds_29 rfl rfl ?_
          refine aw_ildn (n := 31) C dX6_odds_30 rfl rfl ?_
          refine aw_cVi (n := 34) (vs := [_, _]) C dX6_odds_31 rfl rfl rfl mm_X6_waysToBeDue wM_X6_220 rfl rfl (Nat.le_of_ble_eq_true rfl) (c_ways (M := M) T G hM (by omega) (by omega) (by omega) (by omega)) (by decide) (fun z_31 S_31 q_31 => ?_)
          obtain ⟨hfr, e1⟩ := q_31
          have hwr := wy_r (S 15) (S 17) (S 13) (S 14) (S 10 10) (S 10 11) p c M 0 (S 16)
          have hp8 := pw8 M (by omega)
          rw [← e1] at hwr
          have e10 : S_31 10 = S 10 := hfr 10 (by omega)
          refine aw_istw (n := 36) (L' := [_, _, _, _, _, _]) C dX6_odds_34 rfl (by decide) rfl rfl ?_
          refine aw_iconst (n := 37) C dX6_odds_36 rfl ?_
          refine aw_aldn (n := 38) C dX6_odds_37 rfl rfl ?_
          refine aw_getR (n := 41) C dX6_odds_38 rfl fl_X6_21 rfl rfl ?_
          refine aw_getI (z := 8) (n := 44) C dX6_odds_41 rfl fl_X6_154 rfl rfl rfl ?_
          rw [e10, hM]
          refine aw_ishl (n := 45) C dX6_odds_44 rfl (shl_bitI (by omega)) ?_
          refine aw_istw (n := 47) (L' := [_, _, _, _, _, _]) C dX6_odds_45 rfl (by decide) rfl rfl ?_
          refine x_odds_loop (by omega) C hret M z_31 (by omega) (by omega) (by omega) ⟨hfr, ?_⟩
          rw [if_neg (show ¬ (p < 0 ∨ S 10 9 ≤ p ∨ c < 0 ∨ 3 ≤ c ∨ w < 0 ∨ 1 < w) by omega), hM, Int.toNat_natCast, e1]
        · refine aw_ldc2 (z := -9223372036854775808) (n := 27) C dX6_odds_24 rfl wL_X6_218 (by decide) ?_
          refine hret 27 _ _ _ dX6_odds_27 ?_
          exact ⟨fr_rf _ _ _, by rw [if_pos (by omega)]⟩
end ODDS
