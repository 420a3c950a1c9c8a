/-! RegretLine: began, kinds, fadings -/
def soR (l1 l2 : Int) (R : Nat → Fn) (wh ml cl : Fn) (n : Int) : Prop := ∀ k, 0 ≤ k → k < n → due l1 l2 (R (ml k).toNat (wh k)) = cl k
noncomputable def bB (p : Prop) : Bool := @decide p (Classical.propDecidable p)
theorem bB_t {p : Prop} : bB p = true ↔ p := by unfold bB; exact @decide_eq_true_iff p (Classical.propDecidable p)
/-- readings within their bounds -/
def XR (S : Mem) : Prop := (0 ≤ S 46 3 ∧ S 46 3 ≤ 8) ∧ ∀ k, 0 ≤ k → k < S 46 3 → (0 ≤ S 47 k ∧ S 47 k < S 10 9) ∧ (0 ≤ S 48 k ∧ S 48 k ≤ S 10 8) ∧ (0 ≤ S 49 k ∧ S 49 k ≤ 2)
theorem c_guessIsSo {S : Mem} (T : TW 28 S) (hn : 0 ≤ S 46 3 ∧ S 46 3 ≤ 8) (hq : ∀ k, 0 ≤ k → k < S 46 3 → (0 ≤ S 47 k ∧ S 47 k < S 28 9) ∧ (0 ≤ S 48 k ∧ S 48 k ≤ S 28 8) ∧ (0 ≤ S 49 k ∧ S 49 k ≤ 2)) : AMi 5 yX6_guessIsSo cX6_guessIsSo 1 (some .boolean) [.inr (.inr 0)] S (fun z S' => fr 37 46 S S' ∧ (z = 0 ∨ z = 1) ∧ (z = 1 ↔ soR (S 28 10) (S 28 11) (rg (S 33) (S 35) (S 34) (S 30) (S 31) (S 32)) (S 47) (S 48) (S 49) (S 46 3))) := by
  obtain ⟨t1, t2, t3, t4, t5, t6⟩ := TW28 T
  refine ami_intro (L := [_]) (by decide) (Or.inr rfl) rfl (Nat.le_of_ble_eq_true rfl) (fun X C hret => ?_)
  refine aw_aldn (n := 1) C dX6_guessIsSo_0 rfl rfl ?_
  refine aw_getR (n := 4) C dX6_guessIsSo_1 rfl fl_X6_25 rfl rfl ?_
  refine aw_cVv (n := 7) (vs := []) C dX6_guessIsSo_4 rfl rfl rfl mm_X5_rideAll wM_X6_211 rfl rfl (Nat.le_of_ble_eq_true rfl) (c_rideAll28 T) (by decide) (fun S_4 q_4 => ?_)
  obtain ⟨g1, g2⟩ := q_4
  have e28 : S_4 28 = S 28 := g1 28 (by omega)
  have e46 : S_4 46 = S 46 := g1 46 (by omega)
  have e47 : S_4 47 = S 47 := g1 47 (by omega)
  have e48 : S_4 48 = S 48 := g1 48 (by omega)
  have e49 : S_4 49 = S 49 := g1 49 (by omega)
  refine aw_aldn (n := 8) C dX6_guessIsSo_7 rfl rfl ?_
  refine aw_getR (n := 11) C dX6_guessIsSo_8 rfl fl_X6_31 rfl rfl ?_
  refine aw_aldn (n := 12) C dX6_guessIsSo_11 rfl rfl ?_
  refine aw_getR (n := 15) C dX6_guessIsSo_12 rfl fl_X6_25 rfl rfl ?_
  refine aw_cVi (n := 18) (vs := [_]) C dX6_guessIsSo_15 rfl rfl rfl mm_X1_areSo wM_X6_214 rfl rfl (Nat.le_of_ble_eq_true rfl) (c_areSo (TW28_fr T g1) (by rw [e46]; exact hn) (by rw [e46, e47, e48, e49, e28]; exact hq) (fun m hm p p0 p1 => by rw [e28] at hm p1; rw [g2 m hm p p0 p1]; exact rg_r (fun x x0 x1 => (t6 x x0 x1).2.1) m p p0 p1)) (by decide) (fun z_15 S_15 q_15 => ?_)
  obtain ⟨⟨r1, r2⟩, r3⟩ := q_15
  rw [r3]
  refine hret 18 _ _ _ dX6_guessIsSo_18 (Or.inr ⟨rfl, by omega⟩) ?_
  refine ⟨g1, r1, r2.trans ?_⟩
  unfold soG soR
  rw [e46, e47, e48, e49, e28]
  constructor
  · intro h k k0 k1
    have := h k k0 k1
    have hk := hq k k0 k1
    rw [g2 _ (by omega) _ (by omega) (by omega)] at this
    exact this
  · intro h k k0 k1
    have := h k k0 k1
    have hk := hq k k0 k1
    rw [g2 _ (by omega) _ (by omega) (by omega)]
    exact this
/-- the guess is like the line, but for one number of one passenger -/
def GB (S S1 : Mem) (p : Int) (ex : Nat) : Prop := LKf S S1 ∧ LKm (S 10 8) S S1 ∧ ∀ x, 0 ≤ x → x < S 10 9 → (x ≠ p ∨ ex ≠ 33 → S1 33 x = S 15 x) ∧ (x ≠ p ∨ ex ≠ 34 → S1 34 x = S 16 x) ∧ (x ≠ p ∨ ex ≠ 35 → S1 35 x = S 17 x)
def Rv (ex : Nat) (S : Mem) (p v : Int) : Nat → Fn := rg (if ex = 33 then fu (S 15) p v else S 15) (if ex = 35 then fu (S 17) p v else S 17) (if ex = 34 then fu (S 16) p v else S 16) (S 12) (S 13) (S 14)
def vok (ex : Nat) (v : Int) : Prop := (ex = 33 → 0 ≤ v ∧ v ≤ 2) ∧ (ex = 34 → 0 ≤ v ∧ v ≤ 59) ∧ (ex = 35 → 0 ≤ v ∧ v ≤ 9)
theorem GB_LK {S S1 : Mem} {p : Int} {ex : Nat} (h : LK S S1) : GB S S1 p ex := ⟨h.1, h.2.1, fun x x0 x1 => ⟨fun _ => (h.2.2.1 x x0 x1).1, fun _ => (h.2.2.1 x x0 x1).2.1, fun _ => (h.2.2.1 x x0 x1).2.2⟩⟩
theorem GB_fr {S S1 S2 : Mem} {p : Int} {ex : Nat} (h : GB S S1 p ex) (hf : fr 37 46 S1 S2) : GB S S2 p ex := by
  obtain ⟨⟨f1, f2, f3, f4, f5⟩, km, kp⟩ := h
  refine ⟨⟨fr_tr f1 (fr_w hf (by omega) (by omega)), ?_⟩, ?_, ?_⟩
  · rw [hf 28 (by omega)]; exact ⟨f2, f3, f4, f5⟩
  · unfold LKm; rw [hf 30 (by omega), hf 31 (by omega), hf 32 (by omega)]; exact km
  · rw [hf 33 (by omega), hf 34 (by omega), hf 35 (by omega)]; exact kp
theorem GB_st {S S1 : Mem} {p v : Int} {ex : Nat} (hex : ex = 33 ∨ ex = 34 ∨ ex = 35) (h : GB S S1 p ex) : GB S (st2 S1 ex p v) p ex := by
  obtain ⟨⟨f1, f2, f3, f4, f5⟩, km, kp⟩ := h
  refine ⟨⟨fr_tr f1 (fr_w (fr_st _ _ _ _) (by omega) (by omega)), ?_⟩, ?_, fun x x0 x1 => ?_⟩
  · rw [st2_o 28 (by omega)]; exact ⟨f2, f3, f4, f5⟩
  · unfold LKm; rw [st2_o 30 (by omega), st2_o 31 (by omega), st2_o 32 (by omega)]; exact km
  · obtain ⟨k1, k2, k3⟩ := kp x x0 x1
    refine ⟨fun h => ?_, fun h => ?_, fun h => ?_⟩
    · rw [← k1 h]; unfold st2; rw [if_neg (by omega)]
    · rw [← k2 h]; unfold st2; rw [if_neg (by omega)]
    · rw [← k3 h]; unfold st2; rw [if_neg (by omega)]
theorem GB_val {S S1 : Mem} {p v : Int} {ex : Nat} (h : GB S S1 p ex) (x : Int) (x0 : 0 ≤ x) (x1 : x < S 10 9) : st2 S1 ex p v 33 x = (if ex = 33 then fu (S 15) p v else S 15) x ∧ st2 S1 ex p v 34 x = (if ex = 34 then fu (S 16) p v else S 16) x ∧ st2 S1 ex p v 35 x = (if ex = 35 then fu (S 17) p v else S 17) x := by
  obtain ⟨-, -, kp⟩ := h
  obtain ⟨k1, k2, k3⟩ := kp x x0 x1
  unfold st2 fu
  refine ⟨?_, ?_, ?_⟩
  · by_cases e : ex = 33
    · rw [if_pos e]
      by_cases e2 : x = p
      · rw [if_pos ⟨e.symm, e2⟩, if_pos e2]
      · rw [if_neg (fun q => e2 q.2), if_neg e2]; exact k1 (Or.inl e2)
    · rw [if_neg (fun q => e q.1.symm), if_neg e]; exact k1 (Or.inr e)
  · by_cases e : ex = 34
    · rw [if_pos e]
      by_cases e2 : x = p
      · rw [if_pos ⟨e.symm, e2⟩, if_pos e2]
      · rw [if_neg (fun q => e2 q.2), if_neg e2]; exact k2 (Or.inl e2)
    · rw [if_neg (fun q => e q.1.symm), if_neg e]; exact k2 (Or.inr e)
  · by_cases e : ex = 35
    · rw [if_pos e]
      by_cases e2 : x = p
      · rw [if_pos ⟨e.symm, e2⟩, if_pos e2]
      · rw [if_neg (fun q => e2 q.2), if_neg e2]; exact k3 (Or.inl e2)
    · rw [if_neg (fun q => e q.1.symm), if_neg e]; exact k3 (Or.inr e)
theorem fu_r {f : Fn} {p v lo hi x : Int} (hf : lo ≤ f x ∧ f x ≤ hi) (hv : lo ≤ v ∧ v ≤ hi) : lo ≤ fu f p v x ∧ fu f p v x ≤ hi := by unfold fu; split <;> assumption
theorem c_try {S S1 : Mem} {p v : Int} {ex : Nat} (hex : ex = 33 ∨ ex = 34 ∨ ex = 35) (T : TW 10 S) (R : XR S) (h : GB S S1 p ex) (hv : vok ex v) : AMi 5 yX6_guessIsSo cX6_guessIsSo 1 (some .boolean) [.inr (.inr 0)] (st2 S1 ex p v) (fun z S' => GB S S' p ex ∧ (z = 0 ∨ z = 1) ∧ (z = 1 ↔ soR (S 10 10) (S 10 11) (Rv ex S p v) (S 47) (S 48) (S 49) (S 46 3))) := by
  obtain ⟨t1, t2, t3, t4, t5, t6⟩ := TW10 T
  obtain ⟨⟨f1, f2, f3, f4, f5⟩, km, kp⟩ := id h
  obtain ⟨v1, v2, v3⟩ := hv
  have hs := GB_st (v := v) hex h
  have hval := GB_val (v := v) h
  have o28 : st2 S1 ex p v 28 = S1 28 := st2_o 28 (by omega)
  have o46 : st2 S1 ex p v 46 = S 46 := by rw [st2_o 46 (by omega), f1 46 (by omega)]
  have o47 : st2 S1 ex p v 47 = S 47 := by rw [st2_o 47 (by omega), f1 47 (by omega)]
  have o48 : st2 S1 ex p v 48 = S 48 := by rw [st2_o 48 (by omega), f1 48 (by omega)]
  have o49 : st2 S1 ex p v 49 = S 49 := by rw [st2_o 49 (by omega), f1 49 (by omega)]
  have T2 : TW 28 (st2 S1 ex p v) := by
    unfold TW
    rw [o28, f2, f3, f4, f5, st2_o (28 + 2) (by omega), st2_o (28 + 3) (by omega), st2_o (28 + 4) (by omega)]
    refine ⟨t1, t2, t3, t4, fun x x0 x1 => ?_, fun x x0 x1 => ?_⟩
    · obtain ⟨e1, e2, e3⟩ := km x x0 x1
      show (S1 30 x = 0 ∨ S1 30 x = 1) ∧ tok (S 10 9) (S1 31 x) (S1 32 x)
      rw [e1, e2, e3]; exact t5 x x0 x1
    · obtain ⟨e1, e2, e3⟩ := hval x x0 x1
      obtain ⟨u1, u2, u3⟩ := t6 x x0 x1
      show (0 ≤ st2 S1 ex p v 33 x ∧ st2 S1 ex p v 33 x ≤ 2) ∧ (0 ≤ st2 S1 ex p v 34 x ∧ st2 S1 ex p v 34 x ≤ 59) ∧ (0 ≤ st2 S1 ex p v 35 x ∧ st2 S1 ex p v 35 x ≤ 9)
      rw [e1, e2, e3]
      refine ⟨?_, ?_, ?_⟩
      · split
        · exact fu_r u1 (v1 (by assumption))
        · exact u1
      · split
        · exact fu_r u2 (v2 (by assumption))
        · exact u2
      · split
        · exact fu_r u3 (v3 (by assumption))
        · exact u3
  refine ami_mono (c_guessIsSo T2 (by rw [o46]; exact R.1) (by rw [o46, o47, o48, o49, o28, f2, f3]; exact R.2)) (fun z S' hq => ?_)
  obtain ⟨q1, q2, q3⟩ := hq
  refine ⟨GB_fr hs q1, q2, q3.trans ?_⟩
  rw [o28, f4, f5, o46, o47, o48, o49, st2_o 30 (by omega), st2_o 31 (by omega), st2_o 32 (by omega)]
  have key : ∀ m : Nat, (m : Int) ≤ S 10 8 → ∀ x, 0 ≤ x → x < S 10 9 → rg (st2 S1 ex p v 33) (st2 S1 ex p v 35) (st2 S1 ex p v 34) (S1 30) (S1 31) (S1 32) m x = Rv ex S p v m x := by
    unfold Rv
    exact rg_congr (mi := S 10 8) (pe := S 10 9) (fun x x0 x1 => (hval x x0 x1).1) (fun x x0 x1 => (hval x x0 x1).2.2) (fun x x0 x1 => (hval x x0 x1).2.1) (fun x x0 x1 => km x x0 x1) (fun x x0 x1 => by rw [(km x x0 x1).2.1, (km x x0 x1).2.2]; exact (t5 x x0 x1).2)
  unfold soR
  constructor
  · intro hh k k0 k1
    have r := R.2 k k0 k1
    rw [← key _ (by omega) _ (by omega) (by omega)]
    exact hh k k0 k1
  · intro hh k k0 k1
    have r := R.2 k k0 k1
    rw [key _ (by omega) _ (by omega) (by omega)]
    exact hh k k0 k1
/-- how many, the least, and as a set, of those below n -/
def cnB (b : Nat → Bool) (n : Nat) : Int := sm (fun v => if b v = true then 1 else 0) n
def lsB (b : Nat → Bool) : Nat → Int
  | 0 => -9
  | n + 1 => if b n = true then (if cnB b n = 0 then (n : Int) else lsB b n) else lsB b n
def seB (b : Nat → Bool) (n : Nat) : Int := sm (fun v => if b v = true then 2 ^ v else 0) n
theorem cnB_s (b : Nat → Bool) (n : Nat) : cnB b (n + 1) = cnB b n + (if b n = true then 1 else 0) := rfl
theorem seB_s (b : Nat → Bool) (n : Nat) : seB b (n + 1) = seB b n + (if b n = true then 2 ^ n else 0) := rfl
theorem cnB_r (b : Nat → Bool) : ∀ n : Nat, 0 ≤ cnB b n ∧ cnB b n ≤ n
  | 0 => ⟨Int.le_refl _, Int.le_refl _⟩
  | n + 1 => by have := cnB_r b n; rw [cnB_s]; split <;> omega
theorem lsB_r (b : Nat → Bool) : ∀ n : Nat, -9 ≤ lsB b n ∧ lsB b n ≤ n
  | 0 => ⟨Int.le_refl _, by show (-9 : Int) ≤ 0; decide⟩
  | n + 1 => by have := lsB_r b n; unfold lsB; split <;> (try split) <;> omega
theorem seB_r (b : Nat → Bool) : ∀ n : Nat, 0 ≤ seB b n ∧ seB b n < 2 ^ n
  | 0 => ⟨Int.le_refl _, by show (0 : Int) < 1; decide⟩
  | n + 1 => by
    have := seB_r b n
    have e : (2 : Int) ^ (n + 1) = 2 ^ n + 2 ^ n := by rw [Int.pow_succ]; omega
    rw [seB_s, e]
    split <;> omega
theorem or_bit : ∀ v : Nat, v < 10 → ∀ s : Nat, s < 2 ^ v → Int32.ofInt (s : Int) ||| Int32.ofInt ((2 ^ v : Nat) : Int) = Int32.ofInt ((s : Int) + ((2 ^ v : Nat) : Int)) := by decide +kernel
theorem or_bitI {v : Nat} {s : Int} (hv : v < 10) (h0 : 0 ≤ s) (h1 : s < 2 ^ v) : Int32.ofInt s ||| Int32.ofInt (2 ^ v) = Int32.ofInt (s + 2 ^ v) := by
  obtain ⟨n, rfl⟩ : ∃ n : Nat, s = n := ⟨s.toNat, by omega⟩
  have hn : n < 2 ^ v := by
    have : ((n : Nat) : Int) < ((2 ^ v : Nat) : Int) := by rw [Int.natCast_pow]; exact h1
    omega
  have := or_bit v hv n hn
  rw [Int.natCast_pow] at this
  exact this
theorem shl_bit : ∀ v : Nat, v < 31 → Int32.ofInt 1 <<< (Int32.ofInt (v : Int) &&& 31) = Int32.ofInt ((2 ^ v : Nat) : Int) := by decide +kernel
theorem shl_bitI {v : Nat} (hv : v < 31) : Int32.ofInt 1 <<< (Int32.ofInt (v : Int) &&& 31) = Int32.ofInt (2 ^ v) := by
  have := shl_bit v hv
  rw [Int.natCast_pow] at this
  exact this
/-- whether the readings are so, if one number of p were v -/
noncomputable def bV (ex : Nat) (S : Mem) (p : Int) (v : Nat) : Bool := bB (soR (S 10 10) (S 10 11) (Rv ex S p v) (S 47) (S 48) (S 49) (S 46 3))
theorem bV_z {ex : Nat} {S : Mem} {p z : Int} {v : Nat} (h1 : z = 0 ∨ z = 1) (h2 : z = 1 ↔ soR (S 10 10) (S 10 11) (Rv ex S p v) (S 47) (S 48) (S 49) (S 46 3)) : (z = 0 → bV ex S p v = false) ∧ (¬ z = 0 → bV ex S p v = true) := by
  refine ⟨fun h => ?_, fun h => bB_t.mpr (h2.mp (by omega))⟩
  cases e : bV ex S p v with
  | false => rfl
  | true => have := h2.mpr (bB_t.mp e); omega
section BGN
variable {X : AMX} {S : Mem} {p w : Int}
theorem x_began_loop {post : Int → Mem → Prop} (hp0 : 0 ≤ p) (hp1 : p < S 10 9) (T : TW 10 S) (R : XR S) (C : CX X 6 RX6 cX6_began 6) (hw : w = 0 ∨ w = 1) (hret : ∀ (pc : Nat) (L : List (Option AV)) (z : Int) (S' : Mem), decode cX6_began pc = .ok (.ireturn, 1) → ((some FieldType.int) = some .int ∨ ((some FieldType.int) = some .boolean ∧ (z = 0 ∨ z = 1))) → post z S' → AW X cX6_began 6 pc L [.inl z] S') (hp : ∀ S', fr 28 46 S S' → post (if w = 0 then cnB (bV 34 S p) 60 else lsB (bV 34 S p) 60) S') : ∀ (r v : Nat) (S1 : Mem), v + r = 60 → GB S S1 p 34 → AW X cX6_began 6 42 [some (.inr (.inr 0)), some (.inl p), some (.inl w), some (.inl (cnB (bV 34 S p) v)), some (.inl (lsB (bV 34 S p) v)), some (.inl v)] [] S1 := by
  obtain ⟨t1, t2, t3, t4, t5, t6⟩ := TW10 T
  intro r
  induction r with
  | zero =>
    intro v S1 hv hg
    obtain rfl : v = 60 := by omega
    refine aw_ildw (n := 44) C dX6_began_42 rfl rfl ?_
    refine aw_bipush (n := 46) C dX6_began_44 rfl rfl ?_
    refine aw_icge (tgt := 89) (n := 49) C dX6_began_46 rfl rfl (by omega) (by omega) (fun h_46 => ?_) (fun h_46 => ?_)
    · refine aw_ildn (n := 90) C dX6_began_89 rfl rfl ?_
      refine aw_ifne (tgt := 97) (n := 93) C dX6_began_90 rfl rfl (by omega) (fun h_90 => ?_) (fun h_90 => ?_)
      · refine aw_ildw (n := 99) C dX6_began_97 rfl rfl ?_
        refine hret 99 _ _ _ dX6_began_99 (Or.inl rfl) ?_
        first | (have := hp S1 hg.1.1; rw [if_pos h_90] at this; exact this) | (have := hp S1 hg.1.1; rw [if_neg h_90] at this; exact this)
      · refine aw_ildn (n := 94) C dX6_began_93 rfl rfl ?_
        refine aw_goto (tgt := 99) C dX6_began_94 rfl ?_
        refine hret 99 _ _ _ dX6_began_99 (Or.inl rfl) ?_
        first | (have := hp S1 hg.1.1; rw [if_pos h_90] at this; exact this) | (have := hp S1 hg.1.1; rw [if_neg h_90] at this; exact this)
    · omega
  | succ r ih =>
    intro v S1 hv hg
    have hcr := cnB_r (bV 34 S p) v
    have hlr := lsB_r (bV 34 S p) v
    refine aw_ildw (n := 44) C dX6_began_42 rfl rfl ?_
    refine aw_bipush (n := 46) C dX6_began_44 rfl rfl ?_
    refine aw_icge (tgt := 89) (n := 49) C dX6_began_46 rfl rfl (by omega) (by omega) (fun h_46 => ?_) (fun h_46 => ?_)
    · omega
    · refine aw_aldn (n := 50) C dX6_began_49 rfl rfl ?_
      refine aw_getR (n := 53) C dX6_began_50 rfl fl_X6_25 rfl rfl ?_
      refine aw_getR (n := 56) C dX6_began_53 rfl fl_X6_102 rfl rfl ?_
      refine aw_ildn (n := 57) C dX6_began_56 rfl rfl ?_
      refine aw_ildw (n := 59) C dX6_began_57 rfl rfl ?_
      refine aw_iast (n := 60) C dX6_began_59 rfl rfl (by omega) (by omega) ?_
      refine aw_aldn (n := 61) C dX6_began_60 rfl rfl ?_
      refine aw_cVi (n := 64) (vs := []) C dX6_began_61 rfl rfl rfl mm_X6_guessIsSo wM_X6_208 rfl rfl (Nat.le_of_ble_eq_true rfl) (c_try (v := (v : Int)) (Or.inr (Or.inl rfl)) T R hg ⟨fun h => by omega, fun _ => by omega, fun h => by omega⟩) (by decide) (fun z_61 S_61 q_61 => ?_)
      obtain ⟨g1, g2, g3⟩ := q_61
      have hbz := bV_z g2 g3
      have e1 := cnB_s (bV 34 S p) v
      have e2 : lsB (bV 34 S p) (v + 1) = if bV 34 S p v = true then (if cnB (bV 34 S p) v = 0 then (v : Int) else lsB (bV 34 S p) v) else lsB (bV 34 S p) v := rfl
      refine aw_ifeq (tgt := 83) (n := 67) C dX6_began_64 rfl rfl (by omega) (fun h_64 => ?_) (fun h_64 => ?_)
      · refine aw_iinc (n := 86) (L' := [_, _, _, _, _, _]) C dX6_began_83 rfl rfl (by decide) rfl rfl ?_
        refine aw_goto (tgt := 42) C dX6_began_86 rfl ?_
        have := ih (v + 1) _ (by omega) g1
        rw [e1, e2] at this
        first | (rw [hbz.1 h_64, if_neg (by decide), if_neg (by decide), Int.add_zero] at this; exact this) | (rw [hbz.2 h_64, if_pos rfl, if_pos rfl, if_pos h_68] at this; exact this) | (rw [hbz.2 h_64, if_pos rfl, if_pos rfl, if_neg h_68] at this; exact this)
      · refine aw_ildn (n := 68) C dX6_began_67 rfl rfl ?_
        refine aw_ifne (tgt := 76) (n := 71) C dX6_began_68 rfl rfl (by omega) (fun h_68 => ?_) (fun h_68 => ?_)
        · refine aw_ildw (n := 78) C dX6_began_76 rfl rfl ?_
          refine aw_istw (n := 80) (L' := [_, _, _, _, _, _]) C dX6_began_78 rfl (by decide) rfl rfl ?_
          refine aw_iinc (n := 83) (L' := [_, _, _, _, _, _]) C dX6_began_80 rfl rfl (by decide) rfl rfl ?_
          refine aw_iinc (n := 86) (L' := [_, _, _, _, _, _]) C dX6_began_83 rfl rfl (by decide) rfl rfl ?_
          refine aw_goto (tgt := 42) C dX6_began_86 rfl ?_
          have := ih (v + 1) _ (by omega) g1
          rw [e1, e2] at this
          first | (rw [hbz.1 h_64, if_neg (by decide), if_neg (by decide), Int.add_zero] at this; exact this) | (rw [hbz.2 h_64, if_pos rfl, if_pos rfl, if_pos h_68] at this; exact this) | (rw [hbz.2 h_64, if_pos rfl, if_pos rfl, if_neg h_68] at this; exact this)
        · refine aw_ildw (n := 73) C dX6_began_71 rfl rfl ?_
          refine aw_goto (tgt := 78) C dX6_began_73 rfl ?_
          refine aw_istw (n := 80) (L' := [_, _, _, _, _, _]) C dX6_began_78 rfl (by decide) rfl rfl ?_
          refine aw_iinc (n := 83) (L' := [_, _, _, _, _, _]) C dX6_began_80 rfl rfl (by decide) rfl rfl ?_
          refine aw_iinc (n := 86) (L' := [_, _, _, _, _, _]) C dX6_began_83 rfl rfl (by decide) rfl rfl ?_
          refine aw_goto (tgt := 42) C dX6_began_86 rfl ?_
          have := ih (v + 1) _ (by omega) g1
          rw [e1, e2] at this
          first | (rw [hbz.1 h_64, if_neg (by decide), if_neg (by decide), Int.add_zero] at this; exact this) | (rw [hbz.2 h_64, if_pos rfl, if_pos rfl, if_pos h_68] at this; exact this) | (rw [hbz.2 h_64, if_pos rfl, if_pos rfl, if_neg h_68] at this; exact this)
theorem x_began (hp : rng p) (hw : rng w) (T : TW 10 S) (R : XR S) : AMi 6 yX6_began cX6_began 6 (some .int) [.inr (.inr 0), .inl p, .inl w] S (fun z S' => fr 28 46 S S' ∧ z = (if p < 0 ∨ S 10 9 ≤ p then -1 else if w < 0 ∨ 1 < w then -2 else if w = 0 then cnB (bV 34 S p) 60 else lsB (bV 34 S p) 60)) := by
  obtain ⟨t1, t2, t3, t4, t5, t6⟩ := TW10 T
  refine ami_intro (L := [_, _, _, none, none, none]) (by decide) (Or.inl rfl) rfl (Nat.le_of_ble_eq_true rfl) (fun X C hret => ?_)
  refine aw_aldn (n := 1) C dX6_began_0 rfl rfl ?_
  refine aw_ildn (n := 2) C dX6_began_1 rfl rfl ?_
  refine aw_cVi (n := 5) (vs := [_]) C dX6_began_2 rfl rfl rfl mm_X6_noPassenger wM_X6_96 rfl rfl (Nat.le_of_ble_eq_true rfl) (c_noPassenger hp (by omega)) (by decide) (fun z_2 S_2 q_2 => ?_)
  rw [q_2.1, q_2.2]
  clear q_2 S_2 z_2
  refine aw_ifeq (tgt := 10) (n := 8) C dX6_began_5 rfl rfl (by omega) (fun h_5 => ?_) (fun h_5 => ?_)
  · refine aw_ildn (n := 11) C dX6_began_10 rfl rfl ?_
    refine aw_iflt (tgt := 19) (n := 14) C dX6_began_11 rfl rfl (by omega) (fun h_11 => ?_) (fun h_11 => ?_)
    · refine aw_bipush (n := 21) C dX6_began_19 rfl rfl ?_
      refine hret 21 _ _ _ dX6_began_21 (Or.inl rfl) ?_
      exact ⟨fr_rf _ _ _, by rw [if_neg (by omega), if_pos (by omega)]⟩
    · refine aw_ildn (n := 15) C dX6_began_14 rfl rfl ?_
      refine aw_iconst (n := 16) C dX6_began_15 rfl ?_
      refine aw_icle (tgt := 22) (n := 19) C dX6_began_16 rfl rfl (by omega) (by omega) (fun h_16 => ?_) (fun h_16 => ?_)
      · refine aw_iconst (n := 23) C dX6_began_22 rfl ?_
        refine aw_istn (n := 24) (L' := [_, _, _, _, _, _]) C dX6_began_23 rfl (by decide) rfl rfl ?_
        refine aw_bipush (n := 26) C dX6_began_24 rfl rfl ?_
        refine aw_istw (n := 28) (L' := [_, _, _, _, _, _]) C dX6_began_26 rfl (by decide) rfl rfl ?_
        refine aw_aldn (n := 29) C dX6_began_28 rfl rfl ?_
        refine aw_getR (n := 32) C dX6_began_29 rfl fl_X6_25 rfl rfl ?_
        refine aw_aldn (n := 33) C dX6_began_32 rfl rfl ?_
        refine aw_getR (n := 36) C dX6_began_33 rfl fl_X6_21 rfl rfl ?_
        refine aw_cVv (n := 39) (vs := [_]) C dX6_began_36 rfl rfl rfl mm_X5_becomeLike wM_X6_192 rfl rfl (Nat.le_of_ble_eq_true rfl) (c_becomeLike t1 t2 (fun m m0 m1 => (t5 m m0 m1).1)) (by decide) (fun S_36 q_36 => ?_)
        skip
        refine aw_iconst (n := 40) C dX6_began_39 rfl ?_
        refine aw_istw (n := 42) (L' := [_, _, _, _, _, _]) C dX6_began_40 rfl (by decide) rfl rfl ?_
        refine x_began_loop (by omega) (by omega) T R C (by omega) hret (fun S' hf => ⟨hf, ?_⟩) 60 0 _ (by omega) (GB_LK q_36)
        symm
        rw [if_neg (by omega), if_neg (by omega)]
      · refine aw_bipush (n := 21) C dX6_began_19 rfl rfl ?_
        refine hret 21 _ _ _ dX6_began_21 (Or.inl rfl) ?_
        exact ⟨fr_rf _ _ _, by rw [if_neg (by omega), if_pos (by omega)]⟩
  · refine aw_iconst (n := 9) C dX6_began_8 rfl ?_
    refine hret 9 _ _ _ dX6_began_9 (Or.inl rfl) ?_
    exact ⟨fr_rf _ _ _, by rw [if_pos (by omega)]⟩
theorem x_kinds_loop {post : Int → Mem → Prop} (hp0 : 0 ≤ p) (hp1 : p < S 10 9) (T : TW 10 S) (R : XR S) (C : CX X 6 RX6 cX6_kinds 4) (hret : ∀ (pc : Nat) (L : List (Option AV)) (z : Int) (S' : Mem), decode cX6_kinds pc = .ok (.ireturn, 1) → ((some FieldType.int) = some .int ∨ ((some FieldType.int) = some .boolean ∧ (z = 0 ∨ z = 1))) → post z S' → AW X cX6_kinds 4 pc L [.inl z] S') (hp : ∀ S', fr 28 46 S S' → post (seB (bV 33 S p) 3) S') : ∀ (r v : Nat) (S1 : Mem), v + r = 3 → GB S S1 p 33 → AW X cX6_kinds 4 25 [some (.inr (.inr 0)), some (.inl p), some (.inl (seB (bV 33 S p) v)), some (.inl v)] [] S1 := by
  obtain ⟨t1, t2, t3, t4, t5, t6⟩ := TW10 T
  intro r
  induction r with
  | zero =>
    intro v S1 hv hg
    obtain rfl : v = 3 := by omega
    refine aw_ildn (n := 26) C dX6_kinds_25 rfl rfl ?_
    refine aw_iconst (n := 27) C dX6_kinds_26 rfl ?_
    refine aw_icge (tgt := 59) (n := 30) C dX6_kinds_27 rfl rfl (by omega) (by omega) (fun h_27 => ?_) (fun h_27 => ?_)
    · refine aw_ildn (n := 60) C dX6_kinds_59 rfl rfl ?_
      refine hret 60 _ _ _ dX6_kinds_60 (Or.inl rfl) ?_
      exact hp S1 hg.1.1
    · omega
  | succ r ih =>
    intro v S1 hv hg
    have hsr := seB_r (bV 33 S p) v
    refine aw_ildn (n := 26) C dX6_kinds_25 rfl rfl ?_
    refine aw_iconst (n := 27) C dX6_kinds_26 rfl ?_
    refine aw_icge (tgt := 59) (n := 30) C dX6_kinds_27 rfl rfl (by omega) (by omega) (fun h_27 => ?_) (fun h_27 => ?_)
    · omega
    · refine aw_aldn (n := 31) C dX6_kinds_30 rfl rfl ?_
      refine aw_getR (n := 34) C dX6_kinds_31 rfl fl_X6_25 rfl rfl ?_
      refine aw_getR (n := 37) C dX6_kinds_34 rfl fl_X6_99 rfl rfl ?_
      refine aw_ildn (n := 38) C dX6_kinds_37 rfl rfl ?_
      refine aw_ildn (n := 39) C dX6_kinds_38 rfl rfl ?_
      refine aw_iast (n := 40) C dX6_kinds_39 rfl rfl (by omega) (by omega) ?_
      refine aw_aldn (n := 41) C dX6_kinds_40 rfl rfl ?_
      refine aw_cVi (n := 44) (vs := []) C dX6_kinds_41 rfl rfl rfl mm_X6_guessIsSo wM_X6_208 rfl rfl (Nat.le_of_ble_eq_true rfl) (c_try (v := (v : Int)) (Or.inl rfl) T R hg ⟨fun _ => by omega, fun h => by omega, fun h => by omega⟩) (by decide) (fun z_41 S_41 q_41 => ?_)
      obtain ⟨g1, g2, g3⟩ := q_41
      have hbz := bV_z g2 g3
      have e1 := seB_s (bV 33 S p) v
      refine aw_ifeq (tgt := 53) (n := 47) C dX6_kinds_44 rfl rfl (by omega) (fun h_44 => ?_) (fun h_44 => ?_)
      · refine aw_iinc (n := 56) (L' := [_, _, _, _]) C dX6_kinds_53 rfl rfl (by decide) rfl rfl ?_
        refine aw_goto (tgt := 25) C dX6_kinds_56 rfl ?_
        have := ih (v + 1) _ (by omega) g1
        rw [e1] at this
        first | (rw [hbz.1 h_44, if_neg (by decide), Int.add_zero] at this; exact this) | (rw [hbz.2 h_44, if_pos rfl] at this; exact this)
      · refine aw_ildn (n := 48) C dX6_kinds_47 rfl rfl ?_
        refine aw_iconst (n := 49) C dX6_kinds_48 rfl ?_
        refine aw_ildn (n := 50) C dX6_kinds_49 rfl rfl ?_
        refine aw_ishl (n := 51) C dX6_kinds_50 rfl (shl_bitI (by omega)) ?_
        refine aw_ior (n := 52) C dX6_kinds_51 rfl (or_bitI (by omega) hsr.1 hsr.2) ?_
        refine aw_istn (n := 53) (L' := [_, _, _, _]) C dX6_kinds_52 rfl (by decide) rfl rfl ?_
        refine aw_iinc (n := 56) (L' := [_, _, _, _]) C dX6_kinds_53 rfl rfl (by decide) rfl rfl ?_
        refine aw_goto (tgt := 25) C dX6_kinds_56 rfl ?_
        have := ih (v + 1) _ (by omega) g1
        rw [e1] at this
        first | (rw [hbz.1 h_44, if_neg (by decide), Int.add_zero] at this; exact this) | (rw [hbz.2 h_44, if_pos rfl] at this; exact this)
theorem x_kinds (hp : rng p) (T : TW 10 S) (R : XR S) : AMi 6 yX6_kinds cX6_kinds 4 (some .int) [.inr (.inr 0), .inl p] S (fun z S' => fr 28 46 S S' ∧ z = (if p < 0 ∨ S 10 9 ≤ p then -1 else seB (bV 33 S p) 3)) := by
  obtain ⟨t1, t2, t3, t4, t5, t6⟩ := TW10 T
  refine ami_intro (L := [_, _, none, none]) (by decide) (Or.inl rfl) rfl (Nat.le_of_ble_eq_true rfl) (fun X C hret => ?_)
  refine aw_aldn (n := 1) C dX6_kinds_0 rfl rfl ?_
  refine aw_ildn (n := 2) C dX6_kinds_1 rfl rfl ?_
  refine aw_cVi (n := 5) (vs := [_]) C dX6_kinds_2 rfl rfl rfl mm_X6_noPassenger wM_X6_96 rfl rfl (Nat.le_of_ble_eq_true rfl) (c_noPassenger hp (by omega)) (by decide) (fun z_2 S_2 q_2 => ?_)
  rw [q_2.1, q_2.2]
  clear q_2 S_2 z_2
  refine aw_ifeq (tgt := 10) (n := 8) C dX6_kinds_5 rfl rfl (by omega) (fun h_5 => ?_) (fun h_5 => ?_)
  · refine aw_iconst (n := 11) C dX6_kinds_10 rfl ?_
    refine aw_istn (n := 12) (L' := [_, _, _, _]) C dX6_kinds_11 rfl (by decide) rfl rfl ?_
    refine aw_aldn (n := 13) C dX6_kinds_12 rfl rfl ?_
    refine aw_getR (n := 16) C dX6_kinds_13 rfl fl_X6_25 rfl rfl ?_
    refine aw_aldn (n := 17) C dX6_kinds_16 rfl rfl ?_
    refine aw_getR (n := 20) C dX6_kinds_17 rfl fl_X6_21 rfl rfl ?_
    refine aw_cVv (n := 23) (vs := [_]) C dX6_kinds_20 rfl rfl rfl mm_X5_becomeLike wM_X6_192 rfl rfl (Nat.le_of_ble_eq_true rfl) (c_becomeLike t1 t2 (fun m m0 m1 => (t5 m m0 m1).1)) (by decide) (fun S_20 q_20 => ?_)
    skip
    refine aw_iconst (n := 24) C dX6_kinds_23 rfl ?_
    refine aw_istn (n := 25) (L' := [_, _, _, _]) C dX6_kinds_24 rfl (by decide) rfl rfl ?_
    refine x_kinds_loop (by omega) (by omega) T R C hret (fun S' hf => ⟨hf, ?_⟩) 3 0 _ (by omega) (GB_LK q_20)
    rw [if_neg (by omega)]
  · refine aw_iconst (n := 9) C dX6_kinds_8 rfl ?_
    refine hret 9 _ _ _ dX6_kinds_9 (Or.inl rfl) ?_
    exact ⟨fr_rf _ _ _, by rw [if_pos (by omega)]⟩
theorem x_fadings_loop {post : Int → Mem → Prop} (hp0 : 0 ≤ p) (hp1 : p < S 10 9) (T : TW 10 S) (R : XR S) (C : CX X 6 RX6 cX6_fadings 4) (hret : ∀ (pc : Nat) (L : List (Option AV)) (z : Int) (S' : Mem), decode cX6_fadings pc = .ok (.ireturn, 1) → ((some FieldType.int) = some .int ∨ ((some FieldType.int) = some .boolean ∧ (z = 0 ∨ z = 1))) → post z S' → AW X cX6_fadings 4 pc L [.inl z] S') (hp : ∀ S', fr 28 46 S S' → post (seB (bV 35 S p) 10) S') : ∀ (r v : Nat) (S1 : Mem), v + r = 10 → GB S S1 p 35 → AW X cX6_fadings 4 25 [some (.inr (.inr 0)), some (.inl p), some (.inl (seB (bV 35 S p) v)), some (.inl v)] [] S1 := by
  obtain ⟨t1, t2, t3, t4, t5, t6⟩ := TW10 T
  intro r
  induction r with
  | zero =>
    intro v S1 hv hg
    obtain rfl : v = 10 := by omega
    refine aw_ildn (n := 26) C dX6_fadings_25 rfl rfl ?_
    refine aw_bipush (n := 28) C dX6_fadings_26 rfl rfl ?_
    refine aw_icge (tgt := 60) (n := 31) C dX6_fadings_28 rfl rfl (by omega) (by omega) (fun h_28 => ?_) (fun h_28 => ?_)
    · refine aw_ildn (n := 61) C dX6_fadings_60 rfl rfl ?_
      refine hret 61 _ _ _ dX6_fadings_61 (Or.inl rfl) ?_
      exact hp S1 hg.1.1
    · omega
  | succ r ih =>
    intro v S1 hv hg
    have hsr := seB_r (bV 35 S p) v
    refine aw_ildn (n := 26) C dX6_fadings_25 rfl rfl ?_
    refine aw_bipush (n := 28) C dX6_fadings_26 rfl rfl ?_
    refine aw_icge (tgt := 60) (n := 31) C dX6_fadings_28 rfl rfl (by omega) (by omega) (fun h_28 => ?_) (fun h_28 => ?_)
    · omega
    · refine aw_aldn (n := 32) C dX6_fadings_31 rfl rfl ?_
      refine aw_getR (n := 35) C dX6_fadings_32 rfl fl_X6_25 rfl rfl ?_
      refine aw_getR (n := 38) C dX6_fadings_35 rfl fl_X6_105 rfl rfl ?_
      refine aw_ildn (n := 39) C dX6_fadings_38 rfl rfl ?_
      refine aw_ildn (n := 40) C dX6_fadings_39 rfl rfl ?_
      refine aw_iast (n := 41) C dX6_fadings_40 rfl rfl (by omega) (by omega) ?_
      refine aw_aldn (n := 42) C dX6_fadings_41 rfl rfl ?_
      refine aw_cVi (n := 45) (vs := []) C dX6_fadings_42 rfl rfl rfl mm_X6_guessIsSo wM_X6_208 rfl rfl (Nat.le_of_ble_eq_true rfl) (c_try (v := (v : Int)) (Or.inr (Or.inr rfl)) T R hg ⟨fun h => by omega, fun h => by omega, fun _ => by omega⟩) (by decide) (fun z_42 S_42 q_42 => ?_)
      obtain ⟨g1, g2, g3⟩ := q_42
      have hbz := bV_z g2 g3
      have e1 := seB_s (bV 35 S p) v
      refine aw_ifeq (tgt := 54) (n := 48) C dX6_fadings_45 rfl rfl (by omega) (fun h_45 => ?_) (fun h_45 => ?_)
      · refine aw_iinc (n := 57) (L' := [_, _, _, _]) C dX6_fadings_54 rfl rfl (by decide) rfl rfl ?_
        refine aw_goto (tgt := 25) C dX6_fadings_57 rfl ?_
        have := ih (v + 1) _ (by omega) g1
        rw [e1] at this
        first | (rw [hbz.1 h_45, if_neg (by decide), Int.add_zero] at this; exact this) | (rw [hbz.2 h_45, if_pos rfl] at this; exact this)
      · refine aw_ildn (n := 49) C dX6_fadings_48 rfl rfl ?_
        refine aw_iconst (n := 50) C dX6_fadings_49 rfl ?_
        refine aw_ildn (n := 51) C dX6_fadings_50 rfl rfl ?_
        refine aw_ishl (n := 52) C dX6_fadings_51 rfl (shl_bitI (by omega)) ?_
        refine aw_ior (n := 53) C dX6_fadings_52 rfl (or_bitI (by omega) hsr.1 hsr.2) ?_
        refine aw_istn (n := 54) (L' := [_, _, _, _]) C dX6_fadings_53 rfl (by decide) rfl rfl ?_
        refine aw_iinc (n := 57) (L' := [_, _, _, _]) C dX6_fadings_54 rfl rfl (by decide) rfl rfl ?_
        refine aw_goto (tgt := 25) C dX6_fadings_57 rfl ?_
        have := ih (v + 1) _ (by omega) g1
        rw [e1] at this
        first | (rw [hbz.1 h_45, if_neg (by decide), Int.add_zero] at this; exact this) | (rw [hbz.2 h_45, if_pos rfl] at this; exact this)
theorem x_fadings (hp : rng p) (T : TW 10 S) (R : XR S) : AMi 6 yX6_fadings cX6_fadings 4 (some .int) [.inr (.inr 0), .inl p] S (fun z S' => fr 28 46 S S' ∧ z = (if p < 0 ∨ S 10 9 ≤ p then -1 else seB (bV 35 S p) 10)) := by
  obtain ⟨t1, t2, t3, t4, t5, t6⟩ := TW10 T
  refine ami_intro (L := [_, _, none, none]) (by decide) (Or.inl rfl) rfl (Nat.le_of_ble_eq_true rfl) (fun X C hret => ?_)
  refine aw_aldn (n := 1) C dX6_fadings_0 rfl rfl ?_
  refine aw_ildn (n := 2) C dX6_fadings_1 rfl rfl ?_
  refine aw_cVi (n := 5) (vs := [_]) C dX6_fadings_2 rfl rfl rfl mm_X6_noPassenger wM_X6_96 rfl rfl (Nat.le_of_ble_eq_true rfl) (c_noPassenger hp (by omega)) (by decide) (fun z_2 S_2 q_2 => ?_)
  rw [q_2.1, q_2.2]
  clear q_2 S_2 z_2
  refine aw_ifeq (tgt := 10) (n := 8) C dX6_fadings_5 rfl rfl (by omega) (fun h_5 => ?_) (fun h_5 => ?_)
  · refine aw_iconst (n := 11) C dX6_fadings_10 rfl ?_
    refine aw_istn (n := 12) (L' := [_, _, _, _]) C dX6_fadings_11 rfl (by decide) rfl rfl ?_
    refine aw_aldn (n := 13) C dX6_fadings_12 rfl rfl ?_
    refine aw_getR (n := 16) C dX6_fadings_13 rfl fl_X6_25 rfl rfl ?_
    refine aw_aldn (n := 17) C dX6_fadings_16 rfl rfl ?_
    refine aw_getR (n := 20) C dX6_fadings_17 rfl fl_X6_21 rfl rfl ?_
    refine aw_cVv (n := 23) (vs := [_]) C dX6_fadings_20 rfl rfl rfl mm_X5_becomeLike wM_X6_192 rfl rfl (Nat.le_of_ble_eq_true rfl) (c_becomeLike t1 t2 (fun m m0 m1 => (t5 m m0 m1).1)) (by decide) (fun S_20 q_20 => ?_)
    skip
    refine aw_iconst (n := 24) C dX6_fadings_23 rfl ?_
    refine aw_istn (n := 25) (L' := [_, _, _, _]) C dX6_fadings_24 rfl (by decide) rfl rfl ?_
    refine x_fadings_loop (by omega) (by omega) T R C hret (fun S' hf => ⟨hf, ?_⟩) 10 0 _ (by omega) (GB_LK q_20)
    rw [if_neg (by omega)]
  · refine aw_iconst (n := 9) C dX6_fadings_8 rfl ?_
    refine hret 9 _ _ _ dX6_fadings_9 (Or.inl rfl) ?_
    exact ⟨fr_rf _ _ _, by rw [if_pos (by omega)]⟩
end BGN
