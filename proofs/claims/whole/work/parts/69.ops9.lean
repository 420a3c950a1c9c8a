/-! a call of both: ease, stuck -/
section EZC
variable {M P : Nat} {se se' : Fn} {du du' : Int → Int → Int}
theorem lwm_congr (hs : ∀ c, 0 ≤ c → c < 3 → se c = se' c) (hd : ∀ m p : Nat, m < M → p < P → du m p = du' m p) {m : Nat} (hm : m < M) (w : Nat) : lwm P se du m w = lwm P se' du' m w := by
  have hf : ∀ j, j < P → du m ((P : Int) - 1 - (j : Int)) = du' m ((P : Int) - 1 - (j : Int)) := fun j hj => by
    rw [show (P : Int) - 1 - (j : Int) = ((P - 1 - j : Nat) : Int) by omega]
    exact hd m _ hm (by omega)
  have h1 : lws w (fun j => du m ((P : Int) - 1 - j)) P = lws w (fun j => du' m ((P : Int) - 1 - j)) P := sm_congr (fun j hj => congrArg (fun x => (dgl w j : Int) - x) (hf j hj))
  have h2 : okl w (fun j => du m ((P : Int) - 1 - j)) se P ↔ okl w (fun j => du' m ((P : Int) - 1 - j)) se' P := by
    constructor
    · rintro ⟨g1, g2⟩
      exact ⟨fun j hj => Int.le_trans (Int.le_of_eq (hf j hj).symm) (g1 j hj), fun c c0 c1 => by rw [← hs c c0 c1]; exact g2 c c0 c1⟩
    · rintro ⟨g1, g2⟩
      exact ⟨fun j hj => Int.le_trans (Int.le_of_eq (hf j hj)) (g1 j hj), fun c c0 c1 => by rw [hs c c0 c1]; exact g2 c c0 c1⟩
  unfold lwm lwF
  by_cases q : okl w (fun j => du m ((P : Int) - 1 - j)) se P
  · rw [ifp_t q, ifp_t (h2.mp q), h1]
  · rw [ifp_f q, ifp_f (fun h => q (h2.mpr h))]
theorem bhF_congr (hP : P ≤ 4) (hs : ∀ c, 0 ≤ c → c < 3 → se c = se' c) (hd : ∀ m p : Nat, m < M → p < P → du m p = du' m p) : ∀ (j w : Nat), j ≤ M → w < 3 ^ P → bhF M P se du j w = bhF M P se' du' j w
  | 0, _, _, _ => rfl
  | j + 1, w, hj, hw => by
    rw [bhF_s, bhF_s]
    refine bst_congr hP (fun v hv => ?_) P w (Nat.le_refl _) hw
    rw [lwm_congr hs hd (by omega) v, bhF_congr hP hs hd j v (by omega) hv]
theorem tgF_congr (hP : P ≤ 4) (hs : ∀ c, 0 ≤ c → c < 3 → se c = se' c) (hd : ∀ m p : Nat, m < M → p < P → du m p = du' m p) {m w : Nat} (hm : m < M) (hw : w < 3 ^ P) : tgF M P se du m w = tgF M P se' du' m w := by
  unfold tgF
  rw [lwm_congr hs hd hm w, bhF_congr hP hs hd _ w (by omega) hw]
theorem anyF_congr (hs : ∀ c, 0 ≤ c → c < 3 → se c = se' c) (hd : ∀ m p : Nat, m < M → p < P → du m p = du' m p) {m : Nat} (hm : m < M) : anyF P se du m = anyF P se' du' m := by
  unfold anyF
  refine congrArg bB (propext ?_)
  constructor
  · rintro ⟨w, w1, w2⟩
    exact ⟨w, w1, by rw [← lwm_congr hs hd hm w]; exact w2⟩
  · rintro ⟨w, w1, w2⟩
    exact ⟨w, w1, by rw [lwm_congr hs hd hm w]; exact w2⟩
theorem eS_congr (hs : ∀ c, 0 ≤ c → c < 3 → se c = se' c) (hd : ∀ m p : Nat, m < M → p < P → du m p = du' m p) : eS M P se du = eS M P se' du' := by
  unfold eS
  exact fst1_congr M 0 (fun k _ hk => by rw [anyF_congr hs hd (by omega)])
theorem rwF_congr (hP : P ≤ 4) (hs : ∀ c, 0 ≤ c → c < 3 → se c = se' c) (hd : ∀ m p : Nat, m < M → p < P → du m p = du' m p) : ∀ m : Nat, m < M → rwF M P se du m = rwF M P se' du' m
  | 0, hm => by
    show (fo (tgF M P se du 0) (3 ^ P)).1 = (fo (tgF M P se' du' 0) (3 ^ P)).1
    rw [fo_congr (3 ^ P) (fun w hw => tgF_congr hP hs hd hm hw)]
  | m + 1, hm => by
    show (fo (fun w => tgF M P se du (m + 1) w + chl (rwF M P se du m) w P) (3 ^ P)).1 = (fo (fun w => tgF M P se' du' (m + 1) w + chl (rwF M P se' du' m) w P) (3 ^ P)).1
    rw [rwF_congr hP hs hd m (by omega), fo_congr (3 ^ P) (fun w hw => by rw [tgF_congr hP hs hd hm hw])]
theorem eT_congr (hM : 0 < M) (hP : P ≤ 4) (hs : ∀ c, 0 ≤ c → c < 3 → se c = se' c) (hd : ∀ m p : Nat, m < M → p < P → du m p = du' m p) : eT M P se du = eT M P se' du' := by
  unfold eT
  rw [eS_congr hs hd, rwF_congr hP hs hd 0 hM, tgF_congr hP hs hd hM (rwF_lt 0)]
theorem eR_congr (hP : P ≤ 4) (hs : ∀ c, 0 ≤ c → c < 3 → se c = se' c) (hd : ∀ m p : Nat, m < M → p < P → du m p = du' m p) {k : Nat} (hk : k / P < M) : eR M P se du k = eR M P se' du' k := by
  unfold eR
  rw [rwF_congr hP hs hd _ hk]
end EZC
section OPE
variable {S S' : Mem} {k : Int}
theorem LE_o {S1 S2 : Mem} {M P : Nat} (L : LE S S1 M P) (h11 : S2 11 = S 11) (hd : duC S2 = duC S) (h53 : S2 53 = S1 53) (h65 : S2 65 = S1 65) : LE S2 S2 M P := by
  unfold LE RWS
  rw [h11, hd, h53, h65]
  exact L
theorem KN_Inv {S1 S2 : Mem} (I : Inv S) (K : KN S S1) (f : fr 80 84 S1 S2) : Inv S2 := by
  obtain ⟨T, R, H, F, Z⟩ := id I
  obtain ⟨k1, k2, k3, k4⟩ := K
  have s1 := T.1.1
  have a1 := T.2.2.2.1.1
  have o : ∀ d, d ≠ 0 → d < 53 ∨ (66 ≤ d ∧ d < 80) ∨ 84 ≤ d → S2 d = S d := fun d h0 h => by rw [f d (by omega), k1 d h0 (by omega)]
  have q66 := o 66 (by decide) (by omega)
  have q0 : S2 0 = S1 0 := f 0 (by omega)
  have hd : duC S2 = duC S := by
    funext m p
    unfold duC
    rw [o 10 (by omega) (by omega), o (19 + (min m 8).toNat) (by omega) (by omega)]
  refine ⟨IT_o T (fun d h => o d (by omega) (by omega)) (fun x _ _ => by rw [q66]), IR_o R (fun d h => o d (by omega) (by omega)) (by rw [q66]) (by rw [q66]) (by rw [q66]), IS_o H (fun d h => o d (by omega) (by omega)), ?_, Or.inr ⟨by rw [q0]; exact k3, ?_⟩⟩
  · unfold IF
    rw [q0, q66, k2 7 (by decide), k2 8 (by decide)]
    exact F
  · rw [o 10 (by omega) (by omega)]
    exact LE_o k4 (o 11 (by omega) (by omega)) hd (f 53 (by omega)) (f 65 (by omega))
theorem op_ease (I : Inv S) (hk : rng k) : AMi 5 yX6_ease cX6_ease 2 (some .int) [.inr (.inr 0), .inl k] S (fun z S1 => AMi 4 yX7_ease cX7_ease 5 (some .int) [.inr (.inr 66), .inl k] S1 (fun z' S2 => z' = z ∧ Inv S2)) := by
  obtain ⟨T, R, H, F, Z⟩ := id I
  obtain ⟨W, t2, t3, ⟨a1, a2, a3, a4⟩, b1, b2, b3, G⟩ := id T
  obtain ⟨s1, s2, s3, s4, s5, s6⟩ := id W
  have hmp : S 66 5 ≠ 0 → 0 < S 66 6 := fun h => by omega
  refine ami_mono (x_ease hk (Inv_XW I) Z) (fun z S1 h => ?_)
  obtain ⟨hz, hS1⟩ := h
  rw [a1, a2] at hz
  rw [a1] at hS1
  by_cases e : k < -1 ∨ S 66 5 = 0
  · rw [if_pos e] at hS1
    subst hS1
    refine ami_mono (m_ease hk W t2 hmp) (fun z' S2 h => ?_)
    obtain ⟨f2, hz'⟩ := h
    refine ⟨?_, Inv_frm I f2 (by omega)⟩
    rw [hz, hz']
    by_cases e1 : k < -1
    · rw [if_pos e1, if_pos e1]
    · rw [if_neg e1, if_neg e1, if_pos (by omega), if_pos (by omega)]
  · rw [if_neg e] at hS1
    have o1 : ∀ d, 66 ≤ d → S1 d = S d := fun d h => hS1.1 d (by omega) (by omega)
    have e66 := o1 66 (by decide)
    refine ami_mono (m_ease (S := S1) hk (MW_o W (fun d h1 h2 => o1 d (by omega))) (by rw [o1 70 (by decide)]; exact t2) (by rw [e66]; exact hmp)) (fun z' S2 h => ?_)
    obtain ⟨f2, hz'⟩ := h
    have hdM : dM S1 = dM S := dM_o (fun d hd => o1 d (by omega)) (by rw [e66]) (by rw [e66])
    rw [e66, o1 70 (by decide), hdM] at hz'
    refine ⟨?_, KN_Inv I hS1 f2⟩
    have hd : ∀ m p : Nat, m < (S 66 5).toNat → p < (S 66 6).toNat → duC S m p = dM S m p := fun m p hm hp => duM T (by omega) (by omega)
    rw [hz, hz', eT_congr (se' := S 70) (du' := dM S) (by omega) (by omega) b1 hd]
    by_cases e1 : k < -1
    · omega
    · have e5 : ¬ S 66 5 = 0 := fun h => e (Or.inr h)
      rw [if_neg e1, if_neg e1, if_neg e5, if_neg e5]
      by_cases e2 : k = -1 ∨ eT (S 66 5).toNat (S 66 6).toNat (S 70) (dM S) = -9
      · rw [if_pos e2, if_pos e2]
      · rw [if_neg e2, if_neg e2]
        by_cases e3 : k < S 66 5 * S 66 6
        · rw [if_pos e3, if_pos e3]
          have hk2 : k.toNat < (S 66 5).toNat * (S 66 6).toNat := by
            have h2 : (((S 66 5).toNat * (S 66 6).toNat : Nat) : Int) = S 66 5 * S 66 6 := by
              rw [Int.natCast_mul, Int.toNat_of_nonneg s1.1, Int.toNat_of_nonneg s2.1]
            omega
          exact (eR_congr (by omega) b1 hd ((Nat.div_lt_iff_lt_mul (by omega)).2 hk2)).symm
        · rw [if_neg e3, if_neg e3]
theorem op_stuck (I : Inv S) : AMi 5 yX6_stuck cX6_stuck 1 (some .int) [.inr (.inr 0)] S (fun z S1 => AMi 3 yX7_stuck cX7_stuck 5 (some .int) [.inr (.inr 66)] S1 (fun z' S2 => z' = z ∧ Inv S2)) := by
  obtain ⟨T, R, H, F, Z⟩ := id I
  obtain ⟨W, t2, t3, ⟨a1, a2, a3, a4⟩, b1, b2, b3, G⟩ := id T
  obtain ⟨s1, s2, s3, s4, s5, s6⟩ := id W
  have hmp : S 66 5 ≠ 0 → 0 < S 66 6 := fun h => by omega
  refine ami_mono (x_stuck (Inv_XW I) Z) (fun z S1 h => ?_)
  obtain ⟨hz, hS1⟩ := h
  rw [a1, a2] at hz
  rw [a1] at hS1
  by_cases e : S 66 5 = 0
  · rw [if_pos e] at hS1
    subst hS1
    refine ami_mono (m_stuck W t2 hmp) (fun z' S2 h => ?_)
    obtain ⟨f2, hz'⟩ := h
    refine ⟨?_, Inv_frm I f2 (by omega)⟩
    rw [hz, hz', if_pos e, if_pos e]
  · rw [if_neg e] at hS1
    have o1 : ∀ d, 66 ≤ d → S1 d = S d := fun d h => hS1.1 d (by omega) (by omega)
    have e66 := o1 66 (by decide)
    refine ami_mono (m_stuck (S := S1) (MW_o W (fun d h1 h2 => o1 d (by omega))) (by rw [o1 70 (by decide)]; exact t2) (by rw [e66]; exact hmp)) (fun z' S2 h => ?_)
    obtain ⟨f2, hz'⟩ := h
    have hdM : dM S1 = dM S := dM_o (fun d hd => o1 d (by omega)) (by rw [e66]) (by rw [e66])
    rw [e66, o1 70 (by decide), hdM] at hz'
    refine ⟨?_, KN_Inv I hS1 f2⟩
    have hd : ∀ m p : Nat, m < (S 66 5).toNat → p < (S 66 6).toNat → duC S m p = dM S m p := fun m p hm hp => duM T (by omega) (by omega)
    rw [hz, hz', eS_congr (se' := S 70) (du' := dM S) b1 hd]
end OPE
