/-! Train.readFrom: the line takes a whole text -/
section RDL
variable {X : AMX} {S : Mem} {k mc P : Nat} {i n : Int} {post : Mem → Prop}
def rl1 (q : Fn) (c : Int) (S1 : Mem) : Prop := ∀ x, 0 ≤ x → x < c → S1 11 x = nSe q x
def rl2 (q : Fn) (m : Int) (S1 : Mem) : Prop := ∀ x, 0 ≤ x → x < m → S1 12 x = nTu q x
def rl3 (q : Fn) (mc p : Int) (S1 : Mem) : Prop := ∀ x, 0 ≤ x → x < p → S1 15 x = nKd q mc x ∧ S1 16 x = nBg q mc x ∧ S1 17 x = nFd q mc x
/-- the line that a text tells -/
def RDL (q : Fn) (mc P : Nat) (S S' : Mem) : Prop := fr 10 18 S S' ∧ S' 10 8 = mc ∧ S' 10 9 = P ∧ S' 10 10 = 20 ∧ S' 10 11 = 40 ∧ rl1 q 3 S' ∧ rl2 q mc S' ∧ rl3 q mc P S' ∧ (∀ m, 0 ≤ m → m < 8 → S' 13 m = -9 ∧ S' 14 m = -9)
theorem c_rd3 (hk : k < 4) (hi : 0 ≤ i) (hin : i + n ≤ 60) (hc : ∀ j, rng (S (6 + k) j)) (O : OKT (fun j => S (6 + k) (i + j)) n mc P) (C : CX X 1 RX5 cX5_readFrom 6) (hret : ∀ (pc : Nat) (L : List (Option AV)) (S' : Mem), decode cX5_readFrom pc = .ok (.return_, 1) → post S' → AW X cX5_readFrom 6 pc L [] S') (hp : ∀ S', RDL (fun j => S (6 + k) (i + j)) mc P S S' → post S') : ∀ (r p : Nat) (a : Int) (S1 : Mem), p + r = P → a = i + 5 + mc + 5 * p → fr 10 18 S S1 → S1 10 8 = mc → S1 10 9 = P → rl1 (fun j => S (6 + k) (i + j)) 3 S1 → rl2 (fun j => S (6 + k) (i + j)) mc S1 → rl3 (fun j => S (6 + k) (i + j)) mc p S1 → AW X cX5_readFrom 6 115 [some (.inr (.inr 10)), some (.inr (.inr (6 + k))), some (.inl i), some (.inl n), some (.inl a), some (.inl p)] [] S1 := by
  obtain ⟨o1, o2, o3, o4, o5, o6⟩ := O
  intro r
  induction r with
  | zero =>
    intro p a S1 hpr ha hf v8 v9 r1 r2 r3
    obtain rfl : p = P := by omega
    refine aw_ildw (n := 117) C dX5_readFrom_115 rfl rfl ?_
    refine aw_aldn (n := 118) C dX5_readFrom_117 rfl rfl ?_
    refine aw_getI (z := 9) (n := 121) C dX5_readFrom_118 rfl fl_X5_43 rfl rfl rfl ?_
    refine aw_icge (tgt := 194) (n := 124) C dX5_readFrom_121 rfl rfl (by omega) (by omega) (fun h_121 => ?_) (fun h_121 => ?_)
    · refine aw_aldn (n := 195) C dX5_readFrom_194 rfl rfl ?_
      refine aw_bipush (n := 197) C dX5_readFrom_195 rfl rfl ?_
      refine aw_put (z := 10) (n := 200) C dX5_readFrom_197 rfl fp_X5_46 rfl rfl rfl (Or.inl rfl) ?_
      refine aw_aldn (n := 201) C dX5_readFrom_200 rfl rfl ?_
      refine aw_bipush (n := 203) C dX5_readFrom_201 rfl rfl ?_
      refine aw_put (z := 11) (n := 206) C dX5_readFrom_203 rfl fp_X5_49 rfl rfl rfl (Or.inl rfl) ?_
      refine aw_aldn (n := 207) C dX5_readFrom_206 rfl rfl ?_
      refine aw_getR (n := 210) C dX5_readFrom_207 rfl fl_X5_19 rfl rfl ?_
      refine aw_bipush (n := 212) C dX5_readFrom_210 rfl rfl ?_
      refine aw_cSv (n := 215) (vs := [_, _]) C dX5_readFrom_212 rfl rfl rfl mm_J7_fill_53178 wM_X5_58 (Nat.le_of_ble_eq_true rfl) (c_fill (n := 8) rfl (by decide)) (by decide) (fun S_212 q_212 => ?_)
      rw [q_212]
      clear q_212 S_212
      refine aw_aldn (n := 216) C dX5_readFrom_215 rfl rfl ?_
      refine aw_getR (n := 219) C dX5_readFrom_216 rfl fl_X5_22 rfl rfl ?_
      refine aw_bipush (n := 221) C dX5_readFrom_219 rfl rfl ?_
      refine aw_cSv (n := 224) (vs := [_, _]) C dX5_readFrom_221 rfl rfl rfl mm_J7_fill_53178 wM_X5_58 (Nat.le_of_ble_eq_true rfl) (c_fill (n := 8) rfl (by decide)) (by decide) (fun S_221 q_221 => ?_)
      rw [q_221]
      clear q_221 S_221
      refine hret 224 _ _ dX5_readFrom_224 ?_
      refine hp _ ⟨?_, ?_, ?_, ?_, ?_, ?_, ?_, ?_, ?_⟩
      · exact fr_tr hf (fun c hc => funext fun x => by simp only [fl2, st2]; rw [if_neg (by omega), if_neg (by omega), if_neg (by omega), if_neg (by omega)])
      · exact v8
      · exact v9
      · rfl
      · rfl
      · exact r1
      · exact r2
      · exact r3
      · exact fun m m0 m1 => ⟨by simp only [fl2, Nat.reduceEqDiff, false_and, if_false, true_and]; rw [if_pos ⟨m0, m1⟩], by unfold fl2; rw [if_pos ⟨rfl, m0, m1⟩]⟩
    · omega
  | succ r ih =>
    intro p a S1 hpr ha hf v8 v9 r1 r2 r3
    obtain ⟨g0, g1, g2, g3, g4⟩ := o6 p (by omega)
    have hcell : S1 (6 + k) = S (6 + k) := hf (6 + k) (by omega)
    have x1 : S1 (6 + k) (a + 1) = (fun j => S (6 + k) (i + j)) (5 + mc + 5 * p + 1) := by rw [hcell]; show S (6 + k) _ = S (6 + k) _; congr 1; omega
    have x2 : S1 (6 + k) (a + 2) = (fun j => S (6 + k) (i + j)) (5 + mc + 5 * p + 2) := by rw [hcell]; show S (6 + k) _ = S (6 + k) _; congr 1; omega
    have x3 : S1 (6 + k) (a + 3) = (fun j => S (6 + k) (i + j)) (5 + mc + 5 * p + 3) := by rw [hcell]; show S (6 + k) _ = S (6 + k) _; congr 1; omega
    have x4 : S1 (6 + k) (a + 4) = (fun j => S (6 + k) (i + j)) (5 + mc + 5 * p + 4) := by rw [hcell]; show S (6 + k) _ = S (6 + k) _; congr 1; omega
    have hc1 : rng (S1 (6 + k) (a + 1)) := by rw [hcell]; exact hc _
    refine aw_ildw (n := 117) C dX5_readFrom_115 rfl rfl ?_
    refine aw_aldn (n := 118) C dX5_readFrom_117 rfl rfl ?_
    refine aw_getI (z := 9) (n := 121) C dX5_readFrom_118 rfl fl_X5_43 rfl rfl rfl ?_
    refine aw_icge (tgt := 194) (n := 124) C dX5_readFrom_121 rfl rfl (by omega) (by omega) (fun h_121 => ?_) (fun h_121 => ?_)
    · omega
    · refine aw_aldn (n := 125) C dX5_readFrom_124 rfl rfl ?_
      refine aw_getR (n := 128) C dX5_readFrom_125 rfl fl_X5_25 rfl rfl ?_
      refine aw_ildw (n := 130) C dX5_readFrom_128 rfl rfl ?_
      refine aw_aldn (n := 131) C dX5_readFrom_130 rfl rfl ?_
      refine aw_ildw (n := 133) C dX5_readFrom_131 rfl rfl ?_
      refine aw_iconst (n := 134) C dX5_readFrom_133 rfl ?_
      refine aw_iadd (n := 135) C dX5_readFrom_134 rfl ?_
      refine aw_iald (n := 136) C dX5_readFrom_135 rfl (sc hk) (by omega) (by omega) ?_
      refine aw_cSi (n := 139) (vs := [_]) C dX5_readFrom_136 rfl rfl rfl mm_X4_kindOf wM_X5_52 (Nat.le_of_ble_eq_true rfl) (c_kindOf hc1) (by decide) (fun z_136 S_136 q_136 => ?_)
      rw [q_136.1, q_136.2]
      clear q_136 S_136 z_136
      refine aw_iast (n := 140) C dX5_readFrom_139 rfl rfl (by omega) (by omega) ?_
      refine aw_aldn (n := 141) C dX5_readFrom_140 rfl rfl ?_
      refine aw_getR (n := 144) C dX5_readFrom_141 rfl fl_X5_28 rfl rfl ?_
      refine aw_ildw (n := 146) C dX5_readFrom_144 rfl rfl ?_
      refine aw_bipush (n := 148) C dX5_readFrom_146 rfl rfl ?_
      refine aw_aldn (n := 149) C dX5_readFrom_148 rfl rfl ?_
      refine aw_ildw (n := 151) C dX5_readFrom_149 rfl rfl ?_
      refine aw_iconst (n := 152) C dX5_readFrom_151 rfl ?_
      refine aw_iadd (n := 153) C dX5_readFrom_152 rfl ?_
      refine aw_iald (n := 154) C dX5_readFrom_153 rfl (sc hk) (by omega) (by omega) ?_
      rw [st2_c (show 6 + k ≠ 15 by omega)]
      refine aw_bipush (n := 156) C dX5_readFrom_154 rfl rfl ?_
      refine aw_isub (n := 157) C dX5_readFrom_156 rfl ?_
      refine aw_imul (n := 158) C dX5_readFrom_157 rfl ?_
      refine aw_aldn (n := 159) C dX5_readFrom_158 rfl rfl ?_
      refine aw_ildw (n := 161) C dX5_readFrom_159 rfl rfl ?_
      refine aw_iconst (n := 162) C dX5_readFrom_161 rfl ?_
      refine aw_iadd (n := 163) C dX5_readFrom_162 rfl ?_
      refine aw_iald (n := 164) C dX5_readFrom_163 rfl (sc hk) (by omega) (by omega) ?_
      rw [st2_c (show 6 + k ≠ 15 by omega)]
      refine aw_iadd (n := 165) C dX5_readFrom_164 rfl ?_
      refine aw_bipush (n := 167) C dX5_readFrom_165 rfl rfl ?_
      refine aw_isub (n := 168) C dX5_readFrom_167 rfl ?_
      refine aw_iast (n := 169) C dX5_readFrom_168 rfl rfl (by omega) (by omega) ?_
      refine aw_aldn (n := 170) C dX5_readFrom_169 rfl rfl ?_
      refine aw_getR (n := 173) C dX5_readFrom_170 rfl fl_X5_31 rfl rfl ?_
      refine aw_ildw (n := 175) C dX5_readFrom_173 rfl rfl ?_
      refine aw_aldn (n := 176) C dX5_readFrom_175 rfl rfl ?_
      refine aw_ildw (n := 178) C dX5_readFrom_176 rfl rfl ?_
      refine aw_iconst (n := 179) C dX5_readFrom_178 rfl ?_
      refine aw_iadd (n := 180) C dX5_readFrom_179 rfl ?_
      refine aw_iald (n := 181) C dX5_readFrom_180 rfl (sc hk) (by omega) (by omega) ?_
      rw [st2_c (show 6 + k ≠ 16 by omega), st2_c (show 6 + k ≠ 15 by omega)]
      refine aw_bipush (n := 183) C dX5_readFrom_181 rfl rfl ?_
      refine aw_isub (n := 184) C dX5_readFrom_183 rfl ?_
      refine aw_iast (n := 185) C dX5_readFrom_184 rfl rfl (by omega) (by omega) ?_
      refine aw_iinc (n := 188) (L' := [_, _, _, _, _, _]) C dX5_readFrom_185 rfl rfl (by decide) rfl rfl ?_
      refine aw_iinc (n := 191) (L' := [_, _, _, _, _, _]) C dX5_readFrom_188 rfl rfl (by decide) rfl rfl ?_
      refine aw_goto (tgt := 115) C dX5_readFrom_191 rfl ?_
      rw [x1, x2, x3, x4]
      refine ih (p + 1) (a + 5) _ (by omega) (by omega) ?_ ?_ ?_ ?_ ?_ ?_
      · exact fr_tr hf (fr_tr (fr_tr (fr_w (fr_st _ _ _ _) (by omega) (by omega)) (fr_w (fr_st _ _ _ _) (by omega) (by omega))) (fr_w (fr_st _ _ _ _) (by omega) (by omega)))
      · exact v8
      · exact v9
      · exact r1
      · exact r2
      · intro x x0 x1
        simp only [st2, Nat.reduceEqDiff, false_and, if_false, true_and]
        by_cases e : x = (p : Int)
        · rw [if_pos e, if_pos e, if_pos e, e]
          exact ⟨rfl, rfl, rfl⟩
        · rw [if_neg e, if_neg e, if_neg e]
          exact r3 x x0 (by omega)
theorem c_rd2 (hk : k < 4) (hi : 0 ≤ i) (hin : i + n ≤ 60) (hc : ∀ j, rng (S (6 + k) j)) (O : OKT (fun j => S (6 + k) (i + j)) n mc P) (C : CX X 1 RX5 cX5_readFrom 6) (hret : ∀ (pc : Nat) (L : List (Option AV)) (S' : Mem), decode cX5_readFrom pc = .ok (.return_, 1) → post S' → AW X cX5_readFrom 6 pc L [] S') (hp : ∀ S', RDL (fun j => S (6 + k) (i + j)) mc P S S' → post S') : ∀ (r m : Nat) (a : Int) (S1 : Mem), m + r = mc → a = i + 5 + m → fr 10 18 S S1 → S1 10 8 = m → rl1 (fun j => S (6 + k) (i + j)) 3 S1 → rl2 (fun j => S (6 + k) (i + j)) m S1 → AW X cX5_readFrom 6 43 [some (.inr (.inr 10)), some (.inr (.inr (6 + k))), some (.inl i), some (.inl n), some (.inl a), none] [] S1 := by
  obtain ⟨o1, o2, o3, o4, o5, o6⟩ := id O
  have k100 : ∀ (a : Int) (S1 : Mem), a = i + 5 + mc → fr 10 18 S S1 → S1 10 8 = mc → rl1 (fun j => S (6 + k) (i + j)) 3 S1 → rl2 (fun j => S (6 + k) (i + j)) mc S1 → AW X cX5_readFrom 6 100 [some (.inr (.inr 10)), some (.inr (.inr (6 + k))), some (.inl i), some (.inl n), some (.inl a), none] [] S1 := by
    intro a S1 ha hf v8 r1 r2
    refine aw_aldn (n := 101) C dX5_readFrom_100 rfl rfl ?_
    refine aw_ildn (n := 102) C dX5_readFrom_101 rfl rfl ?_
    refine aw_ildn (n := 103) C dX5_readFrom_102 rfl rfl ?_
    refine aw_iadd (n := 104) C dX5_readFrom_103 rfl ?_
    refine aw_ildw (n := 106) C dX5_readFrom_104 rfl rfl ?_
    refine aw_isub (n := 107) C dX5_readFrom_106 rfl ?_
    refine aw_iconst (n := 108) C dX5_readFrom_107 rfl ?_
    refine aw_idiv (n := 109) C dX5_readFrom_108 rfl (by omega) (by omega) ?_
    refine aw_put (z := 9) (n := 112) C dX5_readFrom_109 rfl fp_X5_43 rfl rfl rfl (Or.inl rfl) ?_
    refine aw_iconst (n := 113) C dX5_readFrom_112 rfl ?_
    refine aw_istw (n := 115) (L' := [_, _, _, _, _, _]) C dX5_readFrom_113 rfl (by decide) rfl rfl ?_
    refine c_rd3 hk hi hin hc O C hret hp P 0 a _ (by omega) (by omega) (fr_tr hf (fr_w (fr_st _ _ _ _) (by omega) (by omega))) v8 ?_ r1 r2 (fun x x0 x1 => by omega)
    rw [st2_s]
    omega
  intro r
  induction r with
  | zero =>
    intro m a S1 hmr ha hf v8 r1 r2
    obtain rfl : m = mc := by omega
    have g0 := (o6 0 (by omega)).1
    have hcell : S1 (6 + k) = S (6 + k) := hf (6 + k) (by omega)
    have x1 : S1 (6 + k) a = 44 := by rw [hcell, ← g0]; show S (6 + k) _ = S (6 + k) _; congr 1; omega
    refine aw_aldn (n := 44) C dX5_readFrom_43 rfl rfl ?_
    refine aw_getI (z := 8) (n := 47) C dX5_readFrom_44 rfl fl_X5_39 rfl rfl rfl ?_
    refine aw_bipush (n := 49) C dX5_readFrom_47 rfl rfl ?_
    refine aw_icge (tgt := 100) (n := 52) C dX5_readFrom_49 rfl rfl (by omega) (by omega) (fun h_49 => ?_) (fun h_49 => ?_)
    · exact k100 a S1 (by omega) hf v8 r1 r2
    · refine aw_aldn (n := 53) C dX5_readFrom_52 rfl rfl ?_
      refine aw_ildw (n := 55) C dX5_readFrom_53 rfl rfl ?_
      refine aw_iald (n := 56) C dX5_readFrom_55 rfl (sc hk) (by omega) (by omega) ?_
      refine aw_bipush (n := 58) C dX5_readFrom_56 rfl rfl ?_
      refine aw_iceq (tgt := 100) (n := 61) C dX5_readFrom_58 rfl rfl (by omega) (by omega) (fun h_58 => ?_) (fun h_58 => ?_)
      · exact k100 a S1 (by omega) hf v8 r1 r2
      · exact absurd x1 h_58
  | succ r ih =>
    intro m a S1 hmr ha hf v8 r1 r2
    have g0 := o5 m (by omega)
    have hcell : S1 (6 + k) = S (6 + k) := hf (6 + k) (by omega)
    have x1 : S1 (6 + k) a = (fun j => S (6 + k) (i + j)) (5 + m) := by rw [hcell]; show S (6 + k) _ = S (6 + k) _; congr 1; omega
    rw [← x1] at g0
    refine aw_aldn (n := 44) C dX5_readFrom_43 rfl rfl ?_
    refine aw_getI (z := 8) (n := 47) C dX5_readFrom_44 rfl fl_X5_39 rfl rfl rfl ?_
    refine aw_bipush (n := 49) C dX5_readFrom_47 rfl rfl ?_
    refine aw_icge (tgt := 100) (n := 52) C dX5_readFrom_49 rfl rfl (by omega) (by omega) (fun h_49 => ?_) (fun h_49 => ?_)
    · omega
    · refine aw_aldn (n := 53) C dX5_readFrom_52 rfl rfl ?_
      refine aw_ildw (n := 55) C dX5_readFrom_53 rfl rfl ?_
      refine aw_iald (n := 56) C dX5_readFrom_55 rfl (sc hk) (by omega) (by omega) ?_
      refine aw_bipush (n := 58) C dX5_readFrom_56 rfl rfl ?_
      refine aw_iceq (tgt := 100) (n := 61) C dX5_readFrom_58 rfl rfl (by omega) (by omega) (fun h_58 => ?_) (fun h_58 => ?_)
      · omega
      · refine aw_aldn (n := 62) C dX5_readFrom_61 rfl rfl ?_
        refine aw_getR (n := 65) C dX5_readFrom_62 rfl fl_X5_15 rfl rfl ?_
        refine aw_aldn (n := 66) C dX5_readFrom_65 rfl rfl ?_
        refine aw_getI (z := 8) (n := 69) C dX5_readFrom_66 rfl fl_X5_39 rfl rfl rfl ?_
        refine aw_aldn (n := 70) C dX5_readFrom_69 rfl rfl ?_
        refine aw_ildw (n := 72) C dX5_readFrom_70 rfl rfl ?_
        refine aw_iald (n := 73) C dX5_readFrom_72 rfl (sc hk) (by omega) (by omega) ?_
        refine aw_bipush (n := 75) C dX5_readFrom_73 rfl rfl ?_
        refine aw_icne (tgt := 82) (n := 78) C dX5_readFrom_75 rfl rfl (by omega) (by omega) (fun h_75 => ?_) (fun h_75 => ?_)
        · refine aw_iconst (n := 83) C dX5_readFrom_82 rfl ?_
          refine aw_zast (n := 84) C dX5_readFrom_83 rfl rfl (by omega) (by omega) (by omega) ?_
          refine aw_aldn (n := 85) C dX5_readFrom_84 rfl rfl ?_
          refine aw_dup (n := 86) C dX5_readFrom_85 rfl rfl ?_
          refine aw_getI (z := 8) (n := 89) C dX5_readFrom_86 rfl fl_X5_39 rfl rfl rfl ?_
          refine aw_iconst (n := 90) C dX5_readFrom_89 rfl ?_
          rw [show ∀ v, st2 S1 12 (S1 10 8) v 10 8 = S1 10 8 from fun v => rfl]
          refine aw_iadd (n := 91) C dX5_readFrom_90 rfl ?_
          refine aw_put (z := 8) (n := 94) C dX5_readFrom_91 rfl fp_X5_39 rfl rfl rfl (Or.inl rfl) ?_
          refine aw_iinc (n := 97) (L' := [_, _, _, _, _, _]) C dX5_readFrom_94 rfl rfl (by decide) rfl rfl ?_
          refine aw_goto (tgt := 43) C dX5_readFrom_97 rfl ?_
          refine ih (m + 1) (a + 1) _ (by omega) (by omega) (fr_tr hf (fr_tr (fr_w (fr_st _ _ _ _) (by omega) (by omega)) (fr_w (fr_st _ _ _ _) (by omega) (by omega)))) ?_ r1 ?_
          · rw [st2_s]; omega
          · intro x x0 x9
            simp only [st2, Nat.reduceEqDiff, false_and, if_false, true_and]
            by_cases e : x = S1 10 8
            · rw [if_pos e]
              unfold nTu
              rw [e, v8, ← x1]
              first | (rw [if_pos h_75]) | (rw [if_neg h_75])
            · rw [if_neg e]
              exact r2 x x0 (by omega)
        · refine aw_iconst (n := 79) C dX5_readFrom_78 rfl ?_
          refine aw_goto (tgt := 83) C dX5_readFrom_79 rfl ?_
          refine aw_zast (n := 84) C dX5_readFrom_83 rfl rfl (by omega) (by omega) (by omega) ?_
          refine aw_aldn (n := 85) C dX5_readFrom_84 rfl rfl ?_
          refine aw_dup (n := 86) C dX5_readFrom_85 rfl rfl ?_
          refine aw_getI (z := 8) (n := 89) C dX5_readFrom_86 rfl fl_X5_39 rfl rfl rfl ?_
          refine aw_iconst (n := 90) C dX5_readFrom_89 rfl ?_
          rw [show ∀ v, st2 S1 12 (S1 10 8) v 10 8 = S1 10 8 from fun v => rfl]
          refine aw_iadd (n := 91) C dX5_readFrom_90 rfl ?_
          refine aw_put (z := 8) (n := 94) C dX5_readFrom_91 rfl fp_X5_39 rfl rfl rfl (Or.inl rfl) ?_
          refine aw_iinc (n := 97) (L' := [_, _, _, _, _, _]) C dX5_readFrom_94 rfl rfl (by decide) rfl rfl ?_
          refine aw_goto (tgt := 43) C dX5_readFrom_97 rfl ?_
          refine ih (m + 1) (a + 1) _ (by omega) (by omega) (fr_tr hf (fr_tr (fr_w (fr_st _ _ _ _) (by omega) (by omega)) (fr_w (fr_st _ _ _ _) (by omega) (by omega)))) ?_ r1 ?_
          · rw [st2_s]; omega
          · intro x x0 x9
            simp only [st2, Nat.reduceEqDiff, false_and, if_false, true_and]
            by_cases e : x = S1 10 8
            · rw [if_pos e]
              unfold nTu
              rw [e, v8, ← x1]
              first | (rw [if_pos h_75]) | (rw [if_neg h_75])
            · rw [if_neg e]
              exact r2 x x0 (by omega)
theorem c_rd1 (hk : k < 4) (hi : 0 ≤ i) (hin : i + n ≤ 60) (hc : ∀ j, rng (S (6 + k) j)) (O : OKT (fun j => S (6 + k) (i + j)) n mc P) (C : CX X 1 RX5 cX5_readFrom 6) (hret : ∀ (pc : Nat) (L : List (Option AV)) (S' : Mem), decode cX5_readFrom pc = .ok (.return_, 1) → post S' → AW X cX5_readFrom 6 pc L [] S') (hp : ∀ S', RDL (fun j => S (6 + k) (i + j)) mc P S S' → post S') : ∀ (r c : Nat) (S1 : Mem), c + r = 3 → fr 10 18 S S1 → rl1 (fun j => S (6 + k) (i + j)) c S1 → AW X cX5_readFrom 6 3 [some (.inr (.inr 10)), some (.inr (.inr (6 + k))), some (.inl i), some (.inl n), some (.inl c), none] [] S1 := by
  obtain ⟨o1, o2, o3, o4, o5, o6⟩ := id O
  intro r
  induction r with
  | zero =>
    intro c S1 hcr hf r1
    obtain rfl : c = 3 := by omega
    refine aw_ildw (n := 5) C dX5_readFrom_3 rfl rfl ?_
    refine aw_iconst (n := 6) C dX5_readFrom_5 rfl ?_
    refine aw_icge (tgt := 33) (n := 9) C dX5_readFrom_6 rfl rfl (by omega) (by omega) (fun h_6 => ?_) (fun h_6 => ?_)
    · refine aw_ildn (n := 34) C dX5_readFrom_33 rfl rfl ?_
      refine aw_iconst (n := 35) C dX5_readFrom_34 rfl ?_
      refine aw_iadd (n := 36) C dX5_readFrom_35 rfl ?_
      refine aw_istw (n := 38) (L' := [_, _, _, _, _, _]) C dX5_readFrom_36 rfl (by decide) rfl rfl ?_
      refine aw_aldn (n := 39) C dX5_readFrom_38 rfl rfl ?_
      refine aw_iconst (n := 40) C dX5_readFrom_39 rfl ?_
      refine aw_put (z := 8) (n := 43) C dX5_readFrom_40 rfl fp_X5_39 rfl rfl rfl (Or.inl rfl) ?_
      exact c_rd2 hk hi hin hc O C hret hp mc 0 (i + 5) _ (by omega) (by omega) (fr_tr hf (fr_w (fr_st _ _ _ _) (by omega) (by omega))) (st2_s _ _ _ _) r1 (fun x x0 x1 => by omega)
    · omega
  | succ r ih =>
    intro c S1 hcr hf r1
    have hcell : S1 (6 + k) = S (6 + k) := hf (6 + k) (by omega)
    have x1 : S1 (6 + k) (i + 1 + c) = (fun j => S (6 + k) (i + j)) (1 + c) := by rw [hcell]; show S (6 + k) _ = S (6 + k) _; congr 1; omega
    refine aw_ildw (n := 5) C dX5_readFrom_3 rfl rfl ?_
    refine aw_iconst (n := 6) C dX5_readFrom_5 rfl ?_
    refine aw_icge (tgt := 33) (n := 9) C dX5_readFrom_6 rfl rfl (by omega) (by omega) (fun h_6 => ?_) (fun h_6 => ?_)
    · omega
    · refine aw_aldn (n := 10) C dX5_readFrom_9 rfl rfl ?_
      refine aw_getR (n := 13) C dX5_readFrom_10 rfl fl_X5_9 rfl rfl ?_
      refine aw_ildw (n := 15) C dX5_readFrom_13 rfl rfl ?_
      refine aw_aldn (n := 16) C dX5_readFrom_15 rfl rfl ?_
      refine aw_ildn (n := 17) C dX5_readFrom_16 rfl rfl ?_
      refine aw_iconst (n := 18) C dX5_readFrom_17 rfl ?_
      refine aw_iadd (n := 19) C dX5_readFrom_18 rfl ?_
      refine aw_ildw (n := 21) C dX5_readFrom_19 rfl rfl ?_
      refine aw_iadd (n := 22) C dX5_readFrom_21 rfl ?_
      refine aw_iald (n := 23) C dX5_readFrom_22 rfl (sc hk) (by omega) (by omega) ?_
      refine aw_bipush (n := 25) C dX5_readFrom_23 rfl rfl ?_
      refine aw_isub (n := 26) C dX5_readFrom_25 rfl ?_
      refine aw_iast (n := 27) C dX5_readFrom_26 rfl rfl (by omega) (by omega) ?_
      refine aw_iinc (n := 30) (L' := [_, _, _, _, _, _]) C dX5_readFrom_27 rfl rfl (by decide) rfl rfl ?_
      refine aw_goto (tgt := 3) C dX5_readFrom_30 rfl ?_
      rw [x1]
      refine ih (c + 1) _ (by omega) (fr_tr hf (fr_w (fr_st _ _ _ _) (by omega) (by omega))) (fun x x0 x1 => ?_)
      by_cases e : x = (c : Int)
      · rw [e, st2_s]; rfl
      · rw [st2_n e]
        exact r1 x x0 (by omega)
theorem c_readLine (hk : k < 4) (hi : 0 ≤ i) (hin : i + n ≤ 60) (hc : ∀ j, rng (S (6 + k) j)) (O : OKT (fun j => S (6 + k) (i + j)) n mc P) : AMv 1 yX5_readFrom cX5_readFrom 6 [.inr (.inr 10), .inr (.inr (6 + k)), .inl i, .inl n] S (RDL (fun j => S (6 + k) (i + j)) mc P S) := by
  refine amv_intro (L := [_, _, _, _, none, none]) (by decide) rfl (Nat.le_of_ble_eq_true rfl) (fun X C hret => ?_)
  refine aw_iconst (n := 1) C dX5_readFrom_0 rfl ?_
  refine aw_istw (n := 3) (L' := [_, _, _, _, _, _]) C dX5_readFrom_1 rfl (by decide) rfl rfl ?_
  exact c_rd1 hk hi hin hc O C hret (fun S' h => h) 3 0 S rfl (fr_rf _ _ _) (fun x x0 x1 => by omega)
end RDL
