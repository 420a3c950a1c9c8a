/-! the model: a line taken; line -/
/-- the line that the model takes from a text -/
def MLT (q : Fn) (mc P : Nat) (S S' : Mem) : Prop := (∀ c, c < 66 ∨ (67 ≤ c ∧ c < 70) ∨ 80 ≤ c → S' c = S c) ∧ (S' 66 0 = S 66 0 ∧ S' 66 1 = S 66 1) ∧ (S' 66 5 = mc ∧ S' 66 6 = P ∧ S' 66 7 = 20 ∧ S' 66 8 = 40 ∧ S' 66 26 = 0) ∧ (∀ x : Int, 0 ≤ x → x < 3 → S' 70 x = nSe q x) ∧ (∀ x : Int, 0 ≤ x → x < mc → S' 71 x = nTu q x) ∧ (∀ x : Int, 0 ≤ x → x < P → S' 74 x = nKd q mc x ∧ S' 75 x = nBg q mc x ∧ S' 76 x = nFd q mc x) ∧ (∀ m : Int, 0 ≤ m → m < 8 → S' 72 m = -9 ∧ S' 73 m = -9)
section MLK
variable {X : AMX} {S : Mem} {q : Fn} {mc P : Nat} {post : Mem → Prop}
/-- what a line that was read leaves -/
def RDD (q : Fn) (mc P : Nat) (S : Mem) : Prop := (1 ≤ mc ∧ mc ≤ 8) ∧ (1 ≤ P ∧ P ≤ 4) ∧ S 66 17 = mc ∧ S 66 18 = P ∧ E77 q 3 S ∧ E78 q mc S ∧ E79 q mc P S
theorem d_tk3 (R : RDD q mc P S) (C : CX X 0 RX7 cX7_takeLine 2) (hret : ∀ (pc : Nat) (L : List (Option AV)) (S' : Mem), decode cX7_takeLine pc = .ok (.return_, 1) → post S' → AW X cX7_takeLine 2 pc L [] S') (hp : ∀ S', MLT q mc P S S' → post S') : ∀ (r p : Nat) (S1 : Mem), p + r = P → (∀ c, c < 66 ∨ (67 ≤ c ∧ c < 70) ∨ 77 ≤ c → S1 c = S c) → (S1 66 0 = S 66 0 ∧ S1 66 1 = S 66 1 ∧ S1 66 5 = mc ∧ S1 66 6 = P) → (∀ x : Int, 0 ≤ x → x < 3 → S1 70 x = nSe q x) → (∀ x : Int, 0 ≤ x → x < mc → S1 71 x = nTu q x) → (∀ m : Int, 0 ≤ m → m < 8 → S1 72 m = -9 ∧ S1 73 m = -9) → (∀ x : Int, 0 ≤ x → x < p → S1 74 x = nKd q mc x ∧ S1 75 x = nBg q mc x ∧ S1 76 x = nFd q mc x) → AW X cX7_takeLine 2 101 [some (.inr (.inr 66)), some (.inl p)] [] S1 := by
  obtain ⟨r1, r2, r3, r4, r5, r6, r7⟩ := R
  intro r
  induction r with
  | zero =>
    intro p S1 hpr hf hk h70 h71 h72 h74
    obtain rfl : p = P := by omega
    refine aw_ildn (n := 102) C dX7_takeLine_101 rfl rfl ?_
    refine aw_aldn (n := 103) C dX7_takeLine_102 rfl rfl ?_
    refine aw_getI (z := 6) (n := 106) C dX7_takeLine_103 rfl fl_X7_81 rfl rfl rfl ?_
    rw [hk.2.2.2]
    refine aw_icge (tgt := 161) (n := 109) C dX7_takeLine_106 rfl rfl (by omega) (by omega) (fun h_106 => ?_) (fun h_106 => ?_)
    · refine aw_aldn (n := 162) C dX7_takeLine_161 rfl rfl ?_
      refine aw_bipush (n := 164) C dX7_takeLine_162 rfl rfl ?_
      refine aw_put (z := 7) (n := 167) C dX7_takeLine_164 rfl fp_X7_117 rfl rfl rfl (Or.inl rfl) ?_
      refine aw_aldn (n := 168) C dX7_takeLine_167 rfl rfl ?_
      refine aw_bipush (n := 170) C dX7_takeLine_168 rfl rfl ?_
      refine aw_put (z := 8) (n := 173) C dX7_takeLine_170 rfl fp_X7_120 rfl rfl rfl (Or.inl rfl) ?_
      refine aw_aldn (n := 174) C dX7_takeLine_173 rfl rfl ?_
      refine aw_iconst (n := 175) C dX7_takeLine_174 rfl ?_
      refine aw_put (z := 26) (n := 178) C dX7_takeLine_175 rfl fp_X7_123 rfl rfl rfl (Or.inl rfl) ?_
      refine hret 178 _ _ dX7_takeLine_178 ?_
      exact hp _ ⟨fun c hc => by rw [st2_o c (by omega), st2_o c (by omega), st2_o c (by omega), hf c (by omega)], ⟨hk.1, hk.2.1⟩, ⟨hk.2.2.1, hk.2.2.2, rfl, rfl, rfl⟩, h70, h71, h74, h72⟩
    · omega
  | succ r ih =>
    intro p S1 hpr hf hk h70 h71 h72 h74
    obtain ⟨v1, v2, v3⟩ := r7 p (by omega) (by omega)
    have e79 : S1 79 = S 79 := hf 79 (by omega)
    refine aw_ildn (n := 102) C dX7_takeLine_101 rfl rfl ?_
    refine aw_aldn (n := 103) C dX7_takeLine_102 rfl rfl ?_
    refine aw_getI (z := 6) (n := 106) C dX7_takeLine_103 rfl fl_X7_81 rfl rfl rfl ?_
    rw [hk.2.2.2]
    refine aw_icge (tgt := 161) (n := 109) C dX7_takeLine_106 rfl rfl (by omega) (by omega) (fun h_106 => ?_) (fun h_106 => ?_)
    · omega
    · refine aw_aldn (n := 110) C dX7_takeLine_109 rfl rfl ?_
      refine aw_getR (n := 113) C dX7_takeLine_110 rfl fl_X7_32 rfl rfl ?_
      refine aw_ildn (n := 114) C dX7_takeLine_113 rfl rfl ?_
      refine aw_aldn (n := 115) C dX7_takeLine_114 rfl rfl ?_
      refine aw_getR (n := 118) C dX7_takeLine_115 rfl fl_X7_47 rfl rfl ?_
      refine aw_iconst (n := 119) C dX7_takeLine_118 rfl ?_
      refine aw_ildn (n := 120) C dX7_takeLine_119 rfl rfl ?_
      refine aw_imul (n := 121) C dX7_takeLine_120 rfl ?_
      refine aw_iald (n := 122) C dX7_takeLine_121 rfl rfl (by omega) (by omega) ?_
      refine aw_iast (n := 123) C dX7_takeLine_122 rfl rfl (by omega) (by omega) ?_
      refine aw_aldn (n := 124) C dX7_takeLine_123 rfl rfl ?_
      refine aw_getR (n := 127) C dX7_takeLine_124 rfl fl_X7_35 rfl rfl ?_
      refine aw_ildn (n := 128) C dX7_takeLine_127 rfl rfl ?_
      refine aw_aldn (n := 129) C dX7_takeLine_128 rfl rfl ?_
      refine aw_getR (n := 132) C dX7_takeLine_129 rfl fl_X7_47 rfl rfl ?_
      refine aw_iconst (n := 133) C dX7_takeLine_132 rfl ?_
      refine aw_ildn (n := 134) C dX7_takeLine_133 rfl rfl ?_
      refine aw_imul (n := 135) C dX7_takeLine_134 rfl ?_
      refine aw_iconst (n := 136) C dX7_takeLine_135 rfl ?_
      refine aw_iadd (n := 137) C dX7_takeLine_136 rfl ?_
      refine aw_iald (n := 138) C dX7_takeLine_137 rfl rfl (by omega) (by omega) ?_
      refine aw_iast (n := 139) C dX7_takeLine_138 rfl rfl (by omega) (by omega) ?_
      refine aw_aldn (n := 140) C dX7_takeLine_139 rfl rfl ?_
      refine aw_getR (n := 143) C dX7_takeLine_140 rfl fl_X7_38 rfl rfl ?_
      refine aw_ildn (n := 144) C dX7_takeLine_143 rfl rfl ?_
      refine aw_aldn (n := 145) C dX7_takeLine_144 rfl rfl ?_
      refine aw_getR (n := 148) C dX7_takeLine_145 rfl fl_X7_47 rfl rfl ?_
      refine aw_iconst (n := 149) C dX7_takeLine_148 rfl ?_
      refine aw_ildn (n := 150) C dX7_takeLine_149 rfl rfl ?_
      refine aw_imul (n := 151) C dX7_takeLine_150 rfl ?_
      refine aw_iconst (n := 152) C dX7_takeLine_151 rfl ?_
      refine aw_iadd (n := 153) C dX7_takeLine_152 rfl ?_
      refine aw_iald (n := 154) C dX7_takeLine_153 rfl rfl (by omega) (by omega) ?_
      refine aw_iast (n := 155) C dX7_takeLine_154 rfl rfl (by omega) (by omega) ?_
      refine aw_iinc (n := 158) (L' := [_, _]) C dX7_takeLine_155 rfl rfl (by decide) rfl rfl ?_
      refine aw_goto (tgt := 101) C dX7_takeLine_158 rfl ?_
      refine ih (p + 1) _ (by omega) (fun c hc => ?_) hk h70 h71 h72 (fun x x0 x1 => ?_)
      · rw [st2_o c (by omega), st2_o c (by omega), st2_o c (by omega), hf c hc]
      · by_cases e : x = p
        · subst e
          refine ⟨?_, ?_, ?_⟩
          · rw [st2_o 74 (by decide), st2_o 74 (by decide), st2_s, e79]
            exact v1
          · rw [st2_o 75 (by decide), st2_s, st2_o 79 (by decide), e79]
            exact v2
          · rw [st2_s, st2_o 79 (by decide), st2_o 79 (by decide), e79]
            exact v3
        · refine ⟨?_, ?_, ?_⟩
          · rw [st2_o 74 (by decide), st2_o 74 (by decide), st2_n e]; exact (h74 x x0 (by omega)).1
          · rw [st2_o 75 (by decide), st2_n e, st2_o 75 (by decide)]; exact (h74 x x0 (by omega)).2.1
          · rw [st2_n e, st2_o 76 (by decide), st2_o 76 (by decide)]; exact (h74 x x0 (by omega)).2.2
theorem d_tk2 (R : RDD q mc P S) (C : CX X 0 RX7 cX7_takeLine 2) (hret : ∀ (pc : Nat) (L : List (Option AV)) (S' : Mem), decode cX7_takeLine pc = .ok (.return_, 1) → post S' → AW X cX7_takeLine 2 pc L [] S') (hp : ∀ S', MLT q mc P S S' → post S') : ∀ (r m : Nat) (S1 : Mem), m + r = 8 → (∀ c, c < 66 ∨ (67 ≤ c ∧ c < 70) ∨ 77 ≤ c → S1 c = S c) → (S1 66 0 = S 66 0 ∧ S1 66 1 = S 66 1 ∧ S1 66 5 = mc ∧ S1 66 18 = P) → (∀ x : Int, 0 ≤ x → x < 3 → S1 70 x = nSe q x) → (∀ x : Int, 0 ≤ x → x < mc → x < m → S1 71 x = nTu q x) → (∀ x : Int, 0 ≤ x → x < (m : Int) → S1 72 x = -9 ∧ S1 73 x = -9) → AW X cX7_takeLine 2 35 [some (.inr (.inr 66)), some (.inl m)] [] S1 := by
  obtain ⟨r1, r2, r3, r4, r5, r6, r7⟩ := id R
  intro r
  induction r with
  | zero =>
    intro m S1 hmr hf hk h70 h71 h72
    obtain rfl : m = 8 := by omega
    refine aw_ildn (n := 36) C dX7_takeLine_35 rfl rfl ?_
    refine aw_bipush (n := 38) C dX7_takeLine_36 rfl rfl ?_
    refine aw_icge (tgt := 91) (n := 41) C dX7_takeLine_38 rfl rfl (by omega) (by omega) (fun h_38 => ?_) (fun h_38 => ?_)
    · refine aw_aldn (n := 92) C dX7_takeLine_91 rfl rfl ?_
      refine aw_aldn (n := 93) C dX7_takeLine_92 rfl rfl ?_
      refine aw_getI (z := 18) (n := 96) C dX7_takeLine_93 rfl fl_X7_114 rfl rfl rfl ?_
      rw [hk.2.2.2]
      refine aw_put (z := 6) (n := 99) C dX7_takeLine_96 rfl fp_X7_81 rfl rfl rfl (Or.inl rfl) ?_
      refine aw_iconst (n := 100) C dX7_takeLine_99 rfl ?_
      refine aw_istn (n := 101) (L' := [_, _]) C dX7_takeLine_100 rfl (by decide) rfl rfl ?_
      exact d_tk3 R C hret hp P 0 _ (by omega) (fun c hc => by rw [st2_o c (by omega), hf c hc]) ⟨hk.1, hk.2.1, hk.2.2.1, rfl⟩ h70 (fun x x0 x1 => h71 x x0 x1 (by omega)) h72 (fun x x0 x1 => by omega)
    · omega
  | succ r ih =>
    intro m S1 hmr hf hk h70 h71 h72
    have e78 : S1 78 = S 78 := hf 78 (by omega)
    have hz : (m : Int) < mc → (S 78 m = 0 ∨ S 78 m = 1) ∧ S 78 m = nTu q m := fun hm => by
      have := r6 m (by omega) hm
      refine ⟨?_, this⟩
      rw [this]
      unfold nTu
      split <;> omega
    have L69 : ∀ v : Int, ((m : Int) < mc → v = nTu q m) → AW X cX7_takeLine 2 69 [some (.inr (.inr 66)), some (.inl m)] [] (st2 S1 71 m v) := by
      intro v hv
      refine aw_aldn (n := 70) C dX7_takeLine_69 rfl rfl ?_
      refine aw_getR (n := 73) C dX7_takeLine_70 rfl fl_X7_26 rfl rfl ?_
      refine aw_ildn (n := 74) C dX7_takeLine_73 rfl rfl ?_
      refine aw_bipush (n := 76) C dX7_takeLine_74 rfl rfl ?_
      refine aw_iast (n := 77) C dX7_takeLine_76 rfl rfl (by omega) (by omega) ?_
      refine aw_aldn (n := 78) C dX7_takeLine_77 rfl rfl ?_
      refine aw_getR (n := 81) C dX7_takeLine_78 rfl fl_X7_29 rfl rfl ?_
      refine aw_ildn (n := 82) C dX7_takeLine_81 rfl rfl ?_
      refine aw_bipush (n := 84) C dX7_takeLine_82 rfl rfl ?_
      refine aw_iast (n := 85) C dX7_takeLine_84 rfl rfl (by omega) (by omega) ?_
      refine aw_iinc (n := 88) (L' := [_, _]) C dX7_takeLine_85 rfl rfl (by decide) rfl rfl ?_
      refine aw_goto (tgt := 35) C dX7_takeLine_88 rfl ?_
      refine ih (m + 1) _ (by omega) (fun c hc => ?_) hk h70 (fun x x0 x1 x2 => ?_) (fun x x0 x1 => ?_)
      · rw [st2_o c (by omega), st2_o c (by omega), st2_o c (by omega), hf c hc]
      · rw [st2_o 71 (by decide), st2_o 71 (by decide)]
        by_cases e : x = m
        · subst e; rw [st2_s]; exact hv x1
        · rw [st2_n e]; exact h71 x x0 x1 (by omega)
      · by_cases e : x = m
        · subst e; exact ⟨by rw [st2_o 72 (by decide), st2_s], by rw [st2_s]⟩
        · rw [st2_o 72 (by decide), st2_n e, st2_o 72 (by decide), st2_n e, st2_o 73 (by decide), st2_o 73 (by decide)]; exact h72 x x0 (by omega)
    refine aw_ildn (n := 36) C dX7_takeLine_35 rfl rfl ?_
    refine aw_bipush (n := 38) C dX7_takeLine_36 rfl rfl ?_
    refine aw_icge (tgt := 91) (n := 41) C dX7_takeLine_38 rfl rfl (by omega) (by omega) (fun h_38 => ?_) (fun h_38 => ?_)
    · omega
    · refine aw_aldn (n := 42) C dX7_takeLine_41 rfl rfl ?_
      refine aw_getR (n := 45) C dX7_takeLine_42 rfl fl_X7_22 rfl rfl ?_
      refine aw_ildn (n := 46) C dX7_takeLine_45 rfl rfl ?_
      refine aw_ildn (n := 47) C dX7_takeLine_46 rfl rfl ?_
      refine aw_aldn (n := 48) C dX7_takeLine_47 rfl rfl ?_
      refine aw_getI (z := 5) (n := 51) C dX7_takeLine_48 rfl fl_X7_84 rfl rfl rfl ?_
      rw [hk.2.2.1]
      refine aw_icge (tgt := 67) (n := 54) C dX7_takeLine_51 rfl rfl (by omega) (by omega) (fun h_51 => ?_) (fun h_51 => ?_)
      · refine aw_iconst (n := 68) C dX7_takeLine_67 rfl ?_
        refine aw_zast (n := 69) C dX7_takeLine_68 rfl rfl (by omega) (by omega) (by omega) ?_
        refine L69 _ (fun hm => ?_)
        have := hz hm
        omega
      · have hz2 := hz h_51
        refine aw_aldn (n := 55) C dX7_takeLine_54 rfl rfl ?_
        refine aw_getR (n := 58) C dX7_takeLine_55 rfl fl_X7_44 rfl rfl ?_
        refine aw_ildn (n := 59) C dX7_takeLine_58 rfl rfl ?_
        refine aw_zald (n := 60) C dX7_takeLine_59 rfl rfl (by omega) (by omega) ?_
        rw [e78]
        refine aw_ifeq (tgt := 67) (n := 63) C dX7_takeLine_60 rfl rfl (by omega) (fun h_60 => ?_) (fun h_60 => ?_)
        · refine aw_iconst (n := 68) C dX7_takeLine_67 rfl ?_
          refine aw_zast (n := 69) C dX7_takeLine_68 rfl rfl (by omega) (by omega) (by omega) ?_
          refine L69 _ (fun hm => ?_)
          have := hz hm
          omega
        · refine aw_iconst (n := 64) C dX7_takeLine_63 rfl ?_
          refine aw_goto (tgt := 68) C dX7_takeLine_64 rfl ?_
          refine aw_zast (n := 69) C dX7_takeLine_68 rfl rfl (by omega) (by omega) (by omega) ?_
          refine L69 _ (fun hm => ?_)
          have := hz hm
          omega
theorem d_takeLine (R : RDD q mc P S) : AMv 0 yX7_takeLine cX7_takeLine 2 [.inr (.inr 66)] S (fun S' => MLT q mc P S S') := by
  obtain ⟨r1, r2, r3, r4, r5, r6, r7⟩ := id R
  have L1 : ∀ {X : AMX} (C : CX X 0 RX7 cX7_takeLine 2) (hret : ∀ (pc : Nat) (L : List (Option AV)) (S' : Mem), decode cX7_takeLine pc = .ok (.return_, 1) → MLT q mc P S S' → AW X cX7_takeLine 2 pc L [] S'), ∀ (r c : Nat) (S1 : Mem), c + r = 3 → (∀ c, c < 70 ∨ 71 ≤ c → S1 c = S c) → (∀ x : Int, 0 ≤ x → x < (c : Int) → S1 70 x = nSe q x) → AW X cX7_takeLine 2 2 [some (.inr (.inr 66)), some (.inl c)] [] S1 := by
    intro X C hret r
    induction r with
    | zero =>
      intro c S1 hcr hf h70
      have e66 := hf 66 (by omega)
      have e17 : S1 66 17 = mc := by rw [e66]; exact r3
      refine aw_ildn (n := 3) C dX7_takeLine_2 rfl rfl ?_
      refine aw_iconst (n := 4) C dX7_takeLine_3 rfl ?_
      refine aw_icge (tgt := 25) (n := 7) C dX7_takeLine_4 rfl rfl (by omega) (by omega) (fun h_4 => ?_) (fun h_4 => ?_)
      · refine aw_aldn (n := 26) C dX7_takeLine_25 rfl rfl ?_
        refine aw_aldn (n := 27) C dX7_takeLine_26 rfl rfl ?_
        refine aw_getI (z := 17) (n := 30) C dX7_takeLine_27 rfl fl_X7_111 rfl rfl rfl ?_
        rw [e17]
        refine aw_put (z := 5) (n := 33) C dX7_takeLine_30 rfl fp_X7_84 rfl rfl rfl (Or.inl rfl) ?_
        refine aw_iconst (n := 34) C dX7_takeLine_33 rfl ?_
        refine aw_istn (n := 35) (L' := [_, _]) C dX7_takeLine_34 rfl (by decide) rfl rfl ?_
        exact d_tk2 R C hret (fun S' h => h) 8 0 _ rfl (fun c hc => by rw [st2_o c (by omega), hf c (by omega)]) ⟨by rw [← e66]; rfl, by rw [← e66]; rfl, rfl, by rw [← r4, ← e66]; rfl⟩ (fun x x0 x1 => h70 x x0 (by omega)) (fun x x0 _ x1 => by omega) (fun x x0 x1 => by omega)
      · omega
    | succ r ih =>
      intro c S1 hcr hf h70
      refine aw_ildn (n := 3) C dX7_takeLine_2 rfl rfl ?_
      refine aw_iconst (n := 4) C dX7_takeLine_3 rfl ?_
      refine aw_icge (tgt := 25) (n := 7) C dX7_takeLine_4 rfl rfl (by omega) (by omega) (fun h_4 => ?_) (fun h_4 => ?_)
      · omega
      · refine aw_aldn (n := 8) C dX7_takeLine_7 rfl rfl ?_
        refine aw_getR (n := 11) C dX7_takeLine_8 rfl fl_X7_19 rfl rfl ?_
        refine aw_ildn (n := 12) C dX7_takeLine_11 rfl rfl ?_
        refine aw_aldn (n := 13) C dX7_takeLine_12 rfl rfl ?_
        refine aw_getR (n := 16) C dX7_takeLine_13 rfl fl_X7_41 rfl rfl ?_
        refine aw_ildn (n := 17) C dX7_takeLine_16 rfl rfl ?_
        refine aw_iald (n := 18) C dX7_takeLine_17 rfl rfl (by omega) (by omega) ?_
        refine aw_iast (n := 19) C dX7_takeLine_18 rfl rfl (by omega) (by omega) ?_
        refine aw_iinc (n := 22) (L' := [_, _]) C dX7_takeLine_19 rfl rfl (by decide) rfl rfl ?_
        refine aw_goto (tgt := 2) C dX7_takeLine_22 rfl ?_
        refine ih (c + 1) _ (by omega) (fun d hd => by rw [st2_o d (by omega), hf d hd]) (fun x x0 x1 => ?_)
        by_cases e : x = c
        · subst e; rw [st2_s, hf 77 (by omega)]; exact r5 _ x0 (by omega)
        · rw [st2_n e]; exact h70 x x0 (by omega)
  refine amv_intro (L := [_, none]) (by decide) rfl (Nat.le_of_ble_eq_true rfl) (fun X C hret => ?_)
  refine aw_iconst (n := 1) C dX7_takeLine_0 rfl ?_
  refine aw_istn (n := 2) (L' := [_, _]) C dX7_takeLine_1 rfl (by decide) rfl rfl ?_
  exact L1 C hret 3 0 S rfl (fun _ _ => rfl) (fun x x0 x1 => by omega)
end MLK
theorem m_line {S : Mem} {k t i n : Int} (hk : rng k) (ht : rng t) (hi : rng i) (hn : rng n) (H : MH S) : AMi 4 yX7_line cX7_line 7 (some .int) [.inr (.inr 66), .inl k, .inl t, .inl i, .inl n] S (fun z S' => (if k < 0 ∨ 4 ≤ k then z = -1 ∧ S' = st2 S 66 0 0 else if t < 0 ∨ 3 ≤ t then z = -2 ∧ S' = st2 S 66 0 0 else if fMs (S 67 k) (S 68 k) t i n ≠ 0 then z = -10 - fMs (S 67 k) (S 68 k) t i n ∧ S' = st2 S 66 0 (fMs (S 67 k) (S 68 k) t i n) else if ff (mq S (60 * k + i)) n ≠ -1 then z = -100 - ff (mq S (60 * k + i)) n ∧ FRL (st2 S 66 0 0) S' else ∃ (mc P : Nat), OKT (mq S (60 * k + i)) n mc P ∧ MLT (mq S (60 * k + i)) mc P (st2 S 66 0 0) S' ∧ z = P)) := by
  refine ami_intro (L := [_, _, _, _, _, none, none]) (by decide) (Or.inl rfl) rfl (Nat.le_of_ble_eq_true rfl) (fun X C hret => ?_)
  refine aw_aldn (n := 1) C dX7_line_0 rfl rfl ?_
  refine aw_iconst (n := 2) C dX7_line_1 rfl ?_
  refine aw_put (z := 0) (n := 5) C dX7_line_2 rfl fp_X7_71 rfl rfl rfl (Or.inl rfl) ?_
  refine aw_ildn (n := 6) C dX7_line_5 rfl rfl ?_
  refine aw_cSi (n := 9) (vs := [_]) C dX7_line_6 rfl rfl rfl mm_X7_isSheet wM_X7_90 (Nat.le_of_ble_eq_true rfl) (d_isSheet hk) (by decide) (fun z_6 S_6 q_6 => ?_)
  rw [q_6.1, q_6.2]
  clear q_6 S_6 z_6
  refine aw_ifne (tgt := 14) (n := 12) C dX7_line_9 rfl rfl (by omega) (fun h_9 => ?_) (fun h_9 => ?_)
  · refine aw_ildn (n := 15) C dX7_line_14 rfl rfl ?_
    refine aw_cSi (n := 18) (vs := [_]) C dX7_line_15 rfl rfl rfl mm_X7_isSort wM_X7_94 (Nat.le_of_ble_eq_true rfl) (d_isSort ht) (by decide) (fun z_15 S_15 q_15 => ?_)
    rw [q_15.1, q_15.2]
    clear q_15 S_15 z_15
    refine aw_ifne (tgt := 24) (n := 21) C dX7_line_18 rfl rfl (by omega) (fun h_18 => ?_) (fun h_18 => ?_)
    · refine aw_aldn (n := 25) C dX7_line_24 rfl rfl ?_
      refine aw_ildn (n := 26) C dX7_line_25 rfl rfl ?_
      refine aw_ildn (n := 27) C dX7_line_26 rfl rfl ?_
      refine aw_ildn (n := 28) C dX7_line_27 rfl rfl ?_
      refine aw_ildw (n := 30) C dX7_line_28 rfl rfl ?_
      have hfr := fMs_r (S 67 k) (S 68 k) t i n
      have hk2 := H.1 k (by omega) (by omega)
      refine aw_cVi (n := 33) (vs := [_, _, _, _]) C dX7_line_30 rfl rfl rfl mm_X7_against wM_X7_97 rfl rfl (Nat.le_of_ble_eq_true rfl) (d_against (S := st2 S 66 0 0) H (by omega) (by omega) ht hi hn) (by decide) (fun z_30 S_30 q_30 => ?_)
      obtain ⟨qa, qb⟩ := q_30
      have qa2 : z_30 = fMs (S 67 k) (S 68 k) t i n := qa
      rw [qb]
      clear qa
      generalize hF : fMs (S 67 k) (S 68 k) t i n = F at *
      subst qa2
      refine aw_istw (n := 35) (L' := [_, _, _, _, _, _, _]) C dX7_line_33 rfl (by decide) rfl rfl ?_
      refine aw_ildw (n := 37) C dX7_line_35 rfl rfl ?_
      refine aw_ifeq (tgt := 47) (n := 40) C dX7_line_37 rfl rfl (by omega) (fun h_37 => ?_) (fun h_37 => ?_)
      · subst h_37
        obtain ⟨f1, f2, f3, f4, f5⟩ := fMs_0 hF
        refine aw_bipush (n := 49) C dX7_line_47 rfl rfl ?_
        refine aw_ildn (n := 50) C dX7_line_49 rfl rfl ?_
        refine aw_imul (n := 51) C dX7_line_50 rfl ?_
        refine aw_ildn (n := 52) C dX7_line_51 rfl rfl ?_
        refine aw_iadd (n := 53) C dX7_line_52 rfl ?_
        refine aw_istw (n := 55) (L' := [_, _, _, _, _, _, _]) C dX7_line_53 rfl (by decide) rfl rfl ?_
        refine aw_aldn (n := 56) C dX7_line_55 rfl rfl ?_
        refine aw_ildw (n := 58) C dX7_line_56 rfl rfl ?_
        refine aw_put (z := 16) (n := 61) C dX7_line_58 rfl fp_X7_87 rfl rfl rfl (Or.inl rfl) ?_
        refine aw_aldn (n := 62) C dX7_line_61 rfl rfl ?_
        refine aw_ildw (n := 64) C dX7_line_62 rfl rfl ?_
        refine aw_ildw (n := 66) C dX7_line_64 rfl rfl ?_
        refine aw_iadd (n := 67) C dX7_line_66 rfl ?_
        refine aw_cVi (n := 70) (vs := [_]) C dX7_line_67 rfl rfl rfl mm_X7_readLine wM_X7_105 rfl rfl (Nat.le_of_ble_eq_true rfl) (d_readLine (S := st2 (st2 S 66 0 0) 66 16 (60 * k + i)) (q := mq S (60 * k + i)) (b := 60 * k + i) (n := n) (fun x => rfl) (by omega) f3 (by omega) H.2 rfl) (by decide) (fun z_67 S_67 q_67 => ?_)
        obtain ⟨k1, k2⟩ := q_67
        have k3 : FRL (st2 S 66 0 0) S_67 := FRL_tr (FRL_f (Or.inl rfl)) k1
        have hzr : z_67 = 0 ∨ z_67 = 1 := k2.elim (fun h => Or.inl h.1) (fun h => Or.inr h.1)
        have hffr := ff_r (mq S (60 * k + i)) n
        generalize hG : ff (mq S (60 * k + i)) n = G at *
        refine aw_ifne (tgt := 84) (n := 73) C dX7_line_70 rfl rfl (by omega) (fun h_70 => ?_) (fun h_70 => ?_)
        · obtain ⟨y1, y2, mc, p, m1, m2, m3, m4, m5, m6, m7, m8, m9⟩ := k2.resolve_left (fun hh => h_70 hh.1)
          clear k2
          obtain ⟨mc', P', O, o2⟩ := ff_ok (hG.trans y2)
          obtain rfl : mc' = mc := by omega
          obtain rfl : P' = p := by have := O.2.2.1; omega
          refine aw_aldn (n := 85) C dX7_line_84 rfl rfl ?_
          refine aw_cVv (n := 88) (vs := []) C dX7_line_85 rfl rfl rfl mm_X7_takeLine wM_X7_108 rfl rfl (Nat.le_of_ble_eq_true rfl) (d_takeLine (S := S_67) ⟨m2, m3, m5, m6, m7, m8, m9⟩) (by decide) (fun S_85 q_85 => ?_)
          skip
          refine aw_aldn (n := 89) C dX7_line_88 rfl rfl ?_
          refine aw_getI (z := 6) (n := 92) C dX7_line_89 rfl fl_X7_81 rfl rfl rfl ?_
          refine hret 92 _ _ _ dX7_line_92 (Or.inl rfl) ?_
          rw [if_neg (by omega), if_neg (by omega), if_neg (by omega), if_neg (by omega)]
          obtain ⟨l1, l2, l3, l4, l5, l6, l7⟩ := q_85
          refine ⟨mc', P', O, ⟨fun c hc => ?_, ⟨?_, ?_⟩, l3, l4, l5, l6, l7⟩, l3.2.1⟩
          · rw [l1 c hc, k3.1 c (by omega) (by omega)]
          · rw [l2.1, k3.2 0 (by decide) (by decide) (by decide)]
          · rw [l2.2, k3.2 1 (by decide) (by decide) (by decide)]
        · obtain ⟨y1, y2, y3⟩ := k2.resolve_right (fun hh => by have := hh.1; clear k2; omega)
          clear k2
          refine aw_bipush (n := 75) C dX7_line_73 rfl rfl ?_
          refine aw_aldn (n := 76) C dX7_line_75 rfl rfl ?_
          refine aw_getI (z := 16) (n := 79) C dX7_line_76 rfl fl_X7_87 rfl rfl rfl ?_
          rw [y3]
          refine aw_ildw (n := 81) C dX7_line_79 rfl rfl ?_
          refine aw_isub (n := 82) C dX7_line_81 rfl ?_
          refine aw_isub (n := 83) C dX7_line_82 rfl ?_
          refine hret 83 _ _ _ dX7_line_83 (Or.inl rfl) ?_
          rw [if_neg (by omega), if_neg (by omega), if_neg (by omega), if_pos (by omega)]
          exact ⟨by omega, k3⟩
      · refine aw_aldn (n := 41) C dX7_line_40 rfl rfl ?_
        refine aw_ildw (n := 43) C dX7_line_41 rfl rfl ?_
        refine aw_cVi (n := 46) (vs := [_]) C dX7_line_43 rfl rfl rfl mm_X7_fails wM_X7_101 rfl rfl (Nat.le_of_ble_eq_true rfl) (d_fails) (by decide) (fun z_43 S_43 q_43 => ?_)
        rw [q_43.1, q_43.2]
        clear q_43 S_43 z_43
        refine hret 46 _ _ _ dX7_line_46 (Or.inl rfl) ?_
        rw [if_neg (by omega), if_neg (by omega), if_pos (by omega), st2_st2]
        exact ⟨rfl, rfl⟩
    · refine aw_bipush (n := 23) C dX7_line_21 rfl rfl ?_
      refine hret 23 _ _ _ dX7_line_23 (Or.inl rfl) ?_
      rw [if_neg (by omega), if_pos (by omega)]
      exact ⟨rfl, rfl⟩
  · refine aw_iconst (n := 13) C dX7_line_12 rfl ?_
    refine hret 13 _ _ _ dX7_line_13 (Or.inl rfl) ?_
    rw [if_pos (by omega)]
    exact ⟨rfl, rfl⟩
