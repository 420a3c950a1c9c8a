/-! the model: a line read and taken -/
section MLJ
variable {X : AMX} {S : Mem} {b n : Int}
theorem d_rl2 {post : Int → Mem → Prop} {q : Fn} {x : Option AV} (hq : ∀ x : Int, q x = S 69 (b + x)) (hb : 0 ≤ b) (hn : 0 ≤ n) (hbn : b + n ≤ 240) (hc : ∀ j, rng (S 69 j)) (C : CX X 3 RX7 cX7_readLine 3) (hret : ∀ (pc : Nat) (L : List (Option AV)) (z : Int) (S' : Mem), decode cX7_readLine pc = .ok (.ireturn, 1) → ((some FieldType.boolean) = some .int ∨ ((some FieldType.boolean) = some .boolean ∧ (z = 0 ∨ z = 1))) → post z S' → AW X cX7_readLine 3 pc L [.inl z] S') (hpost : ∀ z S', rlE q n b S z S' → post z S') : ∀ (r m : Nat) (S1 : Mem), m + r = 8 → ff q n = ffM q n (mcF q n r (5 + m)) → mcF q n 8 5 = mcF q n r (5 + m) → ((5 + m : Nat) : Int) ≤ n → FRL S S1 → S1 66 16 = b + ((5 + m : Nat) : Int) → S1 66 17 = m → S1 66 18 = 0 → E77 q 3 S1 → E78 q m S1 → AW X cX7_readLine 3 73 [some (.inr (.inr 66)), some (.inl (b + n)), x] [] S1 := by
  have k169 : ∀ (m : Nat) (S1 : Mem), m ≤ 8 → ff q n = ffM q n (5 + m) → mcF q n 8 5 = 5 + m → ((5 + m : Nat) : Int) ≤ n → FRL S S1 → S1 66 16 = b + ((5 + m : Nat) : Int) → S1 66 17 = m → S1 66 18 = 0 → E77 q 3 S1 → E78 q m S1 → AW X cX7_readLine 3 169 [some (.inr (.inr 66)), some (.inl (b + n)), x] [] S1 := by
    intro m S1 hm hff hmc han hf g16 g17 g18 h77 h78
    unfold ffM at hff
    refine aw_aldn (n := 170) C dX7_readLine_169 rfl rfl ?_
    refine aw_getI (z := 17) (n := 173) C dX7_readLine_170 rfl fl_X7_111 rfl rfl rfl ?_
    rw [g17]
    refine aw_ifne (tgt := 178) (n := 176) C dX7_readLine_173 rfl rfl (by omega) (fun h_173 => ?_) (fun h_173 => ?_)
    · rw [if_neg (by omega)] at hff
      exact d_rl3 (mc := m) hq hb hn hbn hc hmc (by omega) C hret hpost 4 0 S1 rfl hff (by omega) hf g16 g17 g18 h77 h78 (fun x x0 x1 => by omega)
    · refine aw_iconst (n := 177) C dX7_readLine_176 rfl ?_
      refine hret 177 _ _ _ dX7_readLine_177 (Or.inr ⟨rfl, by omega⟩) ?_
      rw [if_pos (by omega)] at hff
      exact hpost _ _ ⟨hf, Or.inl ⟨rfl, by omega, by rw [hff, g16]; omega⟩⟩
  intro r
  induction r with
  | zero =>
    intro m S1 hmr hff hmc han hf g16 g17 g18 h77 h78
    refine aw_aldn (n := 74) C dX7_readLine_73 rfl rfl ?_
    refine aw_getI (z := 17) (n := 77) C dX7_readLine_74 rfl fl_X7_111 rfl rfl rfl ?_
    refine aw_bipush (n := 79) C dX7_readLine_77 rfl rfl ?_
    rw [g17]
    refine aw_icge (tgt := 169) (n := 82) C dX7_readLine_79 rfl rfl (by omega) (by omega) (fun h_79 => ?_) (fun h_79 => ?_)
    · exact k169 m S1 (by omega) hff hmc han hf g16 g17 g18 h77 h78
    · omega
  | succ r ih =>
    intro m S1 hmr hff hmc han hf g16 g17 g18 h77 h78
    have e69 : S1 69 = S 69 := hf.1 69 (by decide) (by decide)
    have hca := hc (b + ((5 + m : Nat) : Int))
    have hqa := hq ((5 + m : Nat) : Int)
    have hstop : ¬ (((5 + m : Nat) : Int) < n ∧ isM (q ((5 + m : Nat) : Int)) = true) → AW X cX7_readLine 3 169 [some (.inr (.inr 66)), some (.inl (b + n)), x] [] S1 := fun hno => by
      unfold mcF at hff hmc
      rw [if_neg hno] at hff hmc
      exact k169 m S1 (by omega) hff hmc han hf g16 g17 g18 h77 h78
    have hgo : ((5 + m : Nat) : Int) < n → isM (q ((5 + m : Nat) : Int)) = true → ∀ S2 : Mem, FRL S S2 → S2 66 16 = b + ((5 + (m + 1) : Nat) : Int) → S2 66 17 = ((m + 1 : Nat) : Int) → S2 66 18 = 0 → E77 q 3 S2 → E78 q ((m + 1 : Nat) : Int) S2 → AW X cX7_readLine 3 73 [some (.inr (.inr 66)), some (.inl (b + n)), x] [] S2 := by
      intro h1 h2 S2 a1 a2 a3 a4 a5 a6
      have hmm : mcF q n (r + 1) (5 + m) = mcF q n r (5 + m + 1) := by rw [mcF, if_pos ⟨h1, h2⟩]
      rw [hmm] at hff hmc
      exact ih (m + 1) S2 (by omega) hff hmc (by omega) a1 a2 a3 a4 a5 a6
    generalize ha : 5 + m = a at *
    rw [hqa] at hstop hgo
    refine aw_aldn (n := 74) C dX7_readLine_73 rfl rfl ?_
    refine aw_getI (z := 17) (n := 77) C dX7_readLine_74 rfl fl_X7_111 rfl rfl rfl ?_
    refine aw_bipush (n := 79) C dX7_readLine_77 rfl rfl ?_
    rw [g17]
    refine aw_icge (tgt := 169) (n := 82) C dX7_readLine_79 rfl rfl (by omega) (by omega) (fun h_79 => ?_) (fun h_79 => ?_)
    · omega
    · refine aw_aldn (n := 83) C dX7_readLine_82 rfl rfl ?_
      refine aw_getI (z := 16) (n := 86) C dX7_readLine_83 rfl fl_X7_87 rfl rfl rfl ?_
      refine aw_ildn (n := 87) C dX7_readLine_86 rfl rfl ?_
      rw [g16]
      refine aw_icge (tgt := 169) (n := 90) C dX7_readLine_87 rfl rfl (by omega) (by omega) (fun h_87 => ?_) (fun h_87 => ?_)
      · refine hstop (fun hh => ?_)
        have hm2 := of_decide_eq_true hh.2
        omega
      · refine aw_aldn (n := 91) C dX7_readLine_90 rfl rfl ?_
        refine aw_getR (n := 94) C dX7_readLine_91 rfl fl_X7_16 rfl rfl ?_
        refine aw_aldn (n := 95) C dX7_readLine_94 rfl rfl ?_
        refine aw_getI (z := 16) (n := 98) C dX7_readLine_95 rfl fl_X7_87 rfl rfl rfl ?_
        rw [g16]
        refine aw_iald (n := 99) C dX7_readLine_98 rfl rfl (by omega) (by omega) ?_
        rw [e69]
        refine aw_bipush (n := 101) C dX7_readLine_99 rfl rfl ?_
        refine aw_iceq (tgt := 118) (n := 104) C dX7_readLine_101 rfl rfl (by omega) (by omega) (fun h_101 => ?_) (fun h_101 => ?_)
        · refine aw_aldn (n := 119) C dX7_readLine_118 rfl rfl ?_
          refine aw_getR (n := 122) C dX7_readLine_119 rfl fl_X7_44 rfl rfl ?_
          refine aw_aldn (n := 123) C dX7_readLine_122 rfl rfl ?_
          refine aw_getI (z := 17) (n := 126) C dX7_readLine_123 rfl fl_X7_111 rfl rfl rfl ?_
          rw [g17]
          refine aw_aldn (n := 127) C dX7_readLine_126 rfl rfl ?_
          refine aw_getR (n := 130) C dX7_readLine_127 rfl fl_X7_16 rfl rfl ?_
          refine aw_aldn (n := 131) C dX7_readLine_130 rfl rfl ?_
          refine aw_getI (z := 16) (n := 134) C dX7_readLine_131 rfl fl_X7_87 rfl rfl rfl ?_
          rw [g16]
          refine aw_iald (n := 135) C dX7_readLine_134 rfl rfl (by omega) (by omega) ?_
          rw [e69]
          refine aw_bipush (n := 137) C dX7_readLine_135 rfl rfl ?_
          refine aw_icne (tgt := 144) (n := 140) C dX7_readLine_137 rfl rfl (by omega) (by omega) (fun h_137 => ?_) (fun h_137 => ?_)
          · refine aw_iconst (n := 145) C dX7_readLine_144 rfl ?_
            refine aw_zast (n := 146) C dX7_readLine_145 rfl rfl (by omega) (by omega) (by first | exact Or.inl rfl | exact Or.inr rfl) ?_
            refine aw_aldn (n := 147) C dX7_readLine_146 rfl rfl ?_
            refine aw_dup (n := 148) C dX7_readLine_147 rfl rfl ?_
            refine aw_getI (z := 17) (n := 151) C dX7_readLine_148 rfl fl_X7_111 rfl rfl rfl ?_
            rw [show ∀ v, st2 S1 78 (m : Int) v 66 17 = S1 66 17 from fun _ => rfl, g17]
            refine aw_iconst (n := 152) C dX7_readLine_151 rfl ?_
            refine aw_iadd (n := 153) C dX7_readLine_152 rfl ?_
            refine aw_put (z := 17) (n := 156) C dX7_readLine_153 rfl fp_X7_111 rfl rfl rfl (Or.inl rfl) ?_
            refine aw_aldn (n := 157) C dX7_readLine_156 rfl rfl ?_
            refine aw_dup (n := 158) C dX7_readLine_157 rfl rfl ?_
            refine aw_getI (z := 16) (n := 161) C dX7_readLine_158 rfl fl_X7_87 rfl rfl rfl ?_
            rw [show ∀ v, st2 (st2 S1 78 (m : Int) v) 66 17 ((m : Int) + 1) 66 16 = S1 66 16 from fun _ => rfl, g16]
            refine aw_iconst (n := 162) C dX7_readLine_161 rfl ?_
            refine aw_iadd (n := 163) C dX7_readLine_162 rfl ?_
            refine aw_put (z := 16) (n := 166) C dX7_readLine_163 rfl fp_X7_87 rfl rfl rfl (Or.inl rfl) ?_
            refine aw_goto (tgt := 73) C dX7_readLine_166 rfl ?_
            refine hgo (by omega) (decide_eq_true (by omega)) _ (FRL_tr hf (FRL_tr (FRL_c (by decide)) (FRL_tr (FRL_f (by decide)) (FRL_f (by decide))))) ?_ ?_ g18 h77 (fun x x0 x1 => ?_)
            · show b + (a : Int) + 1 = _
              omega
            · show (m : Int) + 1 = _
              omega
            · show st2 S1 78 (m : Int) _ 78 x = _
              by_cases e : x = m
              · subst e
                rw [st2_s]
                unfold nTu
                rw [show (5 : Int) + (m : Int) = (a : Int) by omega, hqa]
                first | rw [if_pos h_137] | rw [if_neg h_137]
              · rw [st2_n e]; exact h78 x x0 (by omega)
          · refine aw_iconst (n := 141) C dX7_readLine_140 rfl ?_
            refine aw_goto (tgt := 145) C dX7_readLine_141 rfl ?_
            refine aw_zast (n := 146) C dX7_readLine_145 rfl rfl (by omega) (by omega) (by first | exact Or.inl rfl | exact Or.inr rfl) ?_
            refine aw_aldn (n := 147) C dX7_readLine_146 rfl rfl ?_
            refine aw_dup (n := 148) C dX7_readLine_147 rfl rfl ?_
            refine aw_getI (z := 17) (n := 151) C dX7_readLine_148 rfl fl_X7_111 rfl rfl rfl ?_
            rw [show ∀ v, st2 S1 78 (m : Int) v 66 17 = S1 66 17 from fun _ => rfl, g17]
            refine aw_iconst (n := 152) C dX7_readLine_151 rfl ?_
            refine aw_iadd (n := 153) C dX7_readLine_152 rfl ?_
            refine aw_put (z := 17) (n := 156) C dX7_readLine_153 rfl fp_X7_111 rfl rfl rfl (Or.inl rfl) ?_
            refine aw_aldn (n := 157) C dX7_readLine_156 rfl rfl ?_
            refine aw_dup (n := 158) C dX7_readLine_157 rfl rfl ?_
            refine aw_getI (z := 16) (n := 161) C dX7_readLine_158 rfl fl_X7_87 rfl rfl rfl ?_
            rw [show ∀ v, st2 (st2 S1 78 (m : Int) v) 66 17 ((m : Int) + 1) 66 16 = S1 66 16 from fun _ => rfl, g16]
            refine aw_iconst (n := 162) C dX7_readLine_161 rfl ?_
            refine aw_iadd (n := 163) C dX7_readLine_162 rfl ?_
            refine aw_put (z := 16) (n := 166) C dX7_readLine_163 rfl fp_X7_87 rfl rfl rfl (Or.inl rfl) ?_
            refine aw_goto (tgt := 73) C dX7_readLine_166 rfl ?_
            refine hgo (by omega) (decide_eq_true (by omega)) _ (FRL_tr hf (FRL_tr (FRL_c (by decide)) (FRL_tr (FRL_f (by decide)) (FRL_f (by decide))))) ?_ ?_ g18 h77 (fun x x0 x1 => ?_)
            · show b + (a : Int) + 1 = _
              omega
            · show (m : Int) + 1 = _
              omega
            · show st2 S1 78 (m : Int) _ 78 x = _
              by_cases e : x = m
              · subst e
                rw [st2_s]
                unfold nTu
                rw [show (5 : Int) + (m : Int) = (a : Int) by omega, hqa]
                first | rw [if_pos h_137] | rw [if_neg h_137]
              · rw [st2_n e]; exact h78 x x0 (by omega)
        · refine aw_aldn (n := 105) C dX7_readLine_104 rfl rfl ?_
          refine aw_getR (n := 108) C dX7_readLine_105 rfl fl_X7_16 rfl rfl ?_
          refine aw_aldn (n := 109) C dX7_readLine_108 rfl rfl ?_
          refine aw_getI (z := 16) (n := 112) C dX7_readLine_109 rfl fl_X7_87 rfl rfl rfl ?_
          rw [g16]
          refine aw_iald (n := 113) C dX7_readLine_112 rfl rfl (by omega) (by omega) ?_
          rw [e69]
          refine aw_bipush (n := 115) C dX7_readLine_113 rfl rfl ?_
          refine aw_icne (tgt := 169) (n := 118) C dX7_readLine_115 rfl rfl (by omega) (by omega) (fun h_115 => ?_) (fun h_115 => ?_)
          · refine hstop (fun hh => ?_)
            have hm2 := of_decide_eq_true hh.2
            omega
          · refine aw_aldn (n := 119) C dX7_readLine_118 rfl rfl ?_
            refine aw_getR (n := 122) C dX7_readLine_119 rfl fl_X7_44 rfl rfl ?_
            refine aw_aldn (n := 123) C dX7_readLine_122 rfl rfl ?_
            refine aw_getI (z := 17) (n := 126) C dX7_readLine_123 rfl fl_X7_111 rfl rfl rfl ?_
            rw [g17]
            refine aw_aldn (n := 127) C dX7_readLine_126 rfl rfl ?_
            refine aw_getR (n := 130) C dX7_readLine_127 rfl fl_X7_16 rfl rfl ?_
            refine aw_aldn (n := 131) C dX7_readLine_130 rfl rfl ?_
            refine aw_getI (z := 16) (n := 134) C dX7_readLine_131 rfl fl_X7_87 rfl rfl rfl ?_
            rw [g16]
            refine aw_iald (n := 135) C dX7_readLine_134 rfl rfl (by omega) (by omega) ?_
            rw [e69]
            refine aw_bipush (n := 137) C dX7_readLine_135 rfl rfl ?_
            refine aw_icne (tgt := 144) (n := 140) C dX7_readLine_137 rfl rfl (by omega) (by omega) (fun h_137 => ?_) (fun h_137 => ?_)
            · refine aw_iconst (n := 145) C dX7_readLine_144 rfl ?_
              refine aw_zast (n := 146) C dX7_readLine_145 rfl rfl (by omega) (by omega) (by first | exact Or.inl rfl | exact Or.inr rfl) ?_
              refine aw_aldn (n := 147) C dX7_readLine_146 rfl rfl ?_
              refine aw_dup (n := 148) C dX7_readLine_147 rfl rfl ?_
              refine aw_getI (z := 17) (n := 151) C dX7_readLine_148 rfl fl_X7_111 rfl rfl rfl ?_
              rw [show ∀ v, st2 S1 78 (m : Int) v 66 17 = S1 66 17 from fun _ => rfl, g17]
              refine aw_iconst (n := 152) C dX7_readLine_151 rfl ?_
              refine aw_iadd (n := 153) C dX7_readLine_152 rfl ?_
              refine aw_put (z := 17) (n := 156) C dX7_readLine_153 rfl fp_X7_111 rfl rfl rfl (Or.inl rfl) ?_
              refine aw_aldn (n := 157) C dX7_readLine_156 rfl rfl ?_
              refine aw_dup (n := 158) C dX7_readLine_157 rfl rfl ?_
              refine aw_getI (z := 16) (n := 161) C dX7_readLine_158 rfl fl_X7_87 rfl rfl rfl ?_
              rw [show ∀ v, st2 (st2 S1 78 (m : Int) v) 66 17 ((m : Int) + 1) 66 16 = S1 66 16 from fun _ => rfl, g16]
              refine aw_iconst (n := 162) C dX7_readLine_161 rfl ?_
              refine aw_iadd (n := 163) C dX7_readLine_162 rfl ?_
              refine aw_put (z := 16) (n := 166) C dX7_readLine_163 rfl fp_X7_87 rfl rfl rfl (Or.inl rfl) ?_
              refine aw_goto (tgt := 73) C dX7_readLine_166 rfl ?_
              refine hgo (by omega) (decide_eq_true (by omega)) _ (FRL_tr hf (FRL_tr (FRL_c (by decide)) (FRL_tr (FRL_f (by decide)) (FRL_f (by decide))))) ?_ ?_ g18 h77 (fun x x0 x1 => ?_)
              · show b + (a : Int) + 1 = _
                omega
              · show (m : Int) + 1 = _
                omega
              · show st2 S1 78 (m : Int) _ 78 x = _
                by_cases e : x = m
                · subst e
                  rw [st2_s]
                  unfold nTu
                  rw [show (5 : Int) + (m : Int) = (a : Int) by omega, hqa]
                  first | rw [if_pos h_137] | rw [if_neg h_137]
                · rw [st2_n e]; exact h78 x x0 (by omega)
            · refine aw_iconst (n := 141) C dX7_readLine_140 rfl ?_
              refine aw_goto (tgt := 145) C dX7_readLine_141 rfl ?_
              refine aw_zast (n := 146) C dX7_readLine_145 rfl rfl (by omega) (by omega) (by first | exact Or.inl rfl | exact Or.inr rfl) ?_
              refine aw_aldn (n := 147) C dX7_readLine_146 rfl rfl ?_
              refine aw_dup (n := 148) C dX7_readLine_147 rfl rfl ?_
              refine aw_getI (z := 17) (n := 151) C dX7_readLine_148 rfl fl_X7_111 rfl rfl rfl ?_
              rw [show ∀ v, st2 S1 78 (m : Int) v 66 17 = S1 66 17 from fun _ => rfl, g17]
              refine aw_iconst (n := 152) C dX7_readLine_151 rfl ?_
              refine aw_iadd (n := 153) C dX7_readLine_152 rfl ?_
              refine aw_put (z := 17) (n := 156) C dX7_readLine_153 rfl fp_X7_111 rfl rfl rfl (Or.inl rfl) ?_
              refine aw_aldn (n := 157) C dX7_readLine_156 rfl rfl ?_
              refine aw_dup (n := 158) C dX7_readLine_157 rfl rfl ?_
              refine aw_getI (z := 16) (n := 161) C dX7_readLine_158 rfl fl_X7_87 rfl rfl rfl ?_
              rw [show ∀ v, st2 (st2 S1 78 (m : Int) v) 66 17 ((m : Int) + 1) 66 16 = S1 66 16 from fun _ => rfl, g16]
              refine aw_iconst (n := 162) C dX7_readLine_161 rfl ?_
              refine aw_iadd (n := 163) C dX7_readLine_162 rfl ?_
              refine aw_put (z := 16) (n := 166) C dX7_readLine_163 rfl fp_X7_87 rfl rfl rfl (Or.inl rfl) ?_
              refine aw_goto (tgt := 73) C dX7_readLine_166 rfl ?_
              refine hgo (by omega) (decide_eq_true (by omega)) _ (FRL_tr hf (FRL_tr (FRL_c (by decide)) (FRL_tr (FRL_f (by decide)) (FRL_f (by decide))))) ?_ ?_ g18 h77 (fun x x0 x1 => ?_)
              · show b + (a : Int) + 1 = _
                omega
              · show (m : Int) + 1 = _
                omega
              · show st2 S1 78 (m : Int) _ 78 x = _
                by_cases e : x = m
                · subst e
                  rw [st2_s]
                  unfold nTu
                  rw [show (5 : Int) + (m : Int) = (a : Int) by omega, hqa]
                  first | rw [if_pos h_137] | rw [if_neg h_137]
                · rw [st2_n e]; exact h78 x x0 (by omega)
theorem d_rl1 {post : Int → Mem → Prop} {q : Fn} {K : Int} (hK : K = ffM q n (mcF q n 8 5)) (hq : ∀ x : Int, q x = S 69 (b + x)) (hb : 0 ≤ b) (hn : 0 ≤ n) (hbn : b + n ≤ 240) (hc : ∀ j, rng (S 69 j)) (C : CX X 3 RX7 cX7_readLine 3) (hret : ∀ (pc : Nat) (L : List (Option AV)) (z : Int) (S' : Mem), decode cX7_readLine pc = .ok (.ireturn, 1) → ((some FieldType.boolean) = some .int ∨ ((some FieldType.boolean) = some .boolean ∧ (z = 0 ∨ z = 1))) → post z S' → AW X cX7_readLine 3 pc L [.inl z] S') (hpost : ∀ z S', rlE q n b S z S' → post z S') : ∀ (r c : Nat) (S1 : Mem), c + r = 3 → ff q n = ffH q n K (r + 1) (1 + c) → ((1 + c : Nat) : Int) ≤ n → FRL S S1 → S1 66 16 = b + ((1 + c : Nat) : Int) → S1 66 17 = 0 → S1 66 18 = 0 → E77 q c S1 → AW X cX7_readLine 3 24 [some (.inr (.inr 66)), some (.inl (b + n)), some (.inl c)] [] S1 := by
  intro r
  induction r with
  | zero =>
    intro c S1 hcr hff han hf g16 g17 g18 h77
    obtain rfl : c = 3 := by omega
    have e69 : S1 69 = S 69 := hf.1 69 (by decide) (by decide)
    have g16' : S1 66 16 = b + 4 := g16
    have hca := hc (b + 4)
    have hqa := hq 4
    have hff' : ff q n = if n ≤ 4 ∨ fitH 4 (q 4) = false then 4 else K := hff
    have hf4 : fitH 4 (q 4) = decide (q 4 = 59) := rfl
    refine aw_ildn (n := 25) C dX7_readLine_24 rfl rfl ?_
    refine aw_iconst (n := 26) C dX7_readLine_25 rfl ?_
    refine aw_icge (tgt := 61) (n := 29) C dX7_readLine_26 rfl rfl (by omega) (by omega) (fun h_26 => ?_) (fun h_26 => ?_)
    · refine aw_aldn (n := 62) C dX7_readLine_61 rfl rfl ?_
      refine aw_ildn (n := 63) C dX7_readLine_62 rfl rfl ?_
      refine aw_bipush (n := 65) C dX7_readLine_63 rfl rfl ?_
      refine aw_cVi (n := 68) (vs := [_, _]) C dX7_readLine_65 rfl rfl rfl mm_X7_isSign wM_X7_126 rfl rfl (Nat.le_of_ble_eq_true rfl) (d_isSign (S := S1) (by omega) hbn (fun j => by rw [e69]; exact hc j) (by decide)) (by decide) (fun z_65 S_65 q_65 => ?_)
      rw [g16', e69, ← hqa] at q_65
      refine aw_ifne (tgt := 73) (n := 71) C dX7_readLine_68 rfl rfl (by omega) (fun h_68 => ?_) (fun h_68 => ?_)
      · obtain ⟨z1, z2, z3, z4⟩ := q_65.resolve_left (fun hh => h_68 hh.1)
        rw [if_neg (fun hh => hh.elim (fun h => by omega) (fun h => by rw [hf4, z4] at h; cases h)), hK] at hff'
        rw [z2]
        exact d_rl2 hq hb hn hbn hc C hret hpost 8 0 _ rfl hff' rfl (by omega) (FRL_tr hf (FRL_f (Or.inl rfl))) (by show b + 4 + 1 = _; omega) g17 g18 h77 (fun x x0 x1 => by omega)
      · refine aw_iconst (n := 72) C dX7_readLine_71 rfl ?_
        refine hret 72 _ _ _ dX7_readLine_72 (Or.inr ⟨rfl, by omega⟩) ?_
        obtain ⟨z1, z2, z3⟩ := q_65.resolve_right (fun hh => by omega)
        rw [if_pos (z3.elim (fun h => Or.inl (by omega)) (fun h => Or.inr (by rw [hf4]; exact decide_eq_false h)))] at hff'
        rw [z2]
        exact hpost _ _ ⟨hf, Or.inl ⟨rfl, by omega, by rw [hff', g16']⟩⟩
    · omega
  | succ r ih =>
    intro c S1 hcr hff han hf g16 g17 g18 h77
    have e69 : S1 69 = S 69 := hf.1 69 (by decide) (by decide)
    have hca := hc (b + ((1 + c : Nat) : Int))
    have hqa := hq ((1 + c : Nat) : Int)
    have hfc : fitH (1 + c) (q ((1 + c : Nat) : Int)) = decide (48 ≤ q ((1 + c : Nat) : Int) ∧ q ((1 + c : Nat) : Int) ≤ 52) := by unfold fitH; rw [if_neg (by omega), if_neg (by omega)]
    rw [ffH] at hff
    refine aw_ildn (n := 25) C dX7_readLine_24 rfl rfl ?_
    refine aw_iconst (n := 26) C dX7_readLine_25 rfl ?_
    refine aw_icge (tgt := 61) (n := 29) C dX7_readLine_26 rfl rfl (by omega) (by omega) (fun h_26 => ?_) (fun h_26 => ?_)
    · omega
    · refine aw_aldn (n := 30) C dX7_readLine_29 rfl rfl ?_
      refine aw_getR (n := 33) C dX7_readLine_30 rfl fl_X7_41 rfl rfl ?_
      refine aw_ildn (n := 34) C dX7_readLine_33 rfl rfl ?_
      refine aw_aldn (n := 35) C dX7_readLine_34 rfl rfl ?_
      refine aw_ildn (n := 36) C dX7_readLine_35 rfl rfl ?_
      refine aw_iconst (n := 37) C dX7_readLine_36 rfl ?_
      refine aw_iconst (n := 38) C dX7_readLine_37 rfl ?_
      refine aw_cVi (n := 41) (vs := [_, _, _]) C dX7_readLine_38 rfl rfl rfl mm_X7_digit wM_X7_130 rfl rfl (Nat.le_of_ble_eq_true rfl) (d_digit (S := S1) (by omega) hbn (fun j => by rw [e69]; exact hc j) (by decide) (by decide)) (by decide) (fun z_38 S_38 q_38 => ?_)
      rw [g16, e69, ← hqa] at q_38
      have hzr : rng z_38 := by rw [hqa] at q_38; omega
      refine aw_iast (n := 42) C dX7_readLine_41 rfl rfl (by omega) (by omega) ?_
      refine aw_aldn (n := 43) C dX7_readLine_42 rfl rfl ?_
      refine aw_getR (n := 46) C dX7_readLine_43 rfl fl_X7_41 rfl rfl ?_
      refine aw_ildn (n := 47) C dX7_readLine_46 rfl rfl ?_
      refine aw_iald (n := 48) C dX7_readLine_47 rfl rfl (by omega) (by omega) ?_
      rw [st2_s]
      refine aw_bipush (n := 50) C dX7_readLine_48 rfl rfl ?_
      refine aw_icne (tgt := 55) (n := 53) C dX7_readLine_50 rfl rfl (by omega) (by omega) (fun h_50 => ?_) (fun h_50 => ?_)
      · refine aw_iinc (n := 58) (L' := [_, _, _]) C dX7_readLine_55 rfl rfl (by decide) rfl rfl ?_
        refine aw_goto (tgt := 24) C dX7_readLine_58 rfl ?_
        obtain ⟨z1, z2, z3, z4⟩ := q_38.resolve_left (fun hh => h_50 hh.1)
        rw [if_neg (fun hh => hh.elim (fun h => by omega) (fun h => by rw [hfc] at h; exact of_decide_eq_false h (by omega)))] at hff
        rw [z2]
        refine ih (c + 1) _ (by omega) hff (by omega) (FRL_tr hf (FRL_tr (FRL_f (Or.inl rfl)) (FRL_c (by decide)))) (by show b + ((1 + c : Nat) : Int) + 1 = _; omega) g17 g18 (fun x x0 x1 => ?_)
        show st2 (st2 S1 66 16 _) 77 (c : Int) z_38 77 x = _
        by_cases e : x = c
        · subst e
          rw [st2_s, z1]
          unfold nSe
          rw [show ((1 + c : Nat) : Int) = 1 + (c : Int) by omega]
        · rw [st2_n e]; exact h77 x x0 (by omega)
      · refine aw_iconst (n := 54) C dX7_readLine_53 rfl ?_
        refine hret 54 _ _ _ dX7_readLine_54 (Or.inr ⟨rfl, by omega⟩) ?_
        obtain ⟨z1, z2, z3⟩ := q_38.resolve_right (fun hh => by have := hh.1; omega)
        rw [if_pos (z3.elim (fun h => Or.inl (by omega)) (fun h => Or.inr (by rw [hfc]; exact decide_eq_false h)))] at hff
        rw [z2]
        exact hpost _ _ ⟨FRL_tr hf (FRL_c (by decide)), Or.inl ⟨rfl, by omega, by show S1 66 16 = _; rw [hff, g16]⟩⟩
theorem d_readLine {q : Fn} (hq : ∀ x : Int, q x = S 69 (b + x)) (hb : 0 ≤ b) (hn : 0 ≤ n) (hbn : b + n ≤ 240) (hc : ∀ j, rng (S 69 j)) (h16 : S 66 16 = b) : AMi 3 yX7_readLine cX7_readLine 3 (some .boolean) [.inr (.inr 66), .inl (b + n)] S (fun z S' => rlE q n b S z S') := by
  have hqa := hq 0
  rw [Int.add_zero] at hqa
  have hca := hc b
  have hff : ff q n = if n ≤ 0 ∨ fitH 0 (q 0) = false then 0 else ffH q n (ffM q n (mcF q n 8 5)) 4 1 := rfl
  have hf0 : fitH 0 (q 0) = decide (q 0 = 114) := rfl
  refine ami_intro (L := [_, _, none]) (by decide) (Or.inr rfl) rfl (Nat.le_of_ble_eq_true rfl) (fun X C hret => ?_)
  refine aw_aldn (n := 1) C dX7_readLine_0 rfl rfl ?_
  refine aw_iconst (n := 2) C dX7_readLine_1 rfl ?_
  refine aw_put (z := 17) (n := 5) C dX7_readLine_2 rfl fp_X7_111 rfl rfl rfl (Or.inl rfl) ?_
  refine aw_aldn (n := 6) C dX7_readLine_5 rfl rfl ?_
  refine aw_iconst (n := 7) C dX7_readLine_6 rfl ?_
  refine aw_put (z := 18) (n := 10) C dX7_readLine_7 rfl fp_X7_114 rfl rfl rfl (Or.inl rfl) ?_
  have f1 : FRL S (st2 (st2 S 66 17 0) 66 18 0) := FRL_tr (FRL_f (by decide)) (FRL_f (by decide))
  generalize hS1 : st2 (st2 S 66 17 0) 66 18 0 = S1 at *
  have g16 : S1 66 16 = b := by rw [← hS1]; exact h16
  have g17 : S1 66 17 = 0 := by rw [← hS1]; rfl
  have g18 : S1 66 18 = 0 := by rw [← hS1]; rfl
  have e69 : S1 69 = S 69 := by rw [← hS1]; rfl
  refine aw_aldn (n := 11) C dX7_readLine_10 rfl rfl ?_
  refine aw_ildn (n := 12) C dX7_readLine_11 rfl rfl ?_
  refine aw_bipush (n := 14) C dX7_readLine_12 rfl rfl ?_
  refine aw_cVi (n := 17) (vs := [_, _]) C dX7_readLine_14 rfl rfl rfl mm_X7_isSign wM_X7_126 rfl rfl (Nat.le_of_ble_eq_true rfl) (d_isSign (S := S1) (by omega) hbn (fun j => by rw [e69]; exact hc j) (by decide)) (by decide) (fun z_14 S_14 q_14 => ?_)
  rw [g16, e69, ← hqa] at q_14
  refine aw_ifne (tgt := 22) (n := 20) C dX7_readLine_17 rfl rfl (by omega) (fun h_17 => ?_) (fun h_17 => ?_)
  · refine aw_iconst (n := 23) C dX7_readLine_22 rfl ?_
    refine aw_istn (n := 24) (L' := [_, _, _]) C dX7_readLine_23 rfl (by decide) rfl rfl ?_
    obtain ⟨z1, z2, z3, z4⟩ := q_14.resolve_left (fun hh => h_17 hh.1)
    rw [if_neg (fun hh => hh.elim (fun h => by omega) (fun h => by rw [hf0, z4] at h; cases h))] at hff
    rw [z2]
    exact d_rl1 rfl hq hb hn hbn hc C hret (fun z S' h => h) 3 0 _ rfl hff (by omega) (FRL_tr f1 (FRL_f (Or.inl rfl))) rfl g17 g18 (fun x x0 x1 => by omega)
  · refine aw_iconst (n := 21) C dX7_readLine_20 rfl ?_
    refine hret 21 _ _ _ dX7_readLine_21 (Or.inr ⟨rfl, by omega⟩) ?_
    obtain ⟨z1, z2, z3⟩ := q_14.resolve_right (fun hh => by omega)
    rw [if_pos (z3.elim (fun h => Or.inl (by omega)) (fun h => Or.inr (by rw [hf0]; exact decide_eq_false h)))] at hff
    rw [z2]
    exact ⟨f1, Or.inl ⟨rfl, by omega, by rw [hff, g16]; omega⟩⟩
end MLJ
