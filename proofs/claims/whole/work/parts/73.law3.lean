/-! the law: its loop -/
section LAW3
variable {X : AMX} {Ln : Nat} {xs : Nat → Int32}
theorem lw_loop (C : CX X 7 RL cL_law 4) (E : LX X Ln xs) (hL : Ln ≤ 384) (hr : ∀ (pc : Nat) (L : List (Option AV)) (S : Mem), decode cL_law pc = .ok (.ireturn, 1) → AW X cL_law 4 pc L [.inl 1] S) : ∀ (r i : Nat) (S : Mem), Ln ≤ i + r → i ≤ Ln → Inv S → AW X cL_law 4 18 [some (.inr (.inr 87)), some (.inr (.inr 0)), some (.inr (.inr 66)), some (.inl (i : Int))] [] S := by
  intro r
  induction r with
  | zero =>
    intro i S hr1 hr2 I
    refine aw_ildn (n := 19) C dL_law_18 rfl rfl ?_
    refine aw_aldn (n := 20) C dL_law_19 rfl rfl ?_
    refine aw_slen (n := 21) C dL_law_20 rfl E hL ?_
    refine aw_bipush (n := 23) C dL_law_21 rfl rfl ?_
    refine aw_isub (n := 24) C dL_law_23 rfl ?_
    refine aw_icgt (tgt := 1155) (n := 27) C dL_law_24 rfl rfl (by omega) (by omega) (fun h_24 => ?_) (fun h_24 => ?_)
    · refine aw_iconst (n := 1156) C dL_law_1155 rfl ?_
      exact hr _ _ _ dL_law_1156
    · exfalso
      omega
  | succ r ih =>
    intro i S hr1 hr2 I
    have hk : i + 6 ≤ Ln → ∀ S', Inv S' → AW X cL_law 4 1149 [some (.inr (.inr 87)), some (.inr (.inr 0)), some (.inr (.inr 66)), some (.inl (i : Int))] [] S' := fun hi S' I' => by
      have h := ih (i + 6) S' (by omega) (by omega) I'
      rw [show ((i + 6 : Nat) : Int) = (i : Int) + 6 by omega] at h
      refine aw_iinc (n := 1152) (L' := [_, _, _, _]) C dL_law_1149 rfl rfl (by decide) rfl rfl ?_
      refine aw_goto (tgt := 18) C dL_law_1152 rfl ?_
      exact h
    refine aw_ildn (n := 19) C dL_law_18 rfl rfl ?_
    refine aw_aldn (n := 20) C dL_law_19 rfl rfl ?_
    refine aw_slen (n := 21) C dL_law_20 rfl E hL ?_
    refine aw_bipush (n := 23) C dL_law_21 rfl rfl ?_
    refine aw_isub (n := 24) C dL_law_23 rfl ?_
    refine aw_icgt (tgt := 1155) (n := 27) C dL_law_24 rfl rfl (by omega) (by omega) (fun h_24 => ?_) (fun h_24 => ?_)
    · refine aw_iconst (n := 1156) C dL_law_1155 rfl ?_
      exact hr _ _ _ dL_law_1156
    · have hi : i + 6 ≤ Ln := by omega
      have hk := hk hi
      refine aw_aldn (n := 28) C dL_law_27 rfl rfl ?_
      refine aw_ildn (n := 29) C dL_law_28 rfl rfl ?_
      refine aw_sld (n := 30) C dL_law_29 rfl E (by omega) (by omega) hL ?_
      refine aw_bipush (n := 32) C dL_law_30 rfl rfl ?_
      refine aw_iand (n := 33) C dL_law_32 rfl (Int32.ofInt_toInt _).symm ?_
      generalize hw : (Int32.ofInt (xz xs (i : Int)) &&& Int32.ofInt 31).toInt = w
      have hwr : rng w := by
        have h1 := Int32.le_toInt (Int32.ofInt (xz xs (i : Int)) &&& Int32.ofInt 31)
        have h2 := Int32.toInt_lt (Int32.ofInt (xz xs (i : Int)) &&& Int32.ofInt 31)
        rw [hw] at h1 h2
        omega
      by_cases ho : w < 0 ∨ 28 < w
      · exact aw_tableOut (tgt := 1149) C dL_law_33 hwr ho rfl (hk _ I)
      · have hc : w = 0 ∨ w = 1 ∨ w = 2 ∨ w = 3 ∨ w = 4 ∨ w = 5 ∨ w = 6 ∨ w = 7 ∨ w = 8 ∨ w = 9 ∨ w = 10 ∨ w = 11 ∨ w = 12 ∨ w = 13 ∨ w = 14 ∨ w = 15 ∨ w = 16 ∨ w = 17 ∨ w = 18 ∨ w = 19 ∨ w = 20 ∨ w = 21 ∨ w = 22 ∨ w = 23 ∨ w = 24 ∨ w = 25 ∨ w = 26 ∨ w = 27 ∨ w = 28 := by omega
        rcases hc with rfl | rfl | rfl | rfl | rfl | rfl | rfl | rfl | rfl | rfl | rfl | rfl | rfl | rfl | rfl | rfl | rfl | rfl | rfl | rfl | rfl | rfl | rfl | rfl | rfl | rfl | rfl | rfl | rfl
        · exact aw_tableIn (tgt := 164) C dL_law_33 (by decide) (by decide) (by decide) rfl rfl (lw_line C E hi hL I hk)
        · exact aw_tableIn (tgt := 217) C dL_law_33 (by decide) (by decide) (by decide) rfl rfl (lw_ofPassenger C E hi hL I hk)
        · exact aw_tableIn (tgt := 250) C dL_law_33 (by decide) (by decide) (by decide) rfl rfl (lw_seats C E hi hL I hk)
        · exact aw_tableIn (tgt := 283) C dL_law_33 (by decide) (by decide) (by decide) rfl rfl (lw_limits C E hi hL I hk)
        · exact aw_tableIn (tgt := 316) C dL_law_33 (by decide) (by decide) (by decide) rfl rfl (lw_dig C E hi hL I hk)
        · exact aw_tableIn (tgt := 365) C dL_law_33 (by decide) (by decide) (by decide) rfl rfl (lw_talk C E hi hL I hk)
        · exact aw_tableIn (tgt := 408) C dL_law_33 (by decide) (by decide) (by decide) rfl rfl (lw_regret C E hi hL I hk)
        · exact aw_tableIn (tgt := 441) C dL_law_33 (by decide) (by decide) (by decide) rfl rfl (lw_due C E hi hL I hk)
        · exact aw_tableIn (tgt := 474) C dL_law_33 (by decide) (by decide) (by decide) rfl rfl (lw_seating C E hi hL I hk)
        · exact aw_tableIn (tgt := 537) C dL_law_33 (by decide) (by decide) (by decide) rfl rfl (lw_ease C E hi hL I hk)
        · exact aw_tableIn (tgt := 560) C dL_law_33 (by decide) (by decide) (by decide) rfl rfl (lw_stuck C E hi hL I hk)
        · exact aw_tableIn (tgt := 573) C dL_law_33 (by decide) (by decide) (by decide) rfl rfl (lw_help C E hi hL I hk)
        · exact aw_tableIn (tgt := 616) C dL_law_33 (by decide) (by decide) (by decide) rfl rfl (lw_reading C E hi hL I hk)
        · exact aw_tableIn (tgt := 659) C dL_law_33 (by decide) (by decide) (by decide) rfl rfl (lw_back C E hi hL I hk)
        · exact aw_tableIn (tgt := 682) C dL_law_33 (by decide) (by decide) (by decide) rfl rfl (lw_began C E hi hL I hk)
        · exact aw_tableIn (tgt := 715) C dL_law_33 (by decide) (by decide) (by decide) rfl rfl (lw_kinds C E hi hL I hk)
        · exact aw_tableIn (tgt := 738) C dL_law_33 (by decide) (by decide) (by decide) rfl rfl (lw_fadings C E hi hL I hk)
        · exact aw_tableIn (tgt := 761) C dL_law_33 (by decide) (by decide) (by decide) rfl rfl (lw_odds C E hi hL I hk)
        · exact aw_tableIn (tgt := 805) C dL_law_33 (by decide) (by decide) (by decide) rfl rfl (lw_sheet C E hi hL I hk)
        · exact aw_tableIn (tgt := 848) C dL_law_33 (by decide) (by decide) (by decide) rfl rfl (lw_lose C E hi hL I hk)
        · exact aw_tableIn (tgt := 871) C dL_law_33 (by decide) (by decide) (by decide) rfl rfl (lw_put C E hi hL I hk)
        · exact aw_tableIn (tgt := 914) C dL_law_33 (by decide) (by decide) (by decide) rfl rfl (lw_cell C E hi hL I hk)
        · exact aw_tableIn (tgt := 958) C dL_law_33 (by decide) (by decide) (by decide) rfl rfl (lw_copy C E hi hL I hk)
        · exact aw_tableIn (tgt := 1021) C dL_law_33 (by decide) (by decide) (by decide) rfl rfl (lw_tell C E hi hL I hk)
        · exact aw_tableIn (tgt := 1044) C dL_law_33 (by decide) (by decide) (by decide) rfl rfl (lw_call C E hi hL I hk)
        · exact aw_tableIn (tgt := 1067) C dL_law_33 (by decide) (by decide) (by decide) rfl rfl (lw_as C E hi hL I hk)
        · exact aw_tableIn (tgt := 1100) C dL_law_33 (by decide) (by decide) (by decide) rfl rfl (lw_trace C E hi hL I hk)
        · exact aw_tableIn (tgt := 1113) C dL_law_33 (by decide) (by decide) (by decide) rfl rfl (lw_fault C E hi hL I hk)
        · exact aw_tableIn (tgt := 1126) C dL_law_33 (by decide) (by decide) (by decide) rfl rfl (lw_many C E hi hL I hk)
end LAW3
