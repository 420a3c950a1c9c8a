/-! the law from its start -/
/-- the law from behind the constructors on -/
theorem whole_loop {p : Program} {l : Launch} {e : Env} {s : State} {m : MethodId} {below : List Frame} {meth : Method} {c : Code} {b L : Nat} {xs : Nat → Int32} {dC dA : Nat → ClassId} {dI : Nat → Nat → Nat} {h0 q1 q2 q2_q1 q3 q3_q1 q4 q4_q1 q5 q5_q1 q6 q6_q1 q6_q2 q6_q3 q6_q4 q6_q5 q6_q6 q6_q7 q6_q8 q7 q7_q1 q7_q2 q7_q3 q7_q4 q7_q5 q7_q6 q7_q7 q7_q8 q8 q8_q1 q8_q2 q8_q3 q9 q9_q1 q9_q2 q10 q10_q1 q10_q2 q10_q3 q10_q4 m0 m1 m2 m3 m4 m5 m6 m7 m8 m9 m10 m11 m12 m13 m14 m15 m16 m17 m18 m19 m20 : Nat} (hL : L ≤ 384) (C0 : lw_At p s m meth c b L xs) (hE : bm_E dC dI dA s) : BW (p, l, e, room_1, s, m, #[Value.ref b], below, meth, c, lw_Z below #[Value.ref b] s, dC, dI, dA, (fun q : Nat => s.heap.size ≤ q)) 4 16 87 2436 [(2, .ref m0), (1, .ref h0), (0, .ref b)] [] (w_X6 dA h0 q1 q2 q2_q1 q3 q3_q1 q4 q4_q1 q5 q5_q1 q6 q6_q1 q6_q2 q6_q3 q6_q4 q6_q5 q6_q6 q6_q7 q6_q8 q7 q7_q1 q7_q2 q7_q3 q7_q4 q7_q5 q7_q6 q7_q7 q7_q8 q8 q8_q1 q8_q2 q8_q3 q9 q9_q1 q9_q2 q10 q10_q1 q10_q2 q10_q3 q10_q4 ++ w_X7 dA m0 m1 m2 m3 m4 m5 m6 m7 m8 m9 m10 m11 m12 m13 m14 m15 m16 m17 m18 m19 m20) := by
  obtain ⟨hx, hb, hr, hml, hown, hts, hX, hbl, hlocks, hgv⟩ := id C0
  have htb : ∀ w ∈ am_BW, w.before #[Value.ref b] s = true := fun w hw => hts w (List.mem_filter.mp hw).1
  intro H locs ls hP hD hS hl
  have hP1 := wp_P (b := b) hP
  have hD1 := wp_D (b := b) hD
  have CA : CX (p, l, e, room_1, s, m, #[Value.ref b], below, meth, c, 87, 2436, lw_Z below #[Value.ref b] s, dC, dI, dA, (adF h0 q1 q2 q2_q1 q3 q3_q1 q4 q4_q1 q5 q5_q1 q6 q6_q1 q6_q2 q6_q3 q6_q4 q6_q5 q6_q6 q6_q7 q6_q8 q7 q7_q1 q7_q2 q7_q3 q7_q4 q7_q5 q7_q6 q7_q7 q7_q8 q8 q8_q1 q8_q2 q8_q3 q9 q9_q1 q9_q2 q10 q10_q1 q10_q2 q10_q3 q10_q4 m0 m1 m2 m3 m4 m5 m6 m7 m8 m9 m10 m11 m12 m13 m14 m15 m16 m17 m18 m19 m20 b), (fun q : Nat => s.heap.size ≤ q)) 7 RL cL_law 4 := ⟨hx, hb, hml, hown, htb, hE.1, hD1, fun _ h => h, va_Nw.of rfl (hts _ wMN_X2_31), by decide, by decide, by decide, by decide⟩
  have LE : LX (p, l, e, room_1, s, m, #[Value.ref b], below, meth, c, 87, 2436, lw_Z below #[Value.ref b] s, dC, dI, dA, (adF h0 q1 q2 q2_q1 q3 q3_q1 q4 q4_q1 q5 q5_q1 q6 q6_q1 q6_q2 q6_q3 q6_q4 q6_q5 q6_q6 q6_q7 q6_q8 q7 q7_q1 q7_q2 q7_q3 q7_q4 q7_q5 q7_q6 q7_q7 q7_q8 q8 q8_q1 q8_q2 q8_q3 q9 q9_q1 q9_q2 q10 q10_q1 q10_q2 q10_q3 q10_q4 m0 m1 m2 m3 m4 m5 m6 m7 m8 m9 m10 m11 m12 m13 m14 m15 m16 m17 m18 m19 m20 b), (fun q : Nat => s.heap.size ≤ q)) L xs := ⟨hX, hbl, Nat.not_le.mpr hbl⟩
  have hlo := lw_loop CA LE hL (fun pc L S hd => by
    intro H locs ls hP hS hl
    refine va_forget (fun q hq => hS.2.2 q hq) ?_
    refine W.widen (k := 600000) (n := 7302250) (by decide) (by decide) ?_
    exact lw_ret hx hb hr hlocks hd) L 0 S0 (by omega) (Nat.zero_le _) Inv_S0
  have hst : AW (p, l, e, room_1, s, m, #[Value.ref b], below, meth, c, 87, 2436, lw_Z below #[Value.ref b] s, dC, dI, dA, (adF h0 q1 q2 q2_q1 q3 q3_q1 q4 q4_q1 q5 q5_q1 q6 q6_q1 q6_q2 q6_q3 q6_q4 q6_q5 q6_q6 q6_q7 q6_q8 q7 q7_q1 q7_q2 q7_q3 q7_q4 q7_q5 q7_q6 q7_q7 q7_q8 q8 q8_q1 q8_q2 q8_q3 q9 q9_q1 q9_q2 q10 q10_q1 q10_q2 q10_q3 q10_q4 m0 m1 m2 m3 m4 m5 m6 m7 m8 m9 m10 m11 m12 m13 m14 m15 m16 m17 m18 m19 m20 b), (fun q : Nat => s.heap.size ≤ q)) cL_law 4 16 [some (.inr (.inr 87)), some (.inr (.inr 0)), some (.inr (.inr 66)), none] [] S0 := by
    refine aw_iconst (n := 17) CA dL_law_16 rfl ?_
    refine aw_istn (n := 18) (L' := [_, _, _, _]) CA dL_law_17 rfl (by decide) rfl rfl ?_
    exact hlo
  refine hst H locs ls hP1 hS ⟨⟨hl.1, hl.2.1, fun q hq => by cases hq⟩, fun i v hv => ?_⟩
  match i, hv with
  | 0, hv => cases hv; exact lv_at hl 2 rfl
  | 1, hv => cases hv; exact lv_at hl 1 rfl
  | 2, hv => cases hv; exact lv_at hl 0 rfl
  | 3, hv => cases hv
  | k + 4, hv => simp at hv
/-- THE LAW, from its entry -/
theorem whole_start {p : Program} {e : Env} {s : State} {m : MethodId} {below : List Frame} {meth : Method} {c : Code} (l : Launch) {b L : Nat} {xs : Nat → Int32} (hL : L ≤ 384) (C0 : lw_At p s m meth c b L xs) : W p l e room_1 s m #[Value.ref b] below meth c s.heap [] 0 0 (lw_Z below #[Value.ref b] s) (entryFrame m ([Value.ref b] : List Value).toArray 4) := by
  obtain ⟨hx, hb, hr, hml, hown, hts, hX, hbl, hlocks, hgv⟩ := id C0
  obtain ⟨dC, dI, dA, hE⟩ := st_K hts
  have htb : ∀ w ∈ am_BW, w.before #[Value.ref b] s = true := fun w hw => hts w (List.mem_filter.mp hw).1
  have hl := lv_entry ([.ref b]) (n := 4) (Nat.le_of_ble_eq_true rfl)
  rw [lg_entry_eq]
  generalize (lg_sl ([.ref b]) ++ List.replicate (4 - (lg_sl ([.ref b])).length) Slot.unset).toArray = ls at hl ⊢
  have C : BX (p, l, e, room_1, s, m, #[Value.ref b], below, meth, c, lw_Z below #[Value.ref b] s, dC, dI, dA, (fun q : Nat => s.heap.size ≤ q)) 7 600000 7302250 RL cL_law 4 := ⟨hx, hb, hml, hown, htb, hE, fun _ h => h, by decide, by decide, by decide, by decide⟩
  have hB : BW (p, l, e, room_1, s, m, #[Value.ref b], below, meth, c, lw_Z below #[Value.ref b] s, dC, dI, dA, (fun q : Nat => s.heap.size ≤ q)) 4 0 0 0 [(0, .ref b)] [] [] := by
    refine bw_new (n := 3) (ci := 5) (N := 9) (Cn := RX6) (T := TX6) (fs := [.null, .null, .null, .null, .null, .null, .int 0, .int 0, .int 0]) (c1 := 1) (s1 := 9) tyX6 C dL_law_0 rfl wK_L_7 wTB_X6 wI_X6 inBX6 tyX6_ok rfl df_X6 rfl rfl (by decide) (by decide) (fun h0 => ?_)
    refine bw_dup (n := 4) C dL_law_3 rfl rfl ?_
    refine bw_cI (n := 7) (As := []) (ws := []) (c1 := 66) (s1 := 1303) C dL_law_4 rfl rfl rfl yy_X6 wM_L_9 (Nat.le_of_ble_eq_true rfl) (b_X6 h0) (by decide) rfl rfl (by decide) (by decide) (fun u6 hu6 => ?_)
    obtain ⟨q1, q2, q2_q1, q3, q3_q1, q4, q4_q1, q5, q5_q1, q6, q6_q1, q6_q2, q6_q3, q6_q4, q6_q5, q6_q6, q6_q7, q6_q8, q7, q7_q1, q7_q2, q7_q3, q7_q4, q7_q5, q7_q6, q7_q7, q7_q8, q8, q8_q1, q8_q2, q8_q3, q9, q9_q1, q9_q2, q10, q10_q1, q10_q2, q10_q3, q10_q4, rfl⟩ := hu6
    refine bw_ast (n := 8) (lv' := [(1, .ref h0), (0, .ref b)]) C dL_law_7 rfl (by decide) rfl ?_
    refine bw_new (n := 11) (ci := 6) (N := 30) (Cn := RX7) (T := TX7) (fs := [.int 0, .int 0, .null, .null, .null, .int 0, .int 0, .int 0, .int 0, .null, .null, .null, .null, .null, .null, .null, .int 0, .int 0, .int 0, .null, .null, .null, .null, .null, .null, .null, .int 0, .null, .null, .null]) (c1 := 67) (s1 := 1333) tyX7 C dL_law_8 rfl wK_L_10 wTB_X7 wI_X7 inBX7 tyX7_ok rfl df_X7 rfl rfl (by decide) (by decide) (fun m0 => ?_)
    refine bw_dup (n := 12) C dL_law_11 rfl rfl ?_
    refine bw_cI (n := 15) (As := []) (c1 := 87) (s1 := 2436) C dL_law_12 rfl rfl rfl yy_X7 wM_L_12 (Nat.le_of_ble_eq_true rfl) (b_X7 m0) (by decide) rfl rfl (by decide) (by decide) (fun u7 hu7 => ?_)
    obtain ⟨m1, m2, m3, m4, m5, m6, m7, m8, m9, m10, m11, m12, m13, m14, m15, m16, m17, m18, m19, m20, rfl⟩ := hu7
    refine bw_ast (n := 16) (lv' := [(2, .ref m0), (1, .ref h0), (0, .ref b)]) C dL_law_15 rfl (by decide) rfl ?_
    exact whole_loop hL C0 hE
  exact hB s.heap [] ls (fun k q h => by simp at h) ⟨(fun i j p q h => by simp at h), (fun k q h => by simp at h)⟩ va_S.rf hl
