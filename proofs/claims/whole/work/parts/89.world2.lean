/-! the world behind the constructors is the machine's -/
section WL3
variable {dA dC : Nat → ClassId} {dI : Nat → Nat → Nat} {A : Nat → Prop} {H : Heap} {h0 q1 q2 q2_q1 q3 q3_q1 q4 q4_q1 q5 q5_q1 q6 q6_q1 q6_q2 q6_q3 q6_q4 q6_q5 q6_q6 q6_q7 q6_q8 q7 q7_q1 q7_q2 q7_q3 q7_q4 q7_q5 q7_q6 q7_q7 q7_q8 q8 q8_q1 q8_q2 q8_q3 q9 q9_q1 q9_q2 q10 q10_q1 q10_q2 q10_q3 q10_q4 m0 m1 m2 m3 m4 m5 m6 m7 m8 m9 m10 m11 m12 m13 m14 m15 m16 m17 m18 m19 m20 b : Nat}
theorem wa_all : ∀ k, k < 87 → ∃ i, piL[k]? = some i ∧ (w_X6 dA h0 q1 q2 q2_q1 q3 q3_q1 q4 q4_q1 q5 q5_q1 q6 q6_q1 q6_q2 q6_q3 q6_q4 q6_q5 q6_q6 q6_q7 q6_q8 q7 q7_q1 q7_q2 q7_q3 q7_q4 q7_q5 q7_q6 q7_q7 q7_q8 q8 q8_q1 q8_q2 q8_q3 q9 q9_q1 q9_q2 q10 q10_q1 q10_q2 q10_q3 q10_q4 ++ w_X7 dA m0 m1 m2 m3 m4 m5 m6 m7 m8 m9 m10 m11 m12 m13 m14 m15 m16 m17 m18 m19 m20)[i]? = some ((adF h0 q1 q2 q2_q1 q3 q3_q1 q4 q4_q1 q5 q5_q1 q6 q6_q1 q6_q2 q6_q3 q6_q4 q6_q5 q6_q6 q6_q7 q6_q8 q7 q7_q1 q7_q2 q7_q3 q7_q4 q7_q5 q7_q6 q7_q7 q7_q8 q8 q8_q1 q8_q2 q8_q3 q9 q9_q1 q9_q2 q10 q10_q1 q10_q2 q10_q3 q10_q4 m0 m1 m2 m3 m4 m5 m6 m7 m8 m9 m10 m11 m12 m13 m14 m15 m16 m17 m18 m19 m20 b) k, am_E dA (adF h0 q1 q2 q2_q1 q3 q3_q1 q4 q4_q1 q5 q5_q1 q6 q6_q1 q6_q2 q6_q3 q6_q4 q6_q5 q6_q6 q6_q7 q6_q8 q7 q7_q1 q7_q2 q7_q3 q7_q4 q7_q5 q7_q6 q7_q7 q7_q8 q8 q8_q1 q8_q2 q8_q3 q9 q9_q1 q9_q2 q10 q10_q1 q10_q2 q10_q3 q10_q4 m0 m1 m2 m3 m4 m5 m6 m7 m8 m9 m10 m11 m12 m13 m14 m15 m16 m17 m18 m19 m20 b) S0 k) := fun k h => by
  match k, h with
  | 0, _ => exact ⟨0, rfl, wa_0⟩
  | 1, _ => exact ⟨1, rfl, wa_1⟩
  | 2, _ => exact ⟨2, rfl, wa_2⟩
  | 3, _ => exact ⟨4, rfl, wa_3⟩
  | 4, _ => exact ⟨6, rfl, wa_4⟩
  | 5, _ => exact ⟨8, rfl, wa_5⟩
  | 6, _ => exact ⟨3, rfl, wa_6⟩
  | 7, _ => exact ⟨5, rfl, wa_7⟩
  | 8, _ => exact ⟨7, rfl, wa_8⟩
  | 9, _ => exact ⟨9, rfl, wa_9⟩
  | 10, _ => exact ⟨10, rfl, wa_10⟩
  | 11, _ => exact ⟨11, rfl, wa_11⟩
  | 12, _ => exact ⟨12, rfl, wa_12⟩
  | 13, _ => exact ⟨13, rfl, wa_13⟩
  | 14, _ => exact ⟨14, rfl, wa_14⟩
  | 15, _ => exact ⟨15, rfl, wa_15⟩
  | 16, _ => exact ⟨16, rfl, wa_16⟩
  | 17, _ => exact ⟨17, rfl, wa_17⟩
  | 18, _ => exact ⟨18, rfl, wa_18⟩
  | 19, _ => exact ⟨19, rfl, wa_19⟩
  | 20, _ => exact ⟨20, rfl, wa_20⟩
  | 21, _ => exact ⟨21, rfl, wa_21⟩
  | 22, _ => exact ⟨22, rfl, wa_22⟩
  | 23, _ => exact ⟨23, rfl, wa_23⟩
  | 24, _ => exact ⟨24, rfl, wa_24⟩
  | 25, _ => exact ⟨25, rfl, wa_25⟩
  | 26, _ => exact ⟨26, rfl, wa_26⟩
  | 27, _ => exact ⟨27, rfl, wa_27⟩
  | 28, _ => exact ⟨28, rfl, wa_28⟩
  | 29, _ => exact ⟨29, rfl, wa_29⟩
  | 30, _ => exact ⟨30, rfl, wa_30⟩
  | 31, _ => exact ⟨31, rfl, wa_31⟩
  | 32, _ => exact ⟨32, rfl, wa_32⟩
  | 33, _ => exact ⟨33, rfl, wa_33⟩
  | 34, _ => exact ⟨34, rfl, wa_34⟩
  | 35, _ => exact ⟨35, rfl, wa_35⟩
  | 36, _ => exact ⟨36, rfl, wa_36⟩
  | 37, _ => exact ⟨37, rfl, wa_37⟩
  | 38, _ => exact ⟨38, rfl, wa_38⟩
  | 39, _ => exact ⟨39, rfl, wa_39⟩
  | 40, _ => exact ⟨40, rfl, wa_40⟩
  | 41, _ => exact ⟨41, rfl, wa_41⟩
  | 42, _ => exact ⟨42, rfl, wa_42⟩
  | 43, _ => exact ⟨43, rfl, wa_43⟩
  | 44, _ => exact ⟨44, rfl, wa_44⟩
  | 45, _ => exact ⟨45, rfl, wa_45⟩
  | 46, _ => exact ⟨46, rfl, wa_46⟩
  | 47, _ => exact ⟨47, rfl, wa_47⟩
  | 48, _ => exact ⟨48, rfl, wa_48⟩
  | 49, _ => exact ⟨49, rfl, wa_49⟩
  | 50, _ => exact ⟨50, rfl, wa_50⟩
  | 51, _ => exact ⟨51, rfl, wa_51⟩
  | 52, _ => exact ⟨52, rfl, wa_52⟩
  | 53, _ => exact ⟨53, rfl, wa_53⟩
  | 54, _ => exact ⟨54, rfl, wa_54⟩
  | 55, _ => exact ⟨55, rfl, wa_55⟩
  | 56, _ => exact ⟨56, rfl, wa_56⟩
  | 57, _ => exact ⟨57, rfl, wa_57⟩
  | 58, _ => exact ⟨58, rfl, wa_58⟩
  | 59, _ => exact ⟨59, rfl, wa_59⟩
  | 60, _ => exact ⟨60, rfl, wa_60⟩
  | 61, _ => exact ⟨61, rfl, wa_61⟩
  | 62, _ => exact ⟨62, rfl, wa_62⟩
  | 63, _ => exact ⟨63, rfl, wa_63⟩
  | 64, _ => exact ⟨64, rfl, wa_64⟩
  | 65, _ => exact ⟨65, rfl, wa_65⟩
  | 66, _ => exact ⟨66, rfl, wa_66⟩
  | 67, _ => exact ⟨67, rfl, wa_67⟩
  | 68, _ => exact ⟨68, rfl, wa_68⟩
  | 69, _ => exact ⟨69, rfl, wa_69⟩
  | 70, _ => exact ⟨70, rfl, wa_70⟩
  | 71, _ => exact ⟨71, rfl, wa_71⟩
  | 72, _ => exact ⟨72, rfl, wa_72⟩
  | 73, _ => exact ⟨73, rfl, wa_73⟩
  | 74, _ => exact ⟨74, rfl, wa_74⟩
  | 75, _ => exact ⟨75, rfl, wa_75⟩
  | 76, _ => exact ⟨76, rfl, wa_76⟩
  | 77, _ => exact ⟨77, rfl, wa_77⟩
  | 78, _ => exact ⟨78, rfl, wa_78⟩
  | 79, _ => exact ⟨79, rfl, wa_79⟩
  | 80, _ => exact ⟨80, rfl, wa_80⟩
  | 81, _ => exact ⟨81, rfl, wa_81⟩
  | 82, _ => exact ⟨82, rfl, wa_82⟩
  | 83, _ => exact ⟨83, rfl, wa_83⟩
  | 84, _ => exact ⟨84, rfl, wa_84⟩
  | 85, _ => exact ⟨85, rfl, wa_85⟩
  | 86, _ => exact ⟨86, rfl, wa_86⟩
  | k + 87, h => exact absurd h (by omega)
theorem wp_P (hP : va_P (dC, dI) vwCl (w_X6 dA h0 q1 q2 q2_q1 q3 q3_q1 q4 q4_q1 q5 q5_q1 q6 q6_q1 q6_q2 q6_q3 q6_q4 q6_q5 q6_q6 q6_q7 q6_q8 q7 q7_q1 q7_q2 q7_q3 q7_q4 q7_q5 q7_q6 q7_q7 q7_q8 q8 q8_q1 q8_q2 q8_q3 q9 q9_q1 q9_q2 q10 q10_q1 q10_q2 q10_q3 q10_q4 ++ w_X7 dA m0 m1 m2 m3 m4 m5 m6 m7 m8 m9 m10 m11 m12 m13 m14 m15 m16 m17 m18 m19 m20) H) : va_P (dC, dI) vwCl (am_W dA (adF h0 q1 q2 q2_q1 q3 q3_q1 q4 q4_q1 q5 q5_q1 q6 q6_q1 q6_q2 q6_q3 q6_q4 q6_q5 q6_q6 q6_q7 q6_q8 q7 q7_q1 q7_q2 q7_q3 q7_q4 q7_q5 q7_q6 q7_q7 q7_q8 q8 q8_q1 q8_q2 q8_q3 q9 q9_q1 q9_q2 q10 q10_q1 q10_q2 q10_q3 q10_q4 m0 m1 m2 m3 m4 m5 m6 m7 m8 m9 m10 m11 m12 m13 m14 m15 m16 m17 m18 m19 m20 b) S0) H := fun k q hk => by
  obtain ⟨hk87, rfl⟩ := am_W_some hk
  obtain ⟨i, -, hi⟩ := wa_all (dA := dA) (b := b) k hk87
  exact hP i _ hi
theorem wp_D (hD : va_D A (w_X6 dA h0 q1 q2 q2_q1 q3 q3_q1 q4 q4_q1 q5 q5_q1 q6 q6_q1 q6_q2 q6_q3 q6_q4 q6_q5 q6_q6 q6_q7 q6_q8 q7 q7_q1 q7_q2 q7_q3 q7_q4 q7_q5 q7_q6 q7_q7 q7_q8 q8 q8_q1 q8_q2 q8_q3 q9 q9_q1 q9_q2 q10 q10_q1 q10_q2 q10_q3 q10_q4 ++ w_X7 dA m0 m1 m2 m3 m4 m5 m6 m7 m8 m9 m10 m11 m12 m13 m14 m15 m16 m17 m18 m19 m20)) : ∀ S, va_D A (am_W dA (adF h0 q1 q2 q2_q1 q3 q3_q1 q4 q4_q1 q5 q5_q1 q6 q6_q1 q6_q2 q6_q3 q6_q4 q6_q5 q6_q6 q6_q7 q6_q8 q7 q7_q1 q7_q2 q7_q3 q7_q4 q7_q5 q7_q6 q7_q7 q7_q8 q8 q8_q1 q8_q2 q8_q3 q9 q9_q1 q9_q2 q10 q10_q1 q10_q2 q10_q3 q10_q4 m0 m1 m2 m3 m4 m5 m6 m7 m8 m9 m10 m11 m12 m13 m14 m15 m16 m17 m18 m19 m20 b) S) := fun S => by
  refine ⟨fun i j p q hi hj hpq => ?_, fun k q hk => ?_⟩
  · obtain ⟨li, rfl⟩ := am_W_some hi
    obtain ⟨lj, rfl⟩ := am_W_some hj
    obtain ⟨x, hx, hwx⟩ := wa_all (dA := dA) (b := b) i li
    obtain ⟨y, hy, hwy⟩ := wa_all (dA := dA) (b := b) j lj
    have hxy := hD.1 x y _ _ hwx hwy hpq
    subst hxy
    exact va_nd_inj piL (by decide) i j x hx hy
  · obtain ⟨lk, rfl⟩ := am_W_some hk
    obtain ⟨x, hx, hwx⟩ := wa_all (dA := dA) (b := b) k lk
    have hw := hD.2 x _ hwx
    exact hw
end WL3
