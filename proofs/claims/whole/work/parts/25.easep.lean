/-! the seating of the least trouble, as plain functions -/
noncomputable def ifp (p : Prop) (a b : Int) : Int := @ite Int p (Classical.propDecidable p) a b
theorem ifp_t {p : Prop} {a b : Int} (h : p) : ifp p a b = a := @if_pos p (Classical.propDecidable p) h Int a b
theorem ifp_f {p : Prop} {a b : Int} (h : ¬ p) : ifp p a b = b := @if_neg p (Classical.propDecidable p) h Int a b
/-- digits to the base 3, the lowest first -/
def dgl (w j : Nat) : Nat := w / 3 ^ j % 3
theorem dgl_lt (w j : Nat) : dgl w j < 3 := Nat.mod_lt _ (by decide)
/-- a row with another digit -/
def dst (w j v : Nat) : Nat := w - dgl w j * 3 ^ j + v * 3 ^ j
theorem dst_d : ∀ w, w < 81 → ∀ j, j < 4 → ∀ v, v < 3 → ∀ i, i < 4 → dgl (dst w j v) i = if i = j then v else dgl w i := by decide +kernel
theorem dst_id : ∀ w, w < 81 → ∀ j, j < 4 → dst w j (dgl w j) = w := by decide +kernel
theorem dst_lt : ∀ P, P ≤ 4 → ∀ w, w < 3 ^ P → ∀ j, j < P → ∀ v, v < 3 → dst w j v < 3 ^ P := by decide +kernel
theorem dgl_hi : ∀ P, P ≤ 4 → ∀ w, w < 3 ^ P → ∀ j, j < 4 → P ≤ j → dgl w j = 0 := by decide +kernel
theorem p3_81 : ∀ P, P ≤ 4 → 3 ^ P ≤ 81 := by decide
theorem dgl_ext {w w' : Nat} (h : w < 81) (h' : w' < 81) (e : ∀ i, i < 4 → dgl w i = dgl w' i) : w = w' := by
  have key : ∀ w, w < 81 → w = dgl w 0 + 3 * dgl w 1 + 9 * dgl w 2 + 27 * dgl w 3 := by decide +kernel
  rw [key w h, key w' h', e 0 (by omega), e 1 (by omega), e 2 (by omega), e 3 (by omega)]
/-- changes between two rows, in the lowest n digits -/
def chl (a b n : Nat) : Int := sm (fun j => if dgl a j = dgl b j then 0 else 1) n
theorem chl_s (a b n : Nat) : chl a b (n + 1) = chl a b n + (if dgl a n = dgl b n then 0 else 1) := rfl
theorem chl_r (a b : Nat) : ∀ n : Nat, 0 ≤ chl a b n ∧ chl a b n ≤ n
  | 0 => ⟨Int.le_refl _, Int.le_refl _⟩
  | n + 1 => by have := chl_r a b n; rw [chl_s]; split <;> omega
theorem chl_congr {a a' b : Nat} : ∀ {n : Nat}, (∀ i, i < n → dgl a i = dgl a' i) → chl a b n = chl a' b n := fun h => sm_congr (fun j hj => by rw [h j hj])
theorem chl_self (a : Nat) : ∀ n, chl a a n = 0
  | 0 => rfl
  | n + 1 => by rw [chl_s, chl_self a n, if_pos rfl]; rfl
theorem chl_4 {a b P : Nat} (hP : P ≤ 4) (ha : a < 3 ^ P) (hb : b < 3 ^ P) : chl a b 4 = chl a b P := by
  have : ∀ n, P + n ≤ 4 → chl a b (P + n) = chl a b P := by
    intro n
    induction n with
    | zero => intro _; rfl
    | succ n ih =>
      intro h
      rw [show P + (n + 1) = (P + n) + 1 by omega, chl_s, ih (by omega), dgl_hi P hP a ha (P + n) (by omega) (by omega), dgl_hi P hP b hb (P + n) (by omega) (by omega), if_pos rfl]
      omega
  have h := this (4 - P) (by omega)
  rw [show P + (4 - P) = 4 by omega] at h
  exact h
/-- x is the least of what f costs and the changes from w -/
def isMn (f : Nat → Int) (P w : Nat) (x : Int) : Prop := (∀ v, v < 3 ^ P → x ≤ f v + chl w v P) ∧ ∃ v, v < 3 ^ P ∧ x = f v + chl w v P
theorem isMn_eq {f : Nat → Int} {P w : Nat} {x y : Int} (h : isMn f P w x) (h' : isMn f P w y) : x = y := by
  obtain ⟨h1, v, v1, v2⟩ := h
  obtain ⟨g1, u, u1, u2⟩ := h'
  have := h1 u u1
  have := g1 v v1
  omega
/-- the digits below j may be changed -/
def bst (f : Nat → Int) : Nat → Nat → Int
  | 0, w => f w
  | j + 1, w => min (bst f j w) (min (bst f j (dst w j 0)) (min (bst f j (dst w j 1)) (bst f j (dst w j 2))) + 1)
theorem bst_mn {f : Nat → Int} {P : Nat} (hP : P ≤ 4) : ∀ (j w : Nat), j ≤ P → w < 3 ^ P → (∀ v, v < 3 ^ P → (∀ i, j ≤ i → i < 4 → dgl v i = dgl w i) → bst f j w ≤ f v + chl w v j) ∧ ∃ v, v < 3 ^ P ∧ (∀ i, j ≤ i → i < 4 → dgl v i = dgl w i) ∧ bst f j w = f v + chl w v j := by
  intro j
  have h81 := p3_81 P hP
  induction j with
  | zero =>
    intro w hj hw
    refine ⟨fun v hv he => ?_, w, hw, fun _ _ _ => rfl, ?_⟩
    · rw [dgl_ext (by omega) (by omega) (fun i hi => he i (by omega) hi)]
      show f w ≤ f w + 0
      omega
    · show f w = f w + 0
      omega
  | succ j ih =>
    intro w hj hw
    have hd : ∀ x, x < 3 → dst w j x < 3 ^ P ∧ ∀ i, i < 4 → dgl (dst w j x) i = if i = j then x else dgl w i := fun x hx => ⟨dst_lt P hP w hw j (by omega) x hx, dst_d w (by omega) j (by omega) x hx⟩
    have hcg : ∀ (x v : Nat), x < 3 → chl (dst w j x) v j = chl w v j := fun x v hx => chl_congr (fun i hi => by rw [(hd x hx).2 i (by omega), if_neg (by omega)])
    have hval : ∀ x, x < 3 → min (bst f j (dst w j 0)) (min (bst f j (dst w j 1)) (bst f j (dst w j 2))) ≤ bst f j (dst w j x) := fun x hx => by
      rcases (show x = 0 ∨ x = 1 ∨ x = 2 by omega) with rfl | rfl | rfl <;> omega
    constructor
    · intro v hv he
      show min _ _ ≤ _
      have hx := dgl_lt v j
      have h1 := (ih (dst w j (dgl v j)) (by omega) (hd _ hx).1).1 v hv (fun i hi h4 => by
        rw [(hd _ hx).2 i h4]
        by_cases e : i = j
        · rw [if_pos e, e]
        · rw [if_neg e]; exact he i (by omega) h4)
      rw [hcg _ _ hx] at h1
      rw [chl_s]
      by_cases e : dgl w j = dgl v j
      · rw [if_pos e]
        rw [← e, dst_id w (by omega) j (by omega)] at h1
        omega
      · rw [if_neg e]
        have := hval (dgl v j) hx
        omega
    · obtain ⟨h1, v, v1, v2, v3⟩ := ih w (by omega) hw
      by_cases hlt : bst f j w ≤ min (bst f j (dst w j 0)) (min (bst f j (dst w j 1)) (bst f j (dst w j 2))) + 1
      · refine ⟨v, v1, fun i hi h4 => v2 i (by omega) h4, ?_⟩
        show min _ _ = _
        rw [chl_s, if_pos (v2 j (by omega) (by omega)).symm]
        omega
      · have hx : ∃ x, x < 3 ∧ min (bst f j (dst w j 0)) (min (bst f j (dst w j 1)) (bst f j (dst w j 2))) = bst f j (dst w j x) := by
          rcases Int.le_total (bst f j (dst w j 0)) (min (bst f j (dst w j 1)) (bst f j (dst w j 2))) with h | h
          · exact ⟨0, by omega, by omega⟩
          · rcases Int.le_total (bst f j (dst w j 1)) (bst f j (dst w j 2)) with h2 | h2
            · exact ⟨1, by omega, by omega⟩
            · exact ⟨2, by omega, by omega⟩
        obtain ⟨x, x1, x2⟩ := hx
        obtain ⟨-, u, u1, u2, u3⟩ := ih (dst w j x) (by omega) (hd x x1).1
        have hne : dgl w j ≠ x := fun e => by
          rw [x2, ← e, dst_id w (by omega) j (by omega)] at hlt
          omega
        refine ⟨u, u1, fun i hi h4 => ?_, ?_⟩
        · rw [u2 i (by omega) h4, (hd x x1).2 i h4, if_neg (by omega)]
        · show min _ _ = _
          have hu : dgl u j = x := by rw [u2 j (by omega) (by omega), (hd x x1).2 j (by omega), if_pos rfl]
          rw [chl_s, if_neg (by rw [hu]; exact hne)]
          rw [hcg _ _ x1] at u3
          omega
theorem bst_isMn {f : Nat → Int} {P w : Nat} (hP : P ≤ 4) (hw : w < 3 ^ P) : isMn f P w (bst f P w) := by
  obtain ⟨h1, v, v1, v2, v3⟩ := bst_mn (f := f) hP P w (Nat.le_refl P) hw
  exact ⟨fun u hu => h1 u hu (fun i hi h4 => by rw [dgl_hi P hP u hu i h4 hi, dgl_hi P hP w hw i h4 hi]), v, v1, v3⟩
/-- how low all sit; who may -/
def lws (w : Nat) (f : Nat → Int) (n : Nat) : Int := sm (fun j => (dgl w j : Int) - f j) n
def ctl (w : Nat) (c : Int) (n : Nat) : Int := sm (fun j => if (dgl w j : Int) = c then 1 else 0) n
def okl (w : Nat) (f : Nat → Int) (se : Fn) (n : Nat) : Prop := (∀ j, j < n → f j ≤ (dgl w j : Int)) ∧ ∀ c, 0 ≤ c → c < 3 → ctl w c n ≤ se c
noncomputable def lwF (w : Nat) (f : Nat → Int) (se : Fn) (P : Nat) : Int := ifp (okl w f se P) (lws w f P) 10000
theorem lws_s (w : Nat) (f : Nat → Int) (n : Nat) : lws w f (n + 1) = lws w f n + ((dgl w n : Int) - f n) := rfl
theorem ctl_s (w : Nat) (c : Int) (n : Nat) : ctl w c (n + 1) = ctl w c n + (if (dgl w n : Int) = c then 1 else 0) := rfl
theorem ctl_r (w : Nat) (c : Int) : ∀ n : Nat, 0 ≤ ctl w c n ∧ ctl w c n ≤ n
  | 0 => ⟨Int.le_refl _, Int.le_refl _⟩
  | n + 1 => by have := ctl_r w c n; rw [ctl_s]; split <;> omega
theorem ctl_mono (w : Nat) (c : Int) (n : Nat) : ∀ k, ctl w c n ≤ ctl w c (n + k)
  | 0 => Int.le_refl _
  | k + 1 => by have := ctl_mono w c n k; rw [show n + (k + 1) = (n + k) + 1 by omega, ctl_s]; split <;> omega
theorem okl_mono {w n P : Nat} {f : Nat → Int} {se : Fn} (hn : n ≤ P) (h : okl w f se P) : okl w f se n := ⟨fun j hj => h.1 j (by omega), fun c c0 c1 => by
  have := ctl_mono w c n (P - n)
  rw [show n + (P - n) = P by omega] at this
  have := h.2 c c0 c1
  omega⟩
theorem lws_r {w : Nat} {f : Nat → Int} (hf : ∀ j, 0 ≤ f j ∧ f j ≤ 2) : ∀ n : Nat, (∀ j, j < n → f j ≤ (dgl w j : Int)) → 0 ≤ lws w f n ∧ lws w f n ≤ 2 * n
  | 0, _ => ⟨Int.le_refl _, Int.le_refl _⟩
  | n + 1, h => by
    have h1 := lws_r hf n (fun j hj => h j (by omega))
    have h2 := h n (by omega)
    have h3 := hf n
    have h4 := dgl_lt w n
    rw [lws_s]
    omega
-- the line as the seating sees it: miles, passengers, seats, dues
section EZ
variable (M P : Nat) (se : Fn) (du : Int → Int → Int)
noncomputable def lwm (m w : Nat) : Int := lwF w (fun j => du m ((P : Int) - 1 - j)) se P
noncomputable def bhF : Nat → Nat → Int
  | 0, _ => 0
  | j + 1, w => bst (fun v => min 10000 (lwm P se du (M - 1 - j) v + bhF j v)) P w
noncomputable def tgF (m w : Nat) : Int := min 10000 (lwm P se du m w + bhF M P se du (M - 1 - m) w)
noncomputable def anyF (m : Nat) : Bool := bB (∃ w, w < 3 ^ P ∧ lwm P se du m w < 10000)
noncomputable def eS : Int := fst1 (fun m => !anyF P se du m) M 0
def fo (f : Nat → Int) : Nat → Nat × Int
  | 0 => (0, 20000)
  | n + 1 => if f n < (fo f n).2 then (n, f n) else fo f n
noncomputable def rwF : Nat → Nat
  | 0 => (fo (tgF M P se du 0) (3 ^ P)).1
  | m + 1 => (fo (fun w => tgF M P se du (m + 1) w + chl (rwF m) w P) (3 ^ P)).1
noncomputable def eT : Int := if eS M P se du = -9 then tgF M P se du 0 (rwF M P se du 0) else -9
noncomputable def eR (k : Nat) : Int := (dgl (rwF M P se du (k / P)) (P - 1 - k % P) : Int)
end EZ
