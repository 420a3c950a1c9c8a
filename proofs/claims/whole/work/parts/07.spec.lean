/-! what the document asks, as plain functions: regrets, dues -/
abbrev Fn : Type := Int → Int
/-- nothing but the cells lo .. hi - 1 has changed -/
def fr (lo hi : Nat) (S S' : Mem) : Prop := ∀ c, c < lo ∨ hi ≤ c → S' c = S c
theorem fr_rf (lo hi : Nat) (S : Mem) : fr lo hi S S := fun _ _ => rfl
theorem fr_tr {lo hi : Nat} {S S' S'' : Mem} (h : fr lo hi S S') (h2 : fr lo hi S' S'') : fr lo hi S S'' := fun c hc => (h2 c hc).trans (h c hc)
theorem fr_w {lo hi lo' hi' : Nat} {S S' : Mem} (h : fr lo hi S S') (h1 : lo' ≤ lo) (h2 : hi ≤ hi') : fr lo' hi' S S' := fun c hc => h c (by omega)
theorem fr_st (S : Mem) (c : Nat) (i v : Int) : fr c (c + 1) S (st2 S c i v) := fun c' hc => st2_o c' (by omega)
theorem st2_s (S : Mem) (c : Nat) (i v : Int) : st2 S c i v c i = v := if_pos ⟨rfl, rfl⟩
theorem st2_n {S : Mem} {c : Nat} {i v i' : Int} (h : i' ≠ i) : st2 S c i v c i' = S c i' := if_neg (fun q => h q.2)
theorem st2_c {S : Mem} {c c' : Nat} {i v i' : Int} (h : c' ≠ c) : st2 S c i v c' i' = S c' i' := if_neg (fun q => h q.1)
/-- how a regret changes in a mile -/
def chg (k f t : Int) : Int := if t = 0 then (if k = 1 ∧ 0 < f then 1 - f else -f) else if k = 2 then 10 else 5
def bnd (v : Int) : Int := if v < 0 then 0 else if 99 < v then 99 else v
theorem bnd_r (v : Int) : 0 ≤ bnd v ∧ bnd v ≤ 99 := by unfold bnd; omega
/-- one passenger behind a mile, ahead of talk -/
def beh (kd fd : Fn) (t : Int) (r : Fn) (p : Int) : Int := bnd (r p + chg (kd p) (fd p) t)
/-- all behind a mile: the tunnel t, who talk a and b -/
def stp (kd fd : Fn) (t a b : Int) (r : Fn) (p : Int) : Int := if a ≠ -9 ∧ (p = a ∨ p = b) then (beh kd fd t r a + beh kd fd t r b) / 2 else beh kd fd t r p
theorem stp_r (kd fd : Fn) (t a b : Int) (r : Fn) (p : Int) : 0 ≤ stp kd fd t a b r p ∧ stp kd fd t a b r p ≤ 99 := by
  unfold stp
  have h1 := bnd_r (r a + chg (kd a) (fd a) t)
  have h2 := bnd_r (r b + chg (kd b) (fd b) t)
  have h3 := bnd_r (r p + chg (kd p) (fd p) t)
  unfold beh
  split <;> omega
/-- regrets ahead of a mile -/
def rg (kd fd bg tu tA tB : Fn) : Nat → Fn
  | 0 => bg
  | m + 1 => stp kd fd (tu (m : Int)) (tA (m : Int)) (tB (m : Int)) (rg kd fd bg tu tA tB m)
/-- who may talk -/
def tok (pe a b : Int) : Prop := (a = -9 ∧ b = -9) ∨ (0 ≤ a ∧ a < pe ∧ 0 ≤ b ∧ b < pe ∧ a ≠ b)
theorem beh_congr {kd fd kd' fd' r r' : Fn} {t p pe : Int} (h0 : 0 ≤ p) (h1 : p < pe) (hk : ∀ p, 0 ≤ p → p < pe → kd p = kd' p) (hf : ∀ p, 0 ≤ p → p < pe → fd p = fd' p) (hr : ∀ p, 0 ≤ p → p < pe → r p = r' p) : beh kd fd t r p = beh kd' fd' t r' p := by
  unfold beh
  rw [hk p h0 h1, hf p h0 h1, hr p h0 h1]
theorem stp_congr {kd fd kd' fd' r r' : Fn} {t a b p pe : Int} (ht : tok pe a b) (h0 : 0 ≤ p) (h1 : p < pe) (hk : ∀ p, 0 ≤ p → p < pe → kd p = kd' p) (hf : ∀ p, 0 ≤ p → p < pe → fd p = fd' p) (hr : ∀ p, 0 ≤ p → p < pe → r p = r' p) : stp kd fd t a b r p = stp kd' fd' t a b r' p := by
  unfold stp
  rw [beh_congr h0 h1 hk hf hr]
  by_cases h : a ≠ -9 ∧ (p = a ∨ p = b)
  · rw [if_pos h, if_pos h]
    rcases ht with ⟨e, -⟩ | ⟨a0, a1, b0, b1, -⟩
    · exact absurd e h.1
    · rw [beh_congr a0 a1 hk hf hr, beh_congr b0 b1 hk hf hr]
  · rw [if_neg h, if_neg h]
theorem rg_congr {kd fd bg tu tA tB kd' fd' bg' tu' tA' tB' : Fn} {mi pe : Int} (hk : ∀ p, 0 ≤ p → p < pe → kd p = kd' p) (hf : ∀ p, 0 ≤ p → p < pe → fd p = fd' p) (hb : ∀ p, 0 ≤ p → p < pe → bg p = bg' p) (hm : ∀ m, 0 ≤ m → m < mi → tu m = tu' m ∧ tA m = tA' m ∧ tB m = tB' m) (ht : ∀ m, 0 ≤ m → m < mi → tok pe (tA m) (tB m)) : ∀ (m : Nat), (m : Int) ≤ mi → ∀ p, 0 ≤ p → p < pe → rg kd fd bg tu tA tB m p = rg kd' fd' bg' tu' tA' tB' m p
  | 0, _, p, h0, h1 => hb p h0 h1
  | m + 1, h, p, h0, h1 => by
    obtain ⟨e1, e2, e3⟩ := hm m (by omega) (by omega)
    show stp kd fd (tu (m : Int)) (tA (m : Int)) (tB (m : Int)) _ p = stp kd' fd' (tu' (m : Int)) (tA' (m : Int)) (tB' (m : Int)) _ p
    rw [← e1, ← e2, ← e3]
    exact stp_congr (ht m (by omega) (by omega)) h0 h1 hk hf (rg_congr hk hf hb hm ht m (by omega))
theorem rg_r {kd fd bg tu tA tB : Fn} {pe : Int} (hb : ∀ p, 0 ≤ p → p < pe → 0 ≤ bg p ∧ bg p ≤ 59) : ∀ (m : Nat) (p : Int), 0 ≤ p → p < pe → 0 ≤ rg kd fd bg tu tA tB m p ∧ rg kd fd bg tu tA tB m p ≤ 99
  | 0, p, h0, h1 => by have := hb p h0 h1; show 0 ≤ bg p ∧ bg p ≤ 99; omega
  | m + 1, p, h0, h1 => stp_r _ _ _ _ _ _ p
/-- the class that one is due in -/
def due (l1 l2 r : Int) : Int := if r < l1 then 0 else if r < l2 then 1 else 2
theorem due_r (l1 l2 r : Int) : 0 ≤ due l1 l2 r ∧ due l1 l2 r ≤ 2 := by unfold due; omega
