/-! texts: what they say, by letters g, from a place on -/
abbrev isDg (c : Int) : Prop := 48 ≤ c ∧ c ≤ 57
/-- a number: its end and its value, or the fault -/
def pNm (g : Int → Int) (p : Int) : (Int × Int) ⊕ Int :=
  if ¬ isDg (g p) then .inr p
  else if ¬ isDg (g (p + 1)) then (if g p = 48 then .inr p else .inl (p + 1, g p - 48))
  else if ¬ isDg (g (p + 2)) then (if g p = 48 ∧ g (p + 1) = 48 then .inr p else .inl (p + 2, (g p - 48) * 10 + g (p + 1) - 48))
  else (if g p = 48 ∧ g (p + 1) = 48 ∧ g (p + 2) = 48 then .inr p else .inl (p + 3, ((g p - 48) * 10 + g (p + 1) - 48) * 10 + g (p + 2) - 48))
abbrev aIt : Type := Int × Int × Int × Int × Int
/-- an item: its end and what it says, or the fault -/
def pIt (g : Int → Int) (p : Int) : (Int × aIt) ⊕ Int :=
  if g p < 97 ∨ 104 < g p then .inr p
  else if ¬ g (p + 1) = 45 ∧ ¬ g (p + 1) = 43 then .inr (p + 1)
  else match pNm g (p + 2) with
    | .inr k => .inr k
    | .inl (p1, q) => if ¬ g p1 = 64 then .inr p1 else match pNm g (p1 + 1) with
      | .inr k => .inr k
      | .inl (p2, pr) => if ¬ g p2 = 104 then .inl (p2, (g p - 97, (if g (p + 1) = 45 then 1 else 0), q, pr, 0)) else match pNm g (p2 + 1) with
        | .inr k => .inr k
        | .inl (p3, sh) => .inl (p3, (g p - 97, (if g (p + 1) = 45 then 1 else 0), q, pr, sh))
/-- a text of so many letters -/
def pTx (g : Int → Int) (N : Int) : Nat → Int → List aIt ⊕ Int
  | 0, p => .inr p
  | n + 1, p => match pIt g p with
    | .inr k => .inr k
    | .inl (p1, it) => if N ≤ p1 then .inl [it] else if ¬ g p1 = 59 then .inr p1 else match pTx g N n (p1 + 1) with
      | .inr k => .inr k
      | .inl l => .inl (it :: l)
theorem pNm_rg {g : Int → Int} {p p1 n : Int} (h : pNm g p = .inl (p1, n)) : (1 ≤ n ∧ n ≤ 999) ∧ p < p1 ∧ p1 ≤ p + 3 ∧ isDg (g (p1 - 1)) := by
  unfold pNm at h
  repeat' split at h
  all_goals first | (cases h; done) | (injection h with h; injection h with h1 h2; subst h1; subst h2; grind)
/-! the reader -/
/-- the letter at a place of the row in a shelf; -1 behind the last -/
def lts (σ : aM) (s p : Int) : Int := if p < gI σ 2 s 1 then toi (gL σ 3 s p) else -1
/-- memories that differ in the reader alone -/
def FrT (σ τ : aM) : Prop := τ.2 = σ.2 ∧ ∀ t i j, ¬ (19 ≤ t ∧ t ≤ 24) → gI τ t i j = gI σ t i j
theorem FrT.rfl (σ : aM) : FrT σ σ := ⟨Eq.refl _, fun _ _ _ _ => Eq.refl _⟩
theorem FrT.u {σ τ : aM} (h : FrT σ τ) {t : Nat} (i j v : Int) (ht : 19 ≤ t ∧ t ≤ 24) : FrT σ (uI τ t i j v) := ⟨h.1, fun t' i' j' h1 => by
  rw [gI_uI, if_neg (fun q => by omega)]
  exact h.2 t' i' j' h1⟩
theorem FrT.lts {σ τ : aM} (h : FrT σ τ) (s p : Int) : lts τ s p = lts σ s p := by
  unfold Jvm.Pilot.CUncrossedBookLaw_law_r2509_3b968f.lts
  rw [h.2 2 s 1 (by decide)]
  unfold gL
  rw [h.1]
/-- the row may be read -/
abbrev okT (σ : aM) (s : Int) : Prop := 0 ≤ gI σ 2 s 1 ∧ gI σ 2 s 1 ≤ 160
theorem c_Tr_signAt (σ : aM) (s : Int) (h : okT σ s) (hp : 0 ≤ gI σ 19 0 6) : ev 66 0 [aR 19 0, aR 2 s] [] σ = some (some (aI (lts σ s (gI σ 19 0 6))), σ) := by
  unfold lts
  by_cases c : gI σ 19 0 6 < gI σ 2 s 1
  · have c2 : ¬ gI σ 2 s 1 ≤ gI σ 19 0 6 := by omega
    simp (disch := omega) only [e_Tr_signAt_0, e_Tr_signAt_1, e_Tr_signAt_4, e_Tr_signAt_5, e_Tr_signAt_8, e_Tr_signAt_11, e_Tr_signAt_12, e_Tr_signAt_13, e_Tr_signAt_16, e_Tr_signAt_19, e_Tr_signAt_22, e_Tr_signAt_23, if_neg c2, if_pos c, c_Sh_intAt, evK_i]
    rw [if_pos ⟨hp, c⟩]
  · have c2 : gI σ 2 s 1 ≤ gI σ 19 0 6 := by omega
    simp (disch := omega) only [e_Tr_signAt_0, e_Tr_signAt_1, e_Tr_signAt_4, e_Tr_signAt_5, e_Tr_signAt_8, e_Tr_signAt_11, e_Tr_signAt_12, e_Tr_signAt_13, e_Tr_signAt_16, e_Tr_signAt_19, e_Tr_signAt_22, e_Tr_signAt_23, if_pos c2, if_neg c]
def kTb (σ : aM) (s lo hi : Int) : aM := if ¬ gI σ 19 0 7 = -1 then σ else if lts σ s (gI σ 19 0 6) < lo ∨ hi < lts σ s (gI σ 19 0 6) then uI σ 19 0 7 (gI σ 19 0 6) else uI σ 19 0 6 (gI σ 19 0 6 + 1)
theorem c_Tr_takeBetween (σ : aM) (s lo hi : Int) (h : okT σ s) (hp : 0 ≤ gI σ 19 0 6 ∧ gI σ 19 0 6 ≤ 1000) : ev 68 0 [aR 19 0, aR 2 s, aI lo, aI hi, aU] [] σ = some (some (aI (lts σ s (gI σ 19 0 6))), kTb σ s lo hi) := by
  have hs := c_Tr_signAt σ s h hp.1
  unfold kTb
  simp (disch := omega) only [e_Tr_takeBetween_0, e_Tr_takeBetween_1, e_Tr_takeBetween_2, e_Tr_takeBetween_5, e_Tr_takeBetween_7, e_Tr_takeBetween_8, e_Tr_takeBetween_11, e_Tr_takeBetween_12, e_Tr_takeBetween_15, e_Tr_takeBetween_17, e_Tr_takeBetween_18, e_Tr_takeBetween_20, e_Tr_takeBetween_21, e_Tr_takeBetween_24, e_Tr_takeBetween_26, e_Tr_takeBetween_27, e_Tr_takeBetween_30, e_Tr_takeBetween_31, e_Tr_takeBetween_32, e_Tr_takeBetween_35, e_Tr_takeBetween_38, e_Tr_takeBetween_41, e_Tr_takeBetween_42, e_Tr_takeBetween_43, e_Tr_takeBetween_46, e_Tr_takeBetween_47, e_Tr_takeBetween_48, e_Tr_takeBetween_51, e_Tr_takeBetween_53, hs, evK_i, wr_id]
  grind
theorem c_Tr_takeSign (σ : aM) (s w : Int) (h : okT σ s) (hp : 0 ≤ gI σ 19 0 6 ∧ gI σ 19 0 6 ≤ 1000) : ev 67 0 [aR 19 0, aR 2 s, aI w] [] σ = some (none, kTb σ s w w) := by
  simp (disch := omega) only [e_Tr_takeSign_0, e_Tr_takeSign_1, e_Tr_takeSign_2, e_Tr_takeSign_3, e_Tr_takeSign_4, e_Tr_takeSign_7, e_Tr_takeSign_8, c_Tr_takeBetween, evK_i]
theorem c_Tr_isDigitNext (σ : aM) (s : Int) (h : okT σ s) (hp : 0 ≤ gI σ 19 0 6 ∧ gI σ 19 0 6 ≤ 1000) : ev 70 0 [aR 19 0, aR 2 s, aU] [] σ = some (some (aI (if gI σ 19 0 7 = -1 ∧ isDg (lts σ s (gI σ 19 0 6)) then 1 else 0)), σ) := by
  have hs := c_Tr_signAt σ s h hp.1
  simp (disch := omega) only [e_Tr_isDigitNext_0, e_Tr_isDigitNext_1, e_Tr_isDigitNext_2, e_Tr_isDigitNext_5, e_Tr_isDigitNext_6, e_Tr_isDigitNext_7, e_Tr_isDigitNext_10, e_Tr_isDigitNext_11, e_Tr_isDigitNext_14, e_Tr_isDigitNext_15, e_Tr_isDigitNext_17, e_Tr_isDigitNext_20, e_Tr_isDigitNext_21, e_Tr_isDigitNext_23, e_Tr_isDigitNext_26, e_Tr_isDigitNext_27, e_Tr_isDigitNext_30, e_Tr_isDigitNext_31, hs, evK_i]
  grind
