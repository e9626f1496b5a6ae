/-! the image -/
/-- orders below k are copied from book b to book a -/
def cpO (σ : aM) (a b k : Int) : aM := (fun t i j => if t = 8 ∧ 60 * a ≤ i ∧ i < 60 * a + k ∧ 1 ≤ j ∧ j ≤ 10 then gI σ 8 (i - 60 * a + 60 * b) j else gI σ t i j, σ.2)
theorem gI_cpO (σ : aM) (a b k : Int) (t : Nat) (i j : Int) : gI (cpO σ a b k) t i j = if t = 8 ∧ 60 * a ≤ i ∧ i < 60 * a + k ∧ 1 ≤ j ∧ j ≤ 10 then gI σ 8 (i - 60 * a + 60 * b) j else gI σ t i j := rfl
theorem cpO_0 (σ : aM) (a b : Int) : cpO σ a b 0 = σ := aM_ext (fun t i j => by rw [gI_cpO, if_neg (fun q => by omega)]) (fun _ _ _ => rfl) (fun _ => rfl)
theorem cpO_s (σ : aM) (a b k : Int) (h : (a = 0 ∧ b = 1) ∨ (a = 1 ∧ b = 0)) (hk : 0 ≤ k ∧ k < 60) : kTo (cpO σ a b k) (60 * a + k) (60 * b + k) = cpO σ a b (k + 1) := by
  have hr : ∀ j, gI (cpO σ a b k) 8 (60 * b + k) j = gI σ 8 (60 * b + k) j := fun j => by rw [gI_cpO, if_neg (fun q => by omega)]
  unfold kTo
  simp only [hr]
  refine aM_ext (fun t i j => ?_) (fun _ _ _ => rfl) (fun _ => rfl)
  simp only [gI_uI, gI_cpO]
  by_cases c : t = 8 ∧ i = 60 * a + k
  · obtain ⟨c1, c2⟩ := c
    subst c1
    have e1 : i - 60 * a + 60 * b = 60 * b + k := by omega
    rw [e1]
    by_cases c3 : 1 ≤ j ∧ j ≤ 10
    · rw [if_pos (show (8 : Nat) = 8 ∧ 60 * a ≤ i ∧ i < 60 * a + (k + 1) ∧ 1 ≤ j ∧ j ≤ 10 by omega)]
      have e3 : j = 1 ∨ j = 2 ∨ j = 3 ∨ j = 4 ∨ j = 5 ∨ j = 6 ∨ j = 7 ∨ j = 8 ∨ j = 9 ∨ j = 10 := by omega
      rcases e3 with q | q | q | q | q | q | q | q | q | q <;> subst q <;> simp [c2]
    · rw [if_neg (show ¬ ((8 : Nat) = 8 ∧ 60 * a ≤ i ∧ i < 60 * a + (k + 1) ∧ 1 ≤ j ∧ j ≤ 10) by omega), if_neg (show ¬ ((8 : Nat) = 8 ∧ 60 * a ≤ i ∧ i < 60 * a + k ∧ 1 ≤ j ∧ j ≤ 10) by omega)]
      repeat rw [if_neg (show ¬ _ by omega)]
  · repeat rw [if_neg (show ¬ (t = 8 ∧ i = 60 * a + k ∧ _) from fun q => c ⟨q.1, q.2.1⟩)]
    by_cases c4 : t = 8 ∧ 60 * a ≤ i ∧ i < 60 * a + k ∧ 1 ≤ j ∧ j ≤ 10
    · rw [if_pos c4, if_pos (by omega)]
    · rw [if_neg c4, if_neg (by omega)]
theorem l_Bk_takeOver (σ : aM) (a b c : Int) (h : (a = 0 ∧ b = 1) ∨ (a = 1 ∧ b = 0)) (hc : gI σ 6 b 2 = c) (hc6 : c ≤ 60) : ∀ (n : Nat) (k : Int), 0 ≤ k → k + n = c → ev 4 2 [aR 6 a, aR 6 b, aI k] [] (cpO σ a b k) = ev 4 31 [aR 6 a, aR 6 b, aI c] [] (cpO σ a b c) := by
  have hcc : ∀ k, gI (cpO σ a b k) 6 b 2 = c := fun k => by rw [gI_cpO, if_neg (fun q => by omega), hc]
  intro n
  induction n with
  | zero =>
    intro k h0 h1
    have hk : k = c := by omega
    rw [hk, e_Bk_takeOver_2]
    simp (disch := omega) only [e_Bk_takeOver_3, e_Bk_takeOver_4, e_Bk_takeOver_7, hcc, if_pos (Int.le_refl c)]
  | succ n ih =>
    intro k h0 h1
    have hle : ¬ c ≤ k := by omega
    have i1 : 0 ≤ a ∧ a ≤ 1 := by omega
    have i2 : 0 ≤ b ∧ b ≤ 1 := by omega
    have hs := cpO_s σ a b k h (by omega)
    rw [e_Bk_takeOver_2]
    simp (disch := omega) only [e_Bk_takeOver_3, e_Bk_takeOver_4, e_Bk_takeOver_7, e_Bk_takeOver_10, e_Bk_takeOver_11, e_Bk_takeOver_14, e_Bk_takeOver_15, e_Bk_takeOver_16, e_Bk_takeOver_17, e_Bk_takeOver_20, e_Bk_takeOver_21, e_Bk_takeOver_22, e_Bk_takeOver_25, e_Bk_takeOver_28, hcc, if_neg hle, c_Ord_takeOver, evK_v, hs, wr_id]
    exact ih (k + 1) (by omega) (by omega)
def kLt (σ : aM) (a b : Int) : aM := uI (uI (kI (kI (kI σ 10 b 0 10 a 0 800) 11 b 0 11 a 0 8) 12 b 0 12 a 0 8) 9 a 3 (gI σ 9 b 3)) 9 a 4 (gI σ 9 b 4)
theorem c_Lg_takeOver (σ : aM) (a b : Int) (h : (a = 0 ∧ b = 1) ∨ (a = 1 ∧ b = 0)) : ev 72 0 [aR 9 a, aR 9 b] [] σ = some (none, kLt σ a b) := by
  have hn : ¬ b = a := by omega
  unfold kLt
  simp (disch := omega) only [e_Lg_takeOver_0, e_Lg_takeOver_1, e_Lg_takeOver_4, e_Lg_takeOver_5, e_Lg_takeOver_6, e_Lg_takeOver_9, e_Lg_takeOver_10, e_Lg_takeOver_11, e_Lg_takeOver_14, e_Lg_takeOver_15, e_Lg_takeOver_18, e_Lg_takeOver_19, e_Lg_takeOver_22, e_Lg_takeOver_23, e_Lg_takeOver_24, e_Lg_takeOver_27, e_Lg_takeOver_28, e_Lg_takeOver_30, e_Lg_takeOver_33, e_Lg_takeOver_34, e_Lg_takeOver_37, e_Lg_takeOver_38, e_Lg_takeOver_39, e_Lg_takeOver_42, e_Lg_takeOver_43, e_Lg_takeOver_45, e_Lg_takeOver_48, e_Lg_takeOver_49, e_Lg_takeOver_50, e_Lg_takeOver_53, e_Lg_takeOver_56, e_Lg_takeOver_57, e_Lg_takeOver_58, e_Lg_takeOver_61, e_Lg_takeOver_64, gI_kI, gI_self, gI_nt, gI_nj, gL_uI, gR_uI, gI_uL, gR_uL, gI_uR, gL_uR]
  simp
/-- book b's state comes over to book a -/
def kBk (σ : aM) (a b : Int) : aM := (fun t i j =>
  if t = 8 ∧ 60 * a ≤ i ∧ i < 60 * a + gI σ 6 b 2 ∧ 1 ≤ j ∧ j ≤ 10 then gI σ 8 (i - 60 * a + 60 * b) j
  else if (t = 10 ∧ i = a ∧ 0 ≤ j ∧ j < 800) ∨ ((t = 11 ∨ t = 12) ∧ i = a ∧ 0 ≤ j ∧ j < 8) ∨ (t = 9 ∧ i = a ∧ 3 ≤ j ∧ j ≤ 4) ∨ (t = 6 ∧ i = a ∧ 2 ≤ j ∧ j ≤ 6) then gI σ t b j
  else gI σ t i j, σ.2)
theorem gI_kBk (σ : aM) (a b : Int) (t : Nat) (i j : Int) : gI (kBk σ a b) t i j =
  if t = 8 ∧ 60 * a ≤ i ∧ i < 60 * a + gI σ 6 b 2 ∧ 1 ≤ j ∧ j ≤ 10 then gI σ 8 (i - 60 * a + 60 * b) j
  else if (t = 10 ∧ i = a ∧ 0 ≤ j ∧ j < 800) ∨ ((t = 11 ∨ t = 12) ∧ i = a ∧ 0 ≤ j ∧ j < 8) ∨ (t = 9 ∧ i = a ∧ 3 ≤ j ∧ j ≤ 4) ∨ (t = 6 ∧ i = a ∧ 2 ≤ j ∧ j ≤ 6) then gI σ t b j
  else gI σ t i j := rfl
theorem c_Bk_takeOver (σ : aM) (a b : Int) (h : (a = 0 ∧ b = 1) ∨ (a = 1 ∧ b = 0)) (h0 : 0 ≤ gI σ 6 b 2 ∧ gI σ 6 b 2 ≤ 60) : ev 4 0 [aR 6 a, aR 6 b, aU] [] σ = some (none, kBk σ a b) := by
  have hl := l_Bk_takeOver σ a b _ h rfl h0.2 (gI σ 6 b 2).toNat 0 (by omega) (by omega)
  rw [cpO_0] at hl
  have hn : ¬ b = a := by omega
  have hg := fun τ => c_Lg_takeOver τ a b h
  simp (disch := omega) only [e_Bk_takeOver_0, e_Bk_takeOver_1, e_Bk_takeOver_3, e_Bk_takeOver_4, e_Bk_takeOver_7, e_Bk_takeOver_10, e_Bk_takeOver_11, e_Bk_takeOver_14, e_Bk_takeOver_15, e_Bk_takeOver_16, e_Bk_takeOver_17, e_Bk_takeOver_20, e_Bk_takeOver_21, e_Bk_takeOver_22, e_Bk_takeOver_25, e_Bk_takeOver_28, e_Bk_takeOver_31, e_Bk_takeOver_32, e_Bk_takeOver_35, e_Bk_takeOver_36, e_Bk_takeOver_39, e_Bk_takeOver_42, e_Bk_takeOver_43, e_Bk_takeOver_44, e_Bk_takeOver_47, e_Bk_takeOver_50, e_Bk_takeOver_51, e_Bk_takeOver_52, e_Bk_takeOver_55, e_Bk_takeOver_58, e_Bk_takeOver_59, e_Bk_takeOver_60, e_Bk_takeOver_63, e_Bk_takeOver_66, e_Bk_takeOver_67, e_Bk_takeOver_68, e_Bk_takeOver_71, e_Bk_takeOver_74, e_Bk_takeOver_75, e_Bk_takeOver_76, e_Bk_takeOver_79, e_Bk_takeOver_82, hl, hg, evK_v, gI_self, gI_nt, gI_nj, gL_uI, gR_uI, gI_uL, gR_uL, gI_uR, gL_uR, gI_ni]
  refine congrArg _ (congrArg _ (aM_ext (fun t i j => ?_) (fun _ _ _ => rfl) (fun _ => rfl)))
  unfold kLt
  rw [gI_kBk]
  simp only [gI_uI, gI_kI, gI_cpO]
  by_cases c8 : t = 8
  · subst c8; simp
  by_cases c6 : t = 6
  · subst c6
    by_cases ca : i = a
    · subst ca
      have e3 : j = 2 ∨ j = 3 ∨ j = 4 ∨ j = 5 ∨ j = 6 ∨ ¬ (2 ≤ j ∧ j ≤ 6) := by omega
      rcases e3 with q | q | q | q | q | q
      · subst q; simp
      · subst q; simp
      · subst q; simp
      · subst q; simp
      · subst q; simp
      · have q2 : ¬ j = 2 := by omega
        have q3 : ¬ j = 3 := by omega
        have q4 : ¬ j = 4 := by omega
        have q5 : ¬ j = 5 := by omega
        have q6 : ¬ j = 6 := by omega
        simp [q2, q3, q4, q5, q6, q]
    · simp [ca]
  · by_cases ca : i = a
    · subst ca
      have hab : ¬ i = b := fun q => hn q.symm
      by_cases c9 : t = 9
      · subst c9
        have e3 : j = 3 ∨ j = 4 ∨ ¬ (3 ≤ j ∧ j ≤ 4) := by omega
        rcases e3 with q | q | q
        · subst q; simp
        · subst q; simp
        · have q3 : ¬ j = 3 := by omega
          have q4 : ¬ j = 4 := by omega
          simp [q3, q4, q]
      · have ejj : j - 0 + 0 = j := by omega
        by_cases cA : t = 10
        · subst cA; simp [hab]
        by_cases cB : t = 11
        · subst cB; simp [hab]
        by_cases cC : t = 12
        · subst cC; simp [hab]
        simp [c8, c6, c9, cA, cB, cC]
    · simp [ca, c8]
