/-! what is told -/
abbrev tdQ (σ : aM) (s f w : Int) : Prop := (if 0 ≤ f * 4 + w ∧ f * 4 + w < gI σ 2 s 1 then toi (gL σ 3 s (f * 4 + w)) else 0) = gI σ 10 0 (4 * f + w)
abbrev tdA (σ : aM) (s f : Int) : Prop := (0 ≤ f ∧ f < gI σ 9 0 3 ∧ f < 200) ∧ tdQ σ s f 0 ∧ tdQ σ s f 1 ∧ tdQ σ s f 2 ∧ tdQ σ s f 3
theorem c_Lg_isToldBy (σ : aM) (s f : Int) (h : okT σ s) (hf : f ≤ 1000) : ev 76 0 [aR 9 0, aR 2 s, aI f, aU] [] σ = some (some (aI (if tdA σ s f then 1 else 0)), σ) := by
  by_cases c : 0 ≤ f ∧ f < gI σ 9 0 3 ∧ f < 200
  · have ht : ∀ w, 0 ≤ w → w < 4 → ev 75 0 [aR 9 0, aI f, aI w] [] σ = some (some (aI (gI σ 10 0 (4 * f + w))), σ) := fun w h1 h2 => by
      have := c_Lg_tell f w σ
      rw [if_pos ⟨c.1, c.2.1, c.2.2, h1, h2⟩] at this
      exact this
    have hi : ∀ w, 0 ≤ w → w < 4 → ev 62 0 [aR 2 s, aI (f * 4 + w)] [] σ = some (some (aI (if 0 ≤ f * 4 + w ∧ f * 4 + w < gI σ 2 s 1 then toi (gL σ 3 s (f * 4 + w)) else 0)), σ) := fun w _ _ => c_Sh_intAt s (f * 4 + w) σ h
    have e : ∀ w, 0 ≤ w → w < 4 → ev 76 12 [aR 9 0, aR 2 s, aI f, aI w] [] σ = if tdQ σ s f w then ev 76 12 [aR 9 0, aR 2 s, aI f, aI (w + 1)] [] σ else some (some (aI 0), σ) := fun w h1 h2 => by
      rw [e_Lg_isToldBy_12]
      have h4 : ¬ (4 : Int) ≤ w := by omega
      simp (disch := omega) only [e_Lg_isToldBy_0, e_Lg_isToldBy_1, e_Lg_isToldBy_2, e_Lg_isToldBy_5, e_Lg_isToldBy_8, e_Lg_isToldBy_9, e_Lg_isToldBy_10, e_Lg_isToldBy_11, e_Lg_isToldBy_13, e_Lg_isToldBy_14, e_Lg_isToldBy_17, e_Lg_isToldBy_18, e_Lg_isToldBy_19, e_Lg_isToldBy_20, e_Lg_isToldBy_21, e_Lg_isToldBy_22, e_Lg_isToldBy_23, e_Lg_isToldBy_26, e_Lg_isToldBy_27, e_Lg_isToldBy_28, e_Lg_isToldBy_29, e_Lg_isToldBy_32, e_Lg_isToldBy_35, e_Lg_isToldBy_36, e_Lg_isToldBy_37, e_Lg_isToldBy_40, e_Lg_isToldBy_43, e_Lg_isToldBy_44, if_neg h4, evK_i, wr_id, hi, ht]
    have e4 : ev 76 12 [aR 9 0, aR 2 s, aI f, aI (3 + 1)] [] σ = some (some (aI 1), σ) := by
      rw [e_Lg_isToldBy_12]
      simp (disch := omega) only [e_Lg_isToldBy_0, e_Lg_isToldBy_1, e_Lg_isToldBy_2, e_Lg_isToldBy_5, e_Lg_isToldBy_8, e_Lg_isToldBy_9, e_Lg_isToldBy_10, e_Lg_isToldBy_11, e_Lg_isToldBy_13, e_Lg_isToldBy_14, e_Lg_isToldBy_17, e_Lg_isToldBy_18, e_Lg_isToldBy_19, e_Lg_isToldBy_20, e_Lg_isToldBy_21, e_Lg_isToldBy_22, e_Lg_isToldBy_23, e_Lg_isToldBy_26, e_Lg_isToldBy_27, e_Lg_isToldBy_28, e_Lg_isToldBy_29, e_Lg_isToldBy_32, e_Lg_isToldBy_35, e_Lg_isToldBy_36, e_Lg_isToldBy_37, e_Lg_isToldBy_40, e_Lg_isToldBy_43, e_Lg_isToldBy_44, if_pos (show (4 : Int) ≤ 3 + 1 by omega)]
    have hk := c_Lg_keeps 0 f σ
    rw [if_pos c] at hk
    simp (disch := omega) only [e_Lg_isToldBy_0, e_Lg_isToldBy_1, e_Lg_isToldBy_2, e_Lg_isToldBy_5, e_Lg_isToldBy_10, e_Lg_isToldBy_11, hk, evK_i, one_ne, not_false_eq_true, if_true]
    rw [e 0 (by omega) (by omega), e (0 + 1) (by omega) (by omega), e (0 + 1 + 1) (by omega) (by omega), e (0 + 1 + 1 + 1) (by omega) (by omega)]
    simp only [Int.reduceAdd] at e4 ⊢
    rw [e4]
    by_cases q0 : tdQ σ s f 0
    · by_cases q1 : tdQ σ s f 1
      · by_cases q2 : tdQ σ s f 2
        · by_cases q3 : tdQ σ s f 3
          · rw [if_pos q0, if_pos q1, if_pos q2, if_pos q3, if_pos ⟨c, q0, q1, q2, q3⟩]
          · rw [if_pos q0, if_pos q1, if_pos q2, if_neg q3, if_neg (fun q => q3 q.2.2.2.2)]
        · rw [if_pos q0, if_pos q1, if_neg q2, if_neg (fun q => q2 q.2.2.2.1)]
      · rw [if_pos q0, if_neg q1, if_neg (fun q => q1 q.2.2.1)]
    · rw [if_neg q0, if_neg (fun q => q0 q.2.1)]
  · have hk := c_Lg_keeps 0 f σ
    rw [if_neg c] at hk
    rw [if_neg (fun q => c q.1)]
    simp (disch := omega) only [e_Lg_isToldBy_0, e_Lg_isToldBy_1, e_Lg_isToldBy_2, e_Lg_isToldBy_5, e_Lg_isToldBy_8, e_Lg_isToldBy_9, hk, evK_i, not_true_eq_false, if_false]
abbrev rsn (σ : aM) (s : Int) : Int := if ¬ (0 ≤ s ∧ s < 8) then -1 else if ¬ gI σ 2 s 3 = -1 then -2 else if ¬ gI σ 2 s 2 = -1 then 0 else -3
