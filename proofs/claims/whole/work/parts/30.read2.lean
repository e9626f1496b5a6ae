/-! numbers and items are taken -/
theorem uI_uI (σ : aM) (t : Nat) (i j v w : Int) : uI (uI σ t i j v) t i j w = uI σ t i j w := aM_ext (fun t' i' j' => by rw [gI_uI, gI_uI, gI_uI]; grind) (fun _ _ _ => rfl) (fun _ => rfl)
/-- memories that differ in the reader's place and fault alone -/
def FrP (σ τ : aM) : Prop := τ.2 = σ.2 ∧ ∀ t i j, ¬ (t = 19 ∧ i = 0 ∧ (j = 6 ∨ j = 7)) → gI τ t i j = gI σ t i j
theorem FrP.rfl (σ : aM) : FrP σ σ := ⟨Eq.refl _, fun _ _ _ _ => Eq.refl _⟩
theorem FrP.trans {a b c : aM} (h1 : FrP a b) (h2 : FrP b c) : FrP a c := ⟨h2.1.trans h1.1, fun t i j h => (h2.2 t i j h).trans (h1.2 t i j h)⟩
theorem FrP.u {σ τ : aM} (h : FrP σ τ) (j v : Int) (hj : j = 6 ∨ j = 7) : FrP σ (uI τ 19 0 j v) := ⟨h.1, fun t' i' j' h1 => by
  rw [gI_uI, if_neg (fun q => h1 (by omega))]
  exact h.2 t' i' j' h1⟩
theorem FrP.T {σ τ : aM} (h : FrP σ τ) : FrT σ τ := ⟨h.1, fun t i j h1 => h.2 t i j (by omega)⟩
theorem FrP.ok {σ τ : aM} (h : FrP σ τ) {s : Int} (ho : okT σ s) : okT τ s := by
  unfold okT
  rw [h.2 2 s 1 (by omega)]
  exact ho
theorem lts_u (σ : aM) (s p j v : Int) (hj : j = 6 ∨ j = 7) : lts (uI σ 19 0 j v) s p = lts σ s p := (((FrP.rfl σ).u j v hj).T).lts s p
theorem okT_u {σ : aM} {s : Int} (h : okT σ s) (j v : Int) (hj : j = 6 ∨ j = 7) : okT (uI σ 19 0 j v) s := ((FrP.rfl σ).u j v hj).ok h
/-- with a fault nothing is taken any more -/
theorem kTb_bad {σ : aM} (s lo hi : Int) (hf : ¬ gI σ 19 0 7 = -1) : kTb σ s lo hi = σ := if_pos hf
theorem kTb_ok {σ : aM} {s lo hi p : Int} (hf : gI σ 19 0 7 = -1) (hp : gI σ 19 0 6 = p) (h : lo ≤ lts σ s p ∧ lts σ s p ≤ hi) : kTb σ s lo hi = uI σ 19 0 6 (p + 1) := by
  unfold kTb
  rw [hp, if_neg (fun q => q hf), if_neg (by omega)]
theorem kTb_no {σ : aM} {s lo hi p : Int} (hf : gI σ 19 0 7 = -1) (hp : gI σ 19 0 6 = p) (h : ¬ (lo ≤ lts σ s p ∧ lts σ s p ≤ hi)) : kTb σ s lo hi = uI σ 19 0 7 p := by
  unfold kTb
  rw [hp, if_neg (fun q => q hf), if_pos (by omega)]
theorem c_Tr_takeNumber_bad (σ : aM) (s : Int) (h : okT σ s) (hp : 0 ≤ gI σ 19 0 6 ∧ gI σ 19 0 6 ≤ 900) (hf : ¬ gI σ 19 0 7 = -1) : ∃ x, ev 69 0 [aR 19 0, aR 2 s, aU, aU, aU] [] σ = some (some (aI x), σ) := by
  have h1 := c_Tr_takeBetween σ s 48 57 h (by omega)
  have h2 := c_Tr_isDigitNext σ s h (by omega)
  rw [kTb_bad s 48 57 hf] at h1
  rw [if_neg (fun q => hf q.1)] at h2
  refine ⟨wr (lts σ s (gI σ 19 0 6) - 48), ?_⟩
  simp (disch := omega) only [e_Tr_takeNumber_0, e_Tr_takeNumber_1, e_Tr_takeNumber_4, e_Tr_takeNumber_5, e_Tr_takeNumber_6, e_Tr_takeNumber_7, e_Tr_takeNumber_9, e_Tr_takeNumber_11, e_Tr_takeNumber_14, e_Tr_takeNumber_16, e_Tr_takeNumber_17, e_Tr_takeNumber_18, e_Tr_takeNumber_19, e_Tr_takeNumber_23, e_Tr_takeNumber_24, e_Tr_takeNumber_27, e_Tr_takeNumber_28, e_Tr_takeNumber_29, e_Tr_takeNumber_32, e_Tr_takeNumber_35, e_Tr_takeNumber_36, e_Tr_takeNumber_38, e_Tr_takeNumber_39, e_Tr_takeNumber_40, e_Tr_takeNumber_41, e_Tr_takeNumber_43, e_Tr_takeNumber_45, e_Tr_takeNumber_48, e_Tr_takeNumber_49, e_Tr_takeNumber_51, e_Tr_takeNumber_52, e_Tr_takeNumber_53, e_Tr_takeNumber_56, e_Tr_takeNumber_60, e_Tr_takeNumber_63, e_Tr_takeNumber_64, e_Tr_takeNumber_67, e_Tr_takeNumber_68, e_Tr_takeNumber_71, e_Tr_takeNumber_74, e_Tr_takeNumber_75, e_Tr_takeNumber_76, e_Tr_takeNumber_79, e_Tr_takeNumber_80, h1, evK_i]
  rw [e_Tr_takeNumber_21]
  simp (disch := omega) only [e_Tr_takeNumber_23, e_Tr_takeNumber_24, e_Tr_takeNumber_27, e_Tr_takeNumber_28, e_Tr_takeNumber_29, e_Tr_takeNumber_32, h2, evK_i, if_true, if_neg (show ¬ (3 : Int) ≤ 1 by omega)]
  rw [e_Tr_takeNumber_59]
  simp (disch := omega) only [e_Tr_takeNumber_60, e_Tr_takeNumber_63, e_Tr_takeNumber_64, e_Tr_takeNumber_79, e_Tr_takeNumber_80, hf, not_false_eq_true, if_true]
theorem c_Tr_takeNumber_ok (σ : aM) (s p p1 n : Int) (h : okT σ s) (hp : gI σ 19 0 6 = p) (hpp : 0 ≤ p ∧ p ≤ 900) (hf : gI σ 19 0 7 = -1) (hn : pNm (lts σ s) p = .inl (p1, n)) : ev 69 0 [aR 19 0, aR 2 s, aU, aU, aU] [] σ = some (some (aI n), uI σ 19 0 6 p1) := by
  unfold pNm at hn
  have d1 : isDg (lts σ s p) := by
    apply Classical.byContradiction
    intro q
    rw [if_pos q] at hn
    cases hn
  rw [if_neg (fun q => q d1)] at hn
  have h1 := c_Tr_takeBetween σ s 48 57 h (by omega)
  rw [kTb_ok hf hp d1, hp] at h1
  have o1 := okT_u h 6 (p + 1) (by omega)
  have f1 : gI (uI σ 19 0 6 (p + 1)) 19 0 7 = -1 := by simp (disch := omega) only [gI_self, gI_nt, gI_nj, gL_uI, gR_uI, gI_uL, gR_uL, gI_uR, gL_uR, hf]
  have q1 : gI (uI σ 19 0 6 (p + 1)) 19 0 6 = p + 1 := gI_self _ _ _ _ _
  have h2 := c_Tr_isDigitNext _ s o1 (by rw [q1]; omega)
  rw [f1, q1, lts_u σ s _ _ _ (by omega)] at h2
  by_cases d2 : isDg (lts σ s (p + 1))
  · rw [if_neg (fun q => q d2)] at hn
    rw [if_pos ⟨rfl, d2⟩] at h2
    have h3 := c_Tr_takeBetween _ s 48 57 o1 (by rw [q1]; omega)
    rw [kTb_ok f1 q1 (by rw [lts_u σ s _ _ _ (by omega)]; exact d2), q1, lts_u σ s _ _ _ (by omega), uI_uI] at h3
    have o2 := okT_u h 6 (p + 1 + 1) (by omega)
    have f2 : gI (uI σ 19 0 6 (p + 1 + 1)) 19 0 7 = -1 := by simp (disch := omega) only [gI_self, gI_nt, gI_nj, gL_uI, gR_uI, gI_uL, gR_uL, gI_uR, gL_uR, hf]
    have q2 : gI (uI σ 19 0 6 (p + 1 + 1)) 19 0 6 = p + 1 + 1 := gI_self _ _ _ _ _
    have h4 := c_Tr_isDigitNext _ s o2 (by rw [q2]; omega)
    rw [f2, q2, lts_u σ s _ _ _ (by omega)] at h4
    rw [show p + 2 = p + 1 + 1 by omega, show p + 3 = p + 1 + 1 + 1 by omega] at hn
    by_cases d3 : isDg (lts σ s (p + 1 + 1))
    · rw [if_neg (fun q => q d3)] at hn
      rw [if_pos ⟨rfl, d3⟩] at h4
      have h5 := c_Tr_takeBetween _ s 48 57 o2 (by rw [q2]; omega)
      rw [kTb_ok f2 q2 (by rw [lts_u σ s _ _ _ (by omega)]; exact d3), q2, lts_u σ s _ _ _ (by omega), uI_uI] at h5
      split at hn
      · cases hn
      · rename_i nz
        injection hn with hn
        injection hn with e1 e2
        subst e1; subst e2
        have hm := c_Ub_isMeasure (((lts σ s p - 48) * 10 + lts σ s (p + 1) - 48) * 10 + lts σ s (p + 1 + 1) - 48) (uI σ 19 0 6 (p + 1 + 1 + 1))
        rw [if_pos (by omega)] at hm
        simp (disch := omega) only [e_Tr_takeNumber_0, e_Tr_takeNumber_1, e_Tr_takeNumber_4, e_Tr_takeNumber_5, e_Tr_takeNumber_6, e_Tr_takeNumber_7, e_Tr_takeNumber_9, e_Tr_takeNumber_11, e_Tr_takeNumber_14, e_Tr_takeNumber_16, e_Tr_takeNumber_17, e_Tr_takeNumber_18, e_Tr_takeNumber_19, e_Tr_takeNumber_21, e_Tr_takeNumber_23, e_Tr_takeNumber_24, e_Tr_takeNumber_27, e_Tr_takeNumber_28, e_Tr_takeNumber_29, e_Tr_takeNumber_32, e_Tr_takeNumber_35, e_Tr_takeNumber_36, e_Tr_takeNumber_38, e_Tr_takeNumber_39, e_Tr_takeNumber_40, e_Tr_takeNumber_41, e_Tr_takeNumber_43, e_Tr_takeNumber_45, e_Tr_takeNumber_48, e_Tr_takeNumber_49, e_Tr_takeNumber_51, e_Tr_takeNumber_52, e_Tr_takeNumber_53, e_Tr_takeNumber_56, e_Tr_takeNumber_59, e_Tr_takeNumber_60, e_Tr_takeNumber_63, e_Tr_takeNumber_64, e_Tr_takeNumber_67, e_Tr_takeNumber_68, e_Tr_takeNumber_71, e_Tr_takeNumber_74, e_Tr_takeNumber_75, e_Tr_takeNumber_76, e_Tr_takeNumber_79, e_Tr_takeNumber_80, hp, h1, h2, h3, h4, h5, evK_i, one_ne, if_false, if_true, show ¬ (3 : Int) ≤ 1 by omega, show ¬ (3 : Int) ≤ 2 by omega, show (3 : Int) ≤ 3 by omega, wr_id, Int.reduceAdd, gI_nj, hf, not_true_eq_false, not_false_eq_true, hm]
    · rw [if_pos d3] at hn
      rw [if_neg (fun q => d3 q.2)] at h4
      split at hn
      · cases hn
      · rename_i nz
        injection hn with hn
        injection hn with e1 e2
        subst e1; subst e2
        have hm := c_Ub_isMeasure ((lts σ s p - 48) * 10 + lts σ s (p + 1) - 48) (uI σ 19 0 6 (p + 1 + 1))
        rw [if_pos (by omega)] at hm
        simp (disch := omega) only [e_Tr_takeNumber_0, e_Tr_takeNumber_1, e_Tr_takeNumber_4, e_Tr_takeNumber_5, e_Tr_takeNumber_6, e_Tr_takeNumber_7, e_Tr_takeNumber_9, e_Tr_takeNumber_11, e_Tr_takeNumber_14, e_Tr_takeNumber_16, e_Tr_takeNumber_17, e_Tr_takeNumber_18, e_Tr_takeNumber_19, e_Tr_takeNumber_21, e_Tr_takeNumber_23, e_Tr_takeNumber_24, e_Tr_takeNumber_27, e_Tr_takeNumber_28, e_Tr_takeNumber_29, e_Tr_takeNumber_32, e_Tr_takeNumber_35, e_Tr_takeNumber_36, e_Tr_takeNumber_38, e_Tr_takeNumber_39, e_Tr_takeNumber_40, e_Tr_takeNumber_41, e_Tr_takeNumber_43, e_Tr_takeNumber_45, e_Tr_takeNumber_48, e_Tr_takeNumber_49, e_Tr_takeNumber_51, e_Tr_takeNumber_52, e_Tr_takeNumber_53, e_Tr_takeNumber_56, e_Tr_takeNumber_59, e_Tr_takeNumber_60, e_Tr_takeNumber_63, e_Tr_takeNumber_64, e_Tr_takeNumber_67, e_Tr_takeNumber_68, e_Tr_takeNumber_71, e_Tr_takeNumber_74, e_Tr_takeNumber_75, e_Tr_takeNumber_76, e_Tr_takeNumber_79, e_Tr_takeNumber_80, hp, h1, h2, h3, h4, evK_i, one_ne, if_false, if_true, show ¬ (3 : Int) ≤ 1 by omega, show ¬ (3 : Int) ≤ 2 by omega, wr_id, Int.reduceAdd, gI_nj, hf, not_true_eq_false, not_false_eq_true, hm]
  · rw [if_pos d2] at hn
    rw [if_neg (fun q => d2 q.2)] at h2
    split at hn
    · cases hn
    · rename_i nz
      injection hn with hn
      injection hn with e1 e2
      subst e1; subst e2
      have hm := c_Ub_isMeasure (lts σ s p - 48) (uI σ 19 0 6 (p + 1))
      rw [if_pos (by omega)] at hm
      simp (disch := omega) only [e_Tr_takeNumber_0, e_Tr_takeNumber_1, e_Tr_takeNumber_4, e_Tr_takeNumber_5, e_Tr_takeNumber_6, e_Tr_takeNumber_7, e_Tr_takeNumber_9, e_Tr_takeNumber_11, e_Tr_takeNumber_14, e_Tr_takeNumber_16, e_Tr_takeNumber_17, e_Tr_takeNumber_18, e_Tr_takeNumber_19, e_Tr_takeNumber_21, e_Tr_takeNumber_23, e_Tr_takeNumber_24, e_Tr_takeNumber_27, e_Tr_takeNumber_28, e_Tr_takeNumber_29, e_Tr_takeNumber_32, e_Tr_takeNumber_35, e_Tr_takeNumber_36, e_Tr_takeNumber_38, e_Tr_takeNumber_39, e_Tr_takeNumber_40, e_Tr_takeNumber_41, e_Tr_takeNumber_43, e_Tr_takeNumber_45, e_Tr_takeNumber_48, e_Tr_takeNumber_49, e_Tr_takeNumber_51, e_Tr_takeNumber_52, e_Tr_takeNumber_53, e_Tr_takeNumber_56, e_Tr_takeNumber_59, e_Tr_takeNumber_60, e_Tr_takeNumber_63, e_Tr_takeNumber_64, e_Tr_takeNumber_67, e_Tr_takeNumber_68, e_Tr_takeNumber_71, e_Tr_takeNumber_74, e_Tr_takeNumber_75, e_Tr_takeNumber_76, e_Tr_takeNumber_79, e_Tr_takeNumber_80, hp, h1, h2, evK_i, one_ne, if_false, if_true, show ¬ (3 : Int) ≤ 1 by omega, wr_id, Int.reduceAdd, gI_nj, hf, not_true_eq_false, not_false_eq_true, hm]
theorem c_Tr_takeNumber_no (σ : aM) (s p k : Int) (h : okT σ s) (hp : gI σ 19 0 6 = p) (hpp : 0 ≤ p ∧ p ≤ 900) (hf : gI σ 19 0 7 = -1) (hn : pNm (lts σ s) p = .inr k) : ∃ x τ, ev 69 0 [aR 19 0, aR 2 s, aU, aU, aU] [] σ = some (some (aI x), τ) ∧ FrP σ τ ∧ gI τ 19 0 7 = k ∧ k = p ∧ (0 ≤ gI τ 19 0 6 ∧ gI τ 19 0 6 ≤ p + 3) := by
  unfold pNm at hn
  have h1 := c_Tr_takeBetween σ s 48 57 h (by omega)
  by_cases d1 : isDg (lts σ s p)
  · rw [if_neg (fun q => q d1)] at hn
    rw [kTb_ok hf hp d1, hp] at h1
    have o1 := okT_u h 6 (p + 1) (by omega)
    have f1 : gI (uI σ 19 0 6 (p + 1)) 19 0 7 = -1 := by simp (disch := omega) only [gI_self, gI_nt, gI_nj, gL_uI, gR_uI, gI_uL, gR_uL, gI_uR, gL_uR, hf]
    have q1 : gI (uI σ 19 0 6 (p + 1)) 19 0 6 = p + 1 := gI_self _ _ _ _ _
    have h2 := c_Tr_isDigitNext _ s o1 (by rw [q1]; omega)
    rw [f1, q1, lts_u σ s _ _ _ (by omega)] at h2
    by_cases d2 : isDg (lts σ s (p + 1))
    · rw [if_neg (fun q => q d2)] at hn
      rw [if_pos ⟨rfl, d2⟩] at h2
      have h3 := c_Tr_takeBetween _ s 48 57 o1 (by rw [q1]; omega)
      rw [kTb_ok f1 q1 (by rw [lts_u σ s _ _ _ (by omega)]; exact d2), q1, lts_u σ s _ _ _ (by omega), uI_uI] at h3
      have o2 := okT_u h 6 (p + 1 + 1) (by omega)
      have f2 : gI (uI σ 19 0 6 (p + 1 + 1)) 19 0 7 = -1 := by simp (disch := omega) only [gI_self, gI_nt, gI_nj, gL_uI, gR_uI, gI_uL, gR_uL, gI_uR, gL_uR, hf]
      have q2 : gI (uI σ 19 0 6 (p + 1 + 1)) 19 0 6 = p + 1 + 1 := gI_self _ _ _ _ _
      have h4 := c_Tr_isDigitNext _ s o2 (by rw [q2]; omega)
      rw [f2, q2, lts_u σ s _ _ _ (by omega)] at h4
      rw [show p + 2 = p + 1 + 1 by omega, show p + 3 = p + 1 + 1 + 1 by omega] at hn
      by_cases d3 : isDg (lts σ s (p + 1 + 1))
      · rw [if_neg (fun q => q d3)] at hn
        rw [if_pos ⟨rfl, d3⟩] at h4
        have h5 := c_Tr_takeBetween _ s 48 57 o2 (by rw [q2]; omega)
        rw [kTb_ok f2 q2 (by rw [lts_u σ s _ _ _ (by omega)]; exact d3), q2, lts_u σ s _ _ _ (by omega), uI_uI] at h5
        split at hn
        · rename_i z
          injection hn with hn
          subst hn
          have hm := c_Ub_isMeasure (((lts σ s p - 48) * 10 + lts σ s (p + 1) - 48) * 10 + lts σ s (p + 1 + 1) - 48) (uI σ 19 0 6 (p + 1 + 1 + 1))
          rw [if_neg (by omega)] at hm
          refine ⟨((lts σ s p - 48) * 10 + lts σ s (p + 1) - 48) * 10 + lts σ s (p + 1 + 1) - 48, uI (uI σ 19 0 6 (p + 1 + 1 + 1)) 19 0 7 p, ?_, ((FrP.rfl σ).u _ _ (by omega)).u _ _ (by omega), gI_self _ _ _ _ _, rfl, by simp (disch := omega) only [gI_self, gI_nt, gI_nj, gL_uI, gR_uI, gI_uL, gR_uL, gI_uR, gL_uR]; omega⟩
          simp (disch := omega) only [e_Tr_takeNumber_0, e_Tr_takeNumber_1, e_Tr_takeNumber_4, e_Tr_takeNumber_5, e_Tr_takeNumber_6, e_Tr_takeNumber_7, e_Tr_takeNumber_9, e_Tr_takeNumber_11, e_Tr_takeNumber_14, e_Tr_takeNumber_16, e_Tr_takeNumber_17, e_Tr_takeNumber_18, e_Tr_takeNumber_19, e_Tr_takeNumber_21, e_Tr_takeNumber_23, e_Tr_takeNumber_24, e_Tr_takeNumber_27, e_Tr_takeNumber_28, e_Tr_takeNumber_29, e_Tr_takeNumber_32, e_Tr_takeNumber_35, e_Tr_takeNumber_36, e_Tr_takeNumber_38, e_Tr_takeNumber_39, e_Tr_takeNumber_40, e_Tr_takeNumber_41, e_Tr_takeNumber_43, e_Tr_takeNumber_45, e_Tr_takeNumber_48, e_Tr_takeNumber_49, e_Tr_takeNumber_51, e_Tr_takeNumber_52, e_Tr_takeNumber_53, e_Tr_takeNumber_56, e_Tr_takeNumber_59, e_Tr_takeNumber_60, e_Tr_takeNumber_63, e_Tr_takeNumber_64, e_Tr_takeNumber_67, e_Tr_takeNumber_68, e_Tr_takeNumber_71, e_Tr_takeNumber_74, e_Tr_takeNumber_75, e_Tr_takeNumber_76, e_Tr_takeNumber_79, e_Tr_takeNumber_80, hp, h1, h2, h3, h4, h5, evK_i, one_ne, if_false, if_true, show ¬ (3 : Int) ≤ 1 by omega, show ¬ (3 : Int) ≤ 2 by omega, show (3 : Int) ≤ 3 by omega, wr_id, Int.reduceAdd, gI_nj, hf, not_true_eq_false, not_false_eq_true, hm]
        · cases hn
      · rw [if_pos d3] at hn
        rw [if_neg (fun q => d3 q.2)] at h4
        split at hn
        · rename_i z
          injection hn with hn
          subst hn
          have hm := c_Ub_isMeasure ((lts σ s p - 48) * 10 + lts σ s (p + 1) - 48) (uI σ 19 0 6 (p + 1 + 1))
          rw [if_neg (by omega)] at hm
          refine ⟨(lts σ s p - 48) * 10 + lts σ s (p + 1) - 48, uI (uI σ 19 0 6 (p + 1 + 1)) 19 0 7 p, ?_, ((FrP.rfl σ).u _ _ (by omega)).u _ _ (by omega), gI_self _ _ _ _ _, rfl, by simp (disch := omega) only [gI_self, gI_nt, gI_nj, gL_uI, gR_uI, gI_uL, gR_uL, gI_uR, gL_uR]; omega⟩
          simp (disch := omega) only [e_Tr_takeNumber_0, e_Tr_takeNumber_1, e_Tr_takeNumber_4, e_Tr_takeNumber_5, e_Tr_takeNumber_6, e_Tr_takeNumber_7, e_Tr_takeNumber_9, e_Tr_takeNumber_11, e_Tr_takeNumber_14, e_Tr_takeNumber_16, e_Tr_takeNumber_17, e_Tr_takeNumber_18, e_Tr_takeNumber_19, e_Tr_takeNumber_21, e_Tr_takeNumber_23, e_Tr_takeNumber_24, e_Tr_takeNumber_27, e_Tr_takeNumber_28, e_Tr_takeNumber_29, e_Tr_takeNumber_32, e_Tr_takeNumber_35, e_Tr_takeNumber_36, e_Tr_takeNumber_38, e_Tr_takeNumber_39, e_Tr_takeNumber_40, e_Tr_takeNumber_41, e_Tr_takeNumber_43, e_Tr_takeNumber_45, e_Tr_takeNumber_48, e_Tr_takeNumber_49, e_Tr_takeNumber_51, e_Tr_takeNumber_52, e_Tr_takeNumber_53, e_Tr_takeNumber_56, e_Tr_takeNumber_59, e_Tr_takeNumber_60, e_Tr_takeNumber_63, e_Tr_takeNumber_64, e_Tr_takeNumber_67, e_Tr_takeNumber_68, e_Tr_takeNumber_71, e_Tr_takeNumber_74, e_Tr_takeNumber_75, e_Tr_takeNumber_76, e_Tr_takeNumber_79, e_Tr_takeNumber_80, hp, h1, h2, h3, h4, evK_i, one_ne, if_false, if_true, show ¬ (3 : Int) ≤ 1 by omega, show ¬ (3 : Int) ≤ 2 by omega, wr_id, Int.reduceAdd, gI_nj, hf, not_true_eq_false, not_false_eq_true, hm]
        · cases hn
    · rw [if_pos d2] at hn
      rw [if_neg (fun q => d2 q.2)] at h2
      split at hn
      · rename_i z
        injection hn with hn
        subst hn
        have hm := c_Ub_isMeasure (lts σ s p - 48) (uI σ 19 0 6 (p + 1))
        rw [if_neg (by omega)] at hm
        refine ⟨lts σ s p - 48, uI (uI σ 19 0 6 (p + 1)) 19 0 7 p, ?_, ((FrP.rfl σ).u _ _ (by omega)).u _ _ (by omega), gI_self _ _ _ _ _, rfl, by simp (disch := omega) only [gI_self, gI_nt, gI_nj, gL_uI, gR_uI, gI_uL, gR_uL, gI_uR, gL_uR]; omega⟩
        simp (disch := omega) only [e_Tr_takeNumber_0, e_Tr_takeNumber_1, e_Tr_takeNumber_4, e_Tr_takeNumber_5, e_Tr_takeNumber_6, e_Tr_takeNumber_7, e_Tr_takeNumber_9, e_Tr_takeNumber_11, e_Tr_takeNumber_14, e_Tr_takeNumber_16, e_Tr_takeNumber_17, e_Tr_takeNumber_18, e_Tr_takeNumber_19, e_Tr_takeNumber_21, e_Tr_takeNumber_23, e_Tr_takeNumber_24, e_Tr_takeNumber_27, e_Tr_takeNumber_28, e_Tr_takeNumber_29, e_Tr_takeNumber_32, e_Tr_takeNumber_35, e_Tr_takeNumber_36, e_Tr_takeNumber_38, e_Tr_takeNumber_39, e_Tr_takeNumber_40, e_Tr_takeNumber_41, e_Tr_takeNumber_43, e_Tr_takeNumber_45, e_Tr_takeNumber_48, e_Tr_takeNumber_49, e_Tr_takeNumber_51, e_Tr_takeNumber_52, e_Tr_takeNumber_53, e_Tr_takeNumber_56, e_Tr_takeNumber_59, e_Tr_takeNumber_60, e_Tr_takeNumber_63, e_Tr_takeNumber_64, e_Tr_takeNumber_67, e_Tr_takeNumber_68, e_Tr_takeNumber_71, e_Tr_takeNumber_74, e_Tr_takeNumber_75, e_Tr_takeNumber_76, e_Tr_takeNumber_79, e_Tr_takeNumber_80, hp, h1, h2, evK_i, one_ne, if_false, if_true, show ¬ (3 : Int) ≤ 1 by omega, wr_id, Int.reduceAdd, gI_nj, hf, not_true_eq_false, not_false_eq_true, hm]
      · cases hn
  · rw [if_pos d1] at hn
    injection hn with hn
    subst hn
    rw [kTb_no hf hp d1, hp] at h1
    have o1 := okT_u h 7 p (by omega)
    have f1 : gI (uI σ 19 0 7 p) 19 0 7 = p := gI_self _ _ _ _ _
    have q1 : gI (uI σ 19 0 7 p) 19 0 6 = p := by simp (disch := omega) only [gI_self, gI_nt, gI_nj, gL_uI, gR_uI, gI_uL, gR_uL, gI_uR, gL_uR]; exact hp
    have h2 := c_Tr_isDigitNext _ s o1 (by rw [q1]; omega)
    rw [f1, q1, if_neg (fun q => by omega)] at h2
    have f3 : ¬ p = -1 := by omega
    refine ⟨wr (lts σ s p - 48), uI σ 19 0 7 p, ?_, (FrP.rfl σ).u _ _ (by omega), f1, rfl, by rw [q1]; omega⟩
    simp (disch := omega) only [e_Tr_takeNumber_0, e_Tr_takeNumber_1, e_Tr_takeNumber_4, e_Tr_takeNumber_5, e_Tr_takeNumber_6, e_Tr_takeNumber_7, e_Tr_takeNumber_9, e_Tr_takeNumber_11, e_Tr_takeNumber_14, e_Tr_takeNumber_16, e_Tr_takeNumber_17, e_Tr_takeNumber_18, e_Tr_takeNumber_19, e_Tr_takeNumber_21, e_Tr_takeNumber_23, e_Tr_takeNumber_24, e_Tr_takeNumber_27, e_Tr_takeNumber_28, e_Tr_takeNumber_29, e_Tr_takeNumber_32, e_Tr_takeNumber_35, e_Tr_takeNumber_36, e_Tr_takeNumber_38, e_Tr_takeNumber_39, e_Tr_takeNumber_40, e_Tr_takeNumber_41, e_Tr_takeNumber_43, e_Tr_takeNumber_45, e_Tr_takeNumber_48, e_Tr_takeNumber_49, e_Tr_takeNumber_51, e_Tr_takeNumber_52, e_Tr_takeNumber_53, e_Tr_takeNumber_56, e_Tr_takeNumber_59, e_Tr_takeNumber_60, e_Tr_takeNumber_63, e_Tr_takeNumber_64, e_Tr_takeNumber_67, e_Tr_takeNumber_68, e_Tr_takeNumber_71, e_Tr_takeNumber_74, e_Tr_takeNumber_75, e_Tr_takeNumber_76, e_Tr_takeNumber_79, e_Tr_takeNumber_80, hp, h1, h2, evK_i, if_false, if_true, show ¬ (3 : Int) ≤ 1 by omega, f1, f3, not_false_eq_true]
