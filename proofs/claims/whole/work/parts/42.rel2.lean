/-! prices and ranks of the reference -/
theorem bsP_rgI {τ : aM} {c : Int} (hI : IO τ c) (h0 : 0 ≤ gI τ 6 0 2) (w : Int) : 0 ≤ bsP τ w ∧ bsP τ w ≤ 999 := by
  unfold bsP
  cases h : frs τ w with
  | none => exact ⟨Int.le_refl _, by dsimp only; omega⟩
  | some j =>
    have := frs_in h0 h
    exact (hI j this.1 this.2.1).2.1.2.1
/-- the price of one that rests; else 0 -/
def pO (τ : aM) (o : Int) : Int := if gI τ 8 o 5 = 1 then pfB τ (gI τ 8 o 3) o else 0
theorem pO_rg {τ : aM} {c o : Int} (hI : IO τ c) (h0 : 0 ≤ o) (h1 : o < gI τ 6 0 2) : 0 ≤ pO τ o ∧ pO τ o ≤ 999 := by
  unfold pO pfB prB
  have := (hI o h0 h1).2.1
  repeat' split
  all_goals omega
theorem c_Md_priceOf {τ σ : aM} {c : Int} (o : Int) (h : RO τ σ c) (hI : IO τ c) (h0 : 0 ≤ o) (h1 : o < gI τ 6 0 2) : ev 142 0 [aR 25 0, aI o, aU, aU] [] σ = some (some (aI (pO τ o)), σ) := by
  obtain ⟨⟨r1, r2, r3, r4, r5⟩, _⟩ := h.2 o h0 h1
  have rs := h.st h0 h1
  have hc6 := h.1.2
  have hi := hI o h0 h1
  have hb := bsP_rgI hI h.1.2.1 (gI τ 8 o 3)
  have hbp := c_Md_bestPrice (gI τ 8 o 3) h hI
  unfold pO pfB prB
  by_cases q5 : gI τ 8 o 5 = 1
  · have hk := hi.2.2.2.2.2 q5
    by_cases q1 : gI τ 8 o 1 = 3
    · have hkk : ¬ (gI τ 8 o 1 = 1 ∨ gI τ 8 o 1 = 2) := by omega
      rw [if_pos q5, if_neg (fun z => z q1)]
      simp (disch := omega) only [e_Md_priceOf_0, e_Md_priceOf_1, e_Md_priceOf_2, e_Md_priceOf_5, e_Md_priceOf_8, e_Md_priceOf_9, e_Md_priceOf_10, e_Md_priceOf_11, e_Md_priceOf_12, e_Md_priceOf_15, e_Md_priceOf_18, e_Md_priceOf_19, e_Md_priceOf_22, e_Md_priceOf_25, e_Md_priceOf_26, e_Md_priceOf_27, e_Md_priceOf_28, e_Md_priceOf_29, e_Md_priceOf_30, e_Md_priceOf_31, e_Md_priceOf_34, e_Md_priceOf_36, e_Md_priceOf_37, e_Md_priceOf_38, e_Md_priceOf_39, e_Md_priceOf_42, e_Md_priceOf_43, e_Md_priceOf_44, e_Md_priceOf_47, e_Md_priceOf_49, e_Md_priceOf_50, e_Md_priceOf_51, e_Md_priceOf_52, e_Md_priceOf_55, e_Md_priceOf_56, e_Md_priceOf_57, e_Md_priceOf_60, e_Md_priceOf_63, e_Md_priceOf_64, e_Md_priceOf_65, e_Md_priceOf_66, e_Md_priceOf_67, e_Md_priceOf_70, e_Md_priceOf_71, e_Md_priceOf_72, e_Md_priceOf_75, e_Md_priceOf_78, e_Md_priceOf_79, e_Md_priceOf_80, e_Md_priceOf_81, e_Md_priceOf_82, e_Md_priceOf_83, e_Md_priceOf_84, e_Md_priceOf_87, e_Md_priceOf_88, e_Md_priceOf_91, e_Md_priceOf_94, e_Md_priceOf_95, e_Md_priceOf_98, e_Md_priceOf_99, c_Md_doesRest, c_Md_isLimit, evK_i, b01, wr_id, rs, r1, r3, r4, r5, hbp, c_Md_is999, q5, hkk, not_true_eq_false, not_false_eq_true, if_true, if_false]
      by_cases q3 : gI τ 8 o 3 = 0
      · by_cases qb : bsP τ (gI τ 8 o 3) = 0
        · simp [q3] at qb ⊢
          simp [qb]
        · simp [q3] at qb ⊢
          simp [qb]
          try grind
      · by_cases qb : bsP τ (gI τ 8 o 3) = 0
        · simp [q3, qb]
        · simp [q3, qb]
          try grind
    · have hkk : gI τ 8 o 1 = 1 ∨ gI τ 8 o 1 = 2 := by omega
      rw [if_pos q5, if_pos q1]
      simp (disch := omega) only [e_Md_priceOf_0, e_Md_priceOf_1, e_Md_priceOf_2, e_Md_priceOf_5, e_Md_priceOf_8, e_Md_priceOf_9, e_Md_priceOf_10, e_Md_priceOf_11, e_Md_priceOf_12, e_Md_priceOf_15, e_Md_priceOf_18, e_Md_priceOf_19, e_Md_priceOf_22, e_Md_priceOf_25, e_Md_priceOf_26, e_Md_priceOf_27, e_Md_priceOf_28, c_Md_doesRest, c_Md_isLimit, evK_i, b01, wr_id, rs, r1, r3, r4, r5, q5, hkk, one_ne, not_true_eq_false, not_false_eq_true, if_true, if_false]
  · rw [if_neg q5]
    simp (disch := omega) only [e_Md_priceOf_0, e_Md_priceOf_1, e_Md_priceOf_2, e_Md_priceOf_5, e_Md_priceOf_8, e_Md_priceOf_9, e_Md_priceOf_10, e_Md_priceOf_11, e_Md_priceOf_12, e_Md_priceOf_15, e_Md_priceOf_18, e_Md_priceOf_19, e_Md_priceOf_22, e_Md_priceOf_25, e_Md_priceOf_26, e_Md_priceOf_27, e_Md_priceOf_28, c_Md_doesRest, evK_i, b01, one_ne, rs, q5, not_true_eq_false, not_false_eq_true, if_true, if_false]
theorem c_Md_isRanked {τ σ : aM} {c : Int} (o w : Int) (h : RO τ σ c) (hI : IO τ c) (h0 : 0 ≤ o) (h1 : o < gI τ 6 0 2) : ev 145 0 [aR 25 0, aI o, aI w] [] σ = some (some (aI (if elK τ w o then 1 else 0)), σ) := by
  obtain ⟨⟨r1, r2, r3, r4, r5⟩, _⟩ := h.2 o h0 h1
  have hc6 := h.1.2
  have hp := c_Md_priceOf o h hI h0 h1
  have hr := pO_rg hI h0 h1
  simp (disch := omega) only [e_Md_isRanked_0, e_Md_isRanked_1, e_Md_isRanked_4, e_Md_isRanked_6, e_Md_isRanked_7, e_Md_isRanked_8, e_Md_isRanked_9, e_Md_isRanked_10, e_Md_isRanked_13, e_Md_isRanked_14, e_Md_isRanked_15, e_Md_isRanked_18, e_Md_isRanked_21, e_Md_isRanked_22, e_Md_isRanked_25, e_Md_isRanked_26, evK_i, wr_id, r3, hp]
  unfold pO at hr ⊢
  unfold elK
  by_cases q3 : gI τ 8 o 3 = w
  · by_cases q5 : gI τ 8 o 5 = 1
    · rw [q3] at hr ⊢
      rw [if_pos q5] at hr ⊢
      by_cases qp : pfB τ w o = 0
      · simp [qp]
      · simp [qp, q5, show 0 < pfB τ w o by omega]
        try omega
    · simp [q5]
  · simp [q3]
theorem c_Md_isAheadOf {τ σ : aM} {c : Int} (a b w : Int) (h : RO τ σ c) (hI : IO τ c) (ha : 0 ≤ a ∧ a < gI τ 6 0 2) (hb : 0 ≤ b ∧ b < gI τ 6 0 2) (ea : gI τ 8 a 5 = 1 ∧ gI τ 8 a 3 = w) (eb : gI τ 8 b 5 = 1 ∧ gI τ 8 b 3 = w) : ev 144 0 [aR 25 0, aI a, aI b, aU, aU] [] σ = some (some (aI (if AH τ w a b then 1 else 0)), σ) := by
  obtain ⟨⟨r1, r2, r3, r4, r5⟩, _, t1, _, _⟩ := h.2 a ha.1 ha.2
  obtain ⟨⟨u1, u2, u3, u4, u5⟩, _, t2, _, _⟩ := h.2 b hb.1 hb.2
  have t1 := t1 ea.1
  have t2 := t2 eb.1
  have hc6 := h.1.2
  have hpa := c_Md_priceOf a h hI ha.1 ha.2
  have hpb := c_Md_priceOf b h hI hb.1 hb.2
  have ka := (hI a ha.1 ha.2).2.2.2.2.2 ea.1
  have kb := (hI b hb.1 hb.2).2.2.2.2.2 eb.1
  have ka2 := (hI a ha.1 ha.2).1.1
  have kb2 := (hI b hb.1 hb.2).1.1
  have la : (gI τ 8 a 1 = 1 ∨ gI τ 8 a 1 = 2) = ¬ gI τ 8 a 1 = 3 := propext (by omega)
  have lb : (gI τ 8 b 1 = 1 ∨ gI τ 8 b 1 = 2) = ¬ gI τ 8 b 1 = 3 := propext (by omega)
  have ea3 := ea.2
  unfold pO at hpa hpb
  rw [if_pos ea.1, ea.2] at hpa
  rw [if_pos eb.1, eb.2] at hpb
  unfold AH ahd
  simp (disch := omega) only [e_Md_isAheadOf_0, e_Md_isAheadOf_1, e_Md_isAheadOf_2, e_Md_isAheadOf_5, e_Md_isAheadOf_6, e_Md_isAheadOf_7, e_Md_isAheadOf_8, e_Md_isAheadOf_11, e_Md_isAheadOf_13, e_Md_isAheadOf_14, e_Md_isAheadOf_16, e_Md_isAheadOf_19, e_Md_isAheadOf_20, e_Md_isAheadOf_23, e_Md_isAheadOf_25, e_Md_isAheadOf_26, e_Md_isAheadOf_27, e_Md_isAheadOf_28, e_Md_isAheadOf_31, e_Md_isAheadOf_32, e_Md_isAheadOf_34, e_Md_isAheadOf_37, e_Md_isAheadOf_38, e_Md_isAheadOf_41, e_Md_isAheadOf_42, e_Md_isAheadOf_45, e_Md_isAheadOf_46, e_Md_isAheadOf_48, e_Md_isAheadOf_51, e_Md_isAheadOf_52, e_Md_isAheadOf_55, e_Md_isAheadOf_56, e_Md_isAheadOf_57, e_Md_isAheadOf_58, e_Md_isAheadOf_59, e_Md_isAheadOf_62, e_Md_isAheadOf_63, e_Md_isAheadOf_64, e_Md_isAheadOf_67, e_Md_isAheadOf_70, e_Md_isAheadOf_71, e_Md_isAheadOf_72, e_Md_isAheadOf_75, e_Md_isAheadOf_76, e_Md_isAheadOf_77, e_Md_isAheadOf_80, e_Md_isAheadOf_83, e_Md_isAheadOf_84, e_Md_isAheadOf_85, e_Md_isAheadOf_86, e_Md_isAheadOf_87, e_Md_isAheadOf_90, e_Md_isAheadOf_93, e_Md_isAheadOf_94, e_Md_isAheadOf_95, e_Md_isAheadOf_96, e_Md_isAheadOf_99, e_Md_isAheadOf_100, e_Md_isAheadOf_103, e_Md_isAheadOf_104, evK_i, wr_id, r1, r3, u1, u3, t1, t2, hpa, hpb, c_Md_isLimit, la, lb, ea3]
  generalize pfB τ w a = p
  generalize pfB τ w b = q
  clear hI h hpa hpb
  by_cases c1 : p = q
  · subst c1
    by_cases c2 : gI τ 8 a 1 = 3
    · by_cases c3 : gI τ 8 b 1 = 3
      · simp [c2, c3]
        try grind
      · simp [c2, c3]
    · by_cases c3 : gI τ 8 b 1 = 3
      · simp [c2, c3]
      · simp [c2, c3]
        try grind
  · by_cases c2 : w = 0
    · simp [c1, c2]
      try grind
    · simp [c1, c2]
      try grind
