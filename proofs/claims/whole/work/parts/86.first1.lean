/-! the reference's first one, where what is seen may be stale -/
def R1 (τ σ : aM) (c : Int) : Prop := (gI σ 26 0 600 = gI τ 6 0 2 ∧ 0 ≤ gI τ 6 0 2 ∧ gI τ 6 0 2 ≤ 60) ∧ ∀ o, 0 ≤ o → o < gI τ 6 0 2 →
  (gI σ 26 0 o = gI τ 8 o 1 ∧ gI σ 26 0 (60 + o) = gI τ 8 o 2 ∧ gI σ 26 0 (120 + o) = gI τ 8 o 3 ∧ gI σ 26 0 (300 + o) = gI τ 8 o 7 ∧ gI σ 26 0 (360 + o) = gI τ 8 o 8) ∧
  (¬ o = c → gI σ 26 0 (180 + o) = gI τ 8 o 4 ∧ gI σ 26 0 (240 + o) = gI τ 8 o 5 ∧ gI σ 26 0 (540 + o) = gI τ 8 o 6) ∧
  (gI τ 8 o 5 = 1 → gI σ 26 0 (480 + o) = gI τ 8 o 10 + 1) ∧
  True ∧
  (o = c → gI σ 26 0 (240 + o) = 3 ∧ ¬ gI τ 8 o 5 = 1)
theorem R1.st {τ σ : aM} {c o : Int} (h : R1 τ σ c) (h0 : 0 ≤ o) (h1 : o < gI τ 6 0 2) : (gI σ 26 0 (240 + o) = 1) = (gI τ 8 o 5 = 1) := by
  obtain ⟨_, b, _, _, e⟩ := h.2 o h0 h1
  by_cases q : o = c
  · have := e q
    exact propext (by omega)
  · have := b q
    exact propext (by omega)
theorem R1.lf {τ σ : aM} {c o : Int} (h : R1 τ σ c) (h0 : 0 ≤ o) (h1 : o < gI τ 6 0 2) (h5 : gI τ 8 o 5 = 1) : gI σ 26 0 (180 + o) = gI τ 8 o 4 := by
  obtain ⟨_, b, _, _, e⟩ := h.2 o h0 h1
  exact (b (fun q => (e q).2 h5)).1
theorem l1_Md_bestPrice {τ σ : aM} {c w : Int} (h : R1 τ σ c) (hI : IO τ c) : ∀ (n : Nat) (i b : Int) (a4 a5 : AV), 0 ≤ i → i + n = gI τ 6 0 2 → ev 141 4 [aR 25 0, aI w, aI b, aI i, a4, a5] [] σ = some (some (aI (bpF τ w n i b)), σ) := by
  intro n
  have hc := h.1.1
  have hc6 := h.1.2
  induction n with
  | zero =>
    intro i b a4 a5 h0 h1
    have hle : gI τ 6 0 2 ≤ i := by omega
    rw [e_Md_bestPrice_4]
    simp (disch := omega) only [e_Md_bestPrice_0, e_Md_bestPrice_1, e_Md_bestPrice_2, e_Md_bestPrice_3, e_Md_bestPrice_5, e_Md_bestPrice_6, e_Md_bestPrice_9, e_Md_bestPrice_12, e_Md_bestPrice_13, e_Md_bestPrice_16, e_Md_bestPrice_17, e_Md_bestPrice_18, e_Md_bestPrice_21, e_Md_bestPrice_24, e_Md_bestPrice_25, e_Md_bestPrice_26, e_Md_bestPrice_29, e_Md_bestPrice_32, e_Md_bestPrice_33, e_Md_bestPrice_36, e_Md_bestPrice_38, e_Md_bestPrice_39, e_Md_bestPrice_40, e_Md_bestPrice_41, e_Md_bestPrice_42, e_Md_bestPrice_45, e_Md_bestPrice_46, e_Md_bestPrice_49, e_Md_bestPrice_50, e_Md_bestPrice_52, e_Md_bestPrice_53, e_Md_bestPrice_56, e_Md_bestPrice_57, e_Md_bestPrice_60, e_Md_bestPrice_61, e_Md_bestPrice_64, e_Md_bestPrice_67, e_Md_bestPrice_68, e_Md_bestPrice_69, e_Md_bestPrice_70, e_Md_bestPrice_71, e_Md_bestPrice_74, e_Md_bestPrice_77, e_Md_bestPrice_78, e_Md_bestPrice_81, e_Md_bestPrice_84, e_Md_bestPrice_85, e_Md_bestPrice_86, e_Md_bestPrice_87, e_Md_bestPrice_88, e_Md_bestPrice_91, e_Md_bestPrice_92, e_Md_bestPrice_95, e_Md_bestPrice_96, e_Md_bestPrice_98, e_Md_bestPrice_100, e_Md_bestPrice_103, e_Md_bestPrice_105, e_Md_bestPrice_108, e_Md_bestPrice_109, e_Md_bestPrice_112, e_Md_bestPrice_115, e_Md_bestPrice_116, e_Md_bestPrice_117, e_Md_bestPrice_118, e_Md_bestPrice_121, e_Md_bestPrice_122, e_Md_bestPrice_123, e_Md_bestPrice_126, e_Md_bestPrice_129, e_Md_bestPrice_130, hc, if_pos hle]
    rfl
  | succ n ih =>
    intro i b a4 a5 h0 h1
    have hle : ¬ gI τ 6 0 2 ≤ i := by omega
    obtain ⟨⟨r1, r2, r3, r4, r5⟩, _⟩ := h.2 i h0 (by omega)
    have rs := h.st h0 (by omega)
    have hi := hI i h0 (by omega)
    have hk : gI τ 8 i 5 = 1 → ((gI τ 8 i 1 = 1 ∨ gI τ 8 i 1 = 2) ↔ ¬ gI τ 8 i 1 = 3) := fun q => by
      have := hi.2.2.2.2.2 q
      omega
    rw [e_Md_bestPrice_4, bpF]
    have s1 : ev 141 16 [aR 25 0, aI w, aI b, aI i, a4, a5] [] σ = ev 141 52 [aR 25 0, aI w, aI b, aI i, aI (if elF τ w i then 1 else 0), a5] [] σ := by
      simp (disch := omega) only [e_Md_bestPrice_16, e_Md_bestPrice_17, e_Md_bestPrice_18, e_Md_bestPrice_21, e_Md_bestPrice_24, e_Md_bestPrice_25, e_Md_bestPrice_26, e_Md_bestPrice_29, e_Md_bestPrice_32, e_Md_bestPrice_33, e_Md_bestPrice_36, e_Md_bestPrice_38, e_Md_bestPrice_39, e_Md_bestPrice_40, e_Md_bestPrice_41, e_Md_bestPrice_42, e_Md_bestPrice_45, e_Md_bestPrice_46, e_Md_bestPrice_49, e_Md_bestPrice_50, c_Md_doesRest, c_Md_isLimit, evK_i, b01, wr_id, rs, r1, r3]
      clear ih hI h hi
      by_cases q5 : gI τ 8 i 5 = 1
      · have hk' := hk q5
        by_cases q3 : gI τ 8 i 3 = w
        · by_cases q1 : gI τ 8 i 1 = 3
          · rw [if_neg (show ¬ elF τ w i from fun z => z.2.2 q1)]
            simp [q5, q3, hk', q1]
          · rw [if_pos (show elF τ w i from ⟨q5, q3, q1⟩)]
            simp [q5, q3, hk', q1]
        · rw [if_neg (show ¬ elF τ w i from fun z => q3 z.2.1)]
          simp [q5, q3]
      · rw [if_neg (show ¬ elF τ w i from fun z => q5 z.1)]
        simp [q5]
    have s2 : ∀ x : Int, ev 141 52 [aR 25 0, aI w, aI b, aI i, aI x, a5] [] σ = ev 141 98 [aR 25 0, aI w, aI b, aI i, aI x, aI (if b = 0 ∨ (w = 0 ∧ b < gI τ 8 i 7) ∨ (¬ w = 0 ∧ gI τ 8 i 7 < b) then 1 else 0)] [] σ := fun x => by
      simp (disch := omega) only [e_Md_bestPrice_52, e_Md_bestPrice_53, e_Md_bestPrice_56, e_Md_bestPrice_57, e_Md_bestPrice_60, e_Md_bestPrice_61, e_Md_bestPrice_64, e_Md_bestPrice_67, e_Md_bestPrice_68, e_Md_bestPrice_69, e_Md_bestPrice_70, e_Md_bestPrice_71, e_Md_bestPrice_74, e_Md_bestPrice_77, e_Md_bestPrice_78, e_Md_bestPrice_81, e_Md_bestPrice_84, e_Md_bestPrice_85, e_Md_bestPrice_86, e_Md_bestPrice_87, e_Md_bestPrice_88, e_Md_bestPrice_91, e_Md_bestPrice_92, e_Md_bestPrice_95, e_Md_bestPrice_96, wr_id, r4]
      clear ih hI h hi hk s1 rs r1 r2 r3 r4 r5
      by_cases q1 : b = 0
      · simp [q1]
      · by_cases q2 : w = 0
        · by_cases q3 : b < gI τ 8 i 7
          · simp [q1, q2, q3, show ¬ gI τ 8 i 7 ≤ b by omega]
          · simp [q1, q2, q3, show gI τ 8 i 7 ≤ b by omega]
        · by_cases q3 : gI τ 8 i 7 < b
          · simp [q1, q2, q3, show ¬ b ≤ gI τ 8 i 7 by omega]
          · simp [q1, q2, q3, show b ≤ gI τ 8 i 7 by omega]
    have s3 : ∀ x z, ev 141 98 [aR 25 0, aI w, aI b, aI i, aI x, aI z] [] σ = some (some (aI (bpF τ w n (i + 1) (if ¬ x = 0 ∧ ¬ z = 0 then gI τ 8 i 7 else b))), σ) := fun x z => by
      simp (disch := omega) only [e_Md_bestPrice_98, e_Md_bestPrice_100, e_Md_bestPrice_103, e_Md_bestPrice_105, e_Md_bestPrice_108, e_Md_bestPrice_109, e_Md_bestPrice_112, e_Md_bestPrice_115, e_Md_bestPrice_116, e_Md_bestPrice_117, e_Md_bestPrice_118, e_Md_bestPrice_121, e_Md_bestPrice_122, e_Md_bestPrice_123, e_Md_bestPrice_126, wr_id, r4, ih]
      by_cases q1 : x = 0
      · simp [q1]
      · by_cases q2 : z = 0
        · simp [q1, q2]
        · simp [q1, q2]
    simp (disch := omega) only [e_Md_bestPrice_5, e_Md_bestPrice_6, e_Md_bestPrice_9, e_Md_bestPrice_12, e_Md_bestPrice_13, hc, if_neg hle, s1, s2, s3, b01]
    by_cases q1 : elF τ w i
    · by_cases q2 : b = 0 ∨ (w = 0 ∧ b < gI τ 8 i 7) ∨ (¬ w = 0 ∧ gI τ 8 i 7 < b)
      · rw [if_pos ⟨fun z => z q1, fun z => z q2⟩, if_pos ⟨q1, q2⟩]
      · rw [if_neg (fun z => z.2 q2), if_neg (fun z => q2 z.2)]
    · rw [if_neg (fun z => z.1 q1), if_neg (fun z => q1 z.1)]
theorem c1_Md_bestPrice {τ σ : aM} {c : Int} (w : Int) (h : R1 τ σ c) (hI : IO τ c) : ev 141 0 [aR 25 0, aI w, aU, aU, aU, aU] [] σ = some (some (aI (bsP τ w)), σ) := by
  have h1 := l1_Md_bestPrice (w := w) h hI (gI τ 6 0 2).toNat 0 0 aU aU (by omega) (by have := h.1.2; omega)
  rw [bpF_bsP hI h.1.2.1] at h1
  simp (disch := omega) only [e_Md_bestPrice_0, e_Md_bestPrice_1, e_Md_bestPrice_2, e_Md_bestPrice_3, h1]

theorem c1_Md_priceOf {τ σ : aM} {c : Int} (o : Int) (h : R1 τ σ c) (hI : IO τ c) (h0 : 0 ≤ o) (h1 : o < gI τ 6 0 2) : ev 142 0 [aR 25 0, aI o, aU, aU] [] σ = some (some (aI (pO τ o)), σ) := by
  obtain ⟨⟨r1, r2, r3, r4, r5⟩, _⟩ := h.2 o h0 h1
  have rs := h.st h0 h1
  have hc6 := h.1.2
  have hi := hI o h0 h1
  have hb := bsP_rgI hI h.1.2.1 (gI τ 8 o 3)
  have hbp := c1_Md_bestPrice (gI τ 8 o 3) h hI
  unfold pO pfB prB
  by_cases q5 : gI τ 8 o 5 = 1
  · have hk := hi.2.2.2.2.2 q5
    by_cases q1 : gI τ 8 o 1 = 3
    · have hkk : ¬ (gI τ 8 o 1 = 1 ∨ gI τ 8 o 1 = 2) := by omega
      rw [if_pos q5, if_neg (fun z => z q1)]
      simp (disch := omega) only [e_Md_priceOf_0, e_Md_priceOf_1, e_Md_priceOf_2, e_Md_priceOf_5, e_Md_priceOf_8, e_Md_priceOf_9, e_Md_priceOf_10, e_Md_priceOf_11, e_Md_priceOf_12, e_Md_priceOf_15, e_Md_priceOf_18, e_Md_priceOf_19, e_Md_priceOf_22, e_Md_priceOf_25, e_Md_priceOf_26, e_Md_priceOf_27, e_Md_priceOf_28, e_Md_priceOf_29, e_Md_priceOf_30, e_Md_priceOf_31, e_Md_priceOf_34, e_Md_priceOf_36, e_Md_priceOf_37, e_Md_priceOf_38, e_Md_priceOf_39, e_Md_priceOf_42, e_Md_priceOf_43, e_Md_priceOf_44, e_Md_priceOf_47, e_Md_priceOf_49, e_Md_priceOf_50, e_Md_priceOf_51, e_Md_priceOf_52, e_Md_priceOf_55, e_Md_priceOf_56, e_Md_priceOf_57, e_Md_priceOf_60, e_Md_priceOf_63, e_Md_priceOf_64, e_Md_priceOf_65, e_Md_priceOf_66, e_Md_priceOf_67, e_Md_priceOf_70, e_Md_priceOf_71, e_Md_priceOf_72, e_Md_priceOf_75, e_Md_priceOf_78, e_Md_priceOf_79, e_Md_priceOf_80, e_Md_priceOf_81, e_Md_priceOf_82, e_Md_priceOf_83, e_Md_priceOf_84, e_Md_priceOf_87, e_Md_priceOf_88, e_Md_priceOf_91, e_Md_priceOf_94, e_Md_priceOf_95, e_Md_priceOf_98, e_Md_priceOf_99, c_Md_doesRest, c_Md_isLimit, evK_i, b01, wr_id, rs, r1, r3, r4, r5, hbp, c_Md_is999, q5, hkk, not_true_eq_false, not_false_eq_true, if_true, if_false]
      by_cases q3 : gI τ 8 o 3 = 0
      · by_cases qb : bsP τ (gI τ 8 o 3) = 0
        · simp [q3] at qb ⊢
          simp [qb]
        · simp [q3] at qb ⊢
          simp [qb]
          try grind
      · by_cases qb : bsP τ (gI τ 8 o 3) = 0
        · simp [q3, qb]
        · simp [q3, qb]
          try grind
    · have hkk : gI τ 8 o 1 = 1 ∨ gI τ 8 o 1 = 2 := by omega
      rw [if_pos q5, if_pos q1]
      simp (disch := omega) only [e_Md_priceOf_0, e_Md_priceOf_1, e_Md_priceOf_2, e_Md_priceOf_5, e_Md_priceOf_8, e_Md_priceOf_9, e_Md_priceOf_10, e_Md_priceOf_11, e_Md_priceOf_12, e_Md_priceOf_15, e_Md_priceOf_18, e_Md_priceOf_19, e_Md_priceOf_22, e_Md_priceOf_25, e_Md_priceOf_26, e_Md_priceOf_27, e_Md_priceOf_28, c_Md_doesRest, c_Md_isLimit, evK_i, b01, wr_id, rs, r1, r3, r4, r5, q5, hkk, one_ne, not_true_eq_false, not_false_eq_true, if_true, if_false]
  · rw [if_neg q5]
    simp (disch := omega) only [e_Md_priceOf_0, e_Md_priceOf_1, e_Md_priceOf_2, e_Md_priceOf_5, e_Md_priceOf_8, e_Md_priceOf_9, e_Md_priceOf_10, e_Md_priceOf_11, e_Md_priceOf_12, e_Md_priceOf_15, e_Md_priceOf_18, e_Md_priceOf_19, e_Md_priceOf_22, e_Md_priceOf_25, e_Md_priceOf_26, e_Md_priceOf_27, e_Md_priceOf_28, c_Md_doesRest, evK_i, b01, one_ne, rs, q5, not_true_eq_false, not_false_eq_true, if_true, if_false]
theorem c1_Md_isRanked {τ σ : aM} {c : Int} (o w : Int) (h : R1 τ σ c) (hI : IO τ c) (h0 : 0 ≤ o) (h1 : o < gI τ 6 0 2) : ev 145 0 [aR 25 0, aI o, aI w] [] σ = some (some (aI (if elK τ w o then 1 else 0)), σ) := by
  obtain ⟨⟨r1, r2, r3, r4, r5⟩, _⟩ := h.2 o h0 h1
  have hc6 := h.1.2
  have hp := c1_Md_priceOf o h hI h0 h1
  have hr := pO_rg hI h0 h1
  simp (disch := omega) only [e_Md_isRanked_0, e_Md_isRanked_1, e_Md_isRanked_4, e_Md_isRanked_6, e_Md_isRanked_7, e_Md_isRanked_8, e_Md_isRanked_9, e_Md_isRanked_10, e_Md_isRanked_13, e_Md_isRanked_14, e_Md_isRanked_15, e_Md_isRanked_18, e_Md_isRanked_21, e_Md_isRanked_22, e_Md_isRanked_25, e_Md_isRanked_26, evK_i, wr_id, r3, hp]
  unfold pO at hr ⊢
  unfold elK
  by_cases q3 : gI τ 8 o 3 = w
  · by_cases q5 : gI τ 8 o 5 = 1
    · rw [q3] at hr ⊢
      rw [if_pos q5] at hr ⊢
      by_cases qp : pfB τ w o = 0
      · simp [qp]
      · simp [qp, q5, show 0 < pfB τ w o by omega]
        try omega
    · simp [q5]
  · simp [q3]
theorem c1_Md_isAheadOf {τ σ : aM} {c : Int} (a b w : Int) (h : R1 τ σ c) (hI : IO τ c) (ha : 0 ≤ a ∧ a < gI τ 6 0 2) (hb : 0 ≤ b ∧ b < gI τ 6 0 2) (ea : gI τ 8 a 5 = 1 ∧ gI τ 8 a 3 = w) (eb : gI τ 8 b 5 = 1 ∧ gI τ 8 b 3 = w) : ev 144 0 [aR 25 0, aI a, aI b, aU, aU] [] σ = some (some (aI (if AH τ w a b then 1 else 0)), σ) := by
  obtain ⟨⟨r1, r2, r3, r4, r5⟩, _, t1, _, _⟩ := h.2 a ha.1 ha.2
  obtain ⟨⟨u1, u2, u3, u4, u5⟩, _, t2, _, _⟩ := h.2 b hb.1 hb.2
  have t1 := t1 ea.1
  have t2 := t2 eb.1
  have hc6 := h.1.2
  have hpa := c1_Md_priceOf a h hI ha.1 ha.2
  have hpb := c1_Md_priceOf b h hI hb.1 hb.2
  have ka := (hI a ha.1 ha.2).2.2.2.2.2 ea.1
  have kb := (hI b hb.1 hb.2).2.2.2.2.2 eb.1
  have ka2 := (hI a ha.1 ha.2).1.1
  have kb2 := (hI b hb.1 hb.2).1.1
  have la : (gI τ 8 a 1 = 1 ∨ gI τ 8 a 1 = 2) = ¬ gI τ 8 a 1 = 3 := propext (by omega)
  have lb : (gI τ 8 b 1 = 1 ∨ gI τ 8 b 1 = 2) = ¬ gI τ 8 b 1 = 3 := propext (by omega)
  have ea3 := ea.2
  unfold pO at hpa hpb
  rw [if_pos ea.1, ea.2] at hpa
  rw [if_pos eb.1, eb.2] at hpb
  unfold AH ahd
  simp (disch := omega) only [e_Md_isAheadOf_0, e_Md_isAheadOf_1, e_Md_isAheadOf_2, e_Md_isAheadOf_5, e_Md_isAheadOf_6, e_Md_isAheadOf_7, e_Md_isAheadOf_8, e_Md_isAheadOf_11, e_Md_isAheadOf_13, e_Md_isAheadOf_14, e_Md_isAheadOf_16, e_Md_isAheadOf_19, e_Md_isAheadOf_20, e_Md_isAheadOf_23, e_Md_isAheadOf_25, e_Md_isAheadOf_26, e_Md_isAheadOf_27, e_Md_isAheadOf_28, e_Md_isAheadOf_31, e_Md_isAheadOf_32, e_Md_isAheadOf_34, e_Md_isAheadOf_37, e_Md_isAheadOf_38, e_Md_isAheadOf_41, e_Md_isAheadOf_42, e_Md_isAheadOf_45, e_Md_isAheadOf_46, e_Md_isAheadOf_48, e_Md_isAheadOf_51, e_Md_isAheadOf_52, e_Md_isAheadOf_55, e_Md_isAheadOf_56, e_Md_isAheadOf_57, e_Md_isAheadOf_58, e_Md_isAheadOf_59, e_Md_isAheadOf_62, e_Md_isAheadOf_63, e_Md_isAheadOf_64, e_Md_isAheadOf_67, e_Md_isAheadOf_70, e_Md_isAheadOf_71, e_Md_isAheadOf_72, e_Md_isAheadOf_75, e_Md_isAheadOf_76, e_Md_isAheadOf_77, e_Md_isAheadOf_80, e_Md_isAheadOf_83, e_Md_isAheadOf_84, e_Md_isAheadOf_85, e_Md_isAheadOf_86, e_Md_isAheadOf_87, e_Md_isAheadOf_90, e_Md_isAheadOf_93, e_Md_isAheadOf_94, e_Md_isAheadOf_95, e_Md_isAheadOf_96, e_Md_isAheadOf_99, e_Md_isAheadOf_100, e_Md_isAheadOf_103, e_Md_isAheadOf_104, evK_i, wr_id, r1, r3, u1, u3, t1, t2, hpa, hpb, c_Md_isLimit, la, lb, ea3]
  generalize pfB τ w a = p
  generalize pfB τ w b = q
  clear hI h hpa hpb
  by_cases c1 : p = q
  · subst c1
    by_cases c2 : gI τ 8 a 1 = 3
    · by_cases c3 : gI τ 8 b 1 = 3
      · simp [c2, c3]
        try grind
      · simp [c2, c3]
    · by_cases c3 : gI τ 8 b 1 = 3
      · simp [c2, c3]
      · simp [c2, c3]
        try grind
  · by_cases c2 : w = 0
    · simp [c1, c2]
      try grind
    · simp [c1, c2]
      try grind

theorem l1_Md_firstOf {τ σ : aM} {c w l : Int} (h : R1 τ σ c) (hI : IO τ c) : ∀ (n : Nat) (i f : Int) (a5 : AV), 0 ≤ i → i + n = gI τ 6 0 2 → (f = -1 ∨ ((0 ≤ f ∧ f < gI τ 6 0 2) ∧ elK τ w f)) → ev 147 5 [aR 25 0, aI w, aI l, aI f, aI i, a5] [] σ = some (some (aI (ffF τ w l n i f)), σ) := by
  intro n
  have hc := h.1.1
  have hc6 := h.1.2
  induction n with
  | zero =>
    intro i f a5 h0 h1 _
    have hle : gI τ 6 0 2 ≤ i := by omega
    rw [e_Md_firstOf_5]
    simp (disch := omega) only [e_Md_firstOf_0, e_Md_firstOf_1, e_Md_firstOf_2, e_Md_firstOf_3, e_Md_firstOf_7, e_Md_firstOf_8, e_Md_firstOf_11, e_Md_firstOf_14, e_Md_firstOf_15, e_Md_firstOf_18, e_Md_firstOf_19, e_Md_firstOf_21, e_Md_firstOf_22, e_Md_firstOf_25, e_Md_firstOf_28, e_Md_firstOf_29, e_Md_firstOf_32, e_Md_firstOf_33, e_Md_firstOf_35, e_Md_firstOf_38, e_Md_firstOf_41, e_Md_firstOf_42, e_Md_firstOf_45, e_Md_firstOf_46, e_Md_firstOf_48, e_Md_firstOf_50, e_Md_firstOf_53, e_Md_firstOf_54, e_Md_firstOf_55, e_Md_firstOf_58, e_Md_firstOf_59, e_Md_firstOf_61, e_Md_firstOf_62, e_Md_firstOf_65, e_Md_firstOf_68, e_Md_firstOf_70, e_Md_firstOf_73, e_Md_firstOf_74, e_Md_firstOf_75, e_Md_firstOf_78, e_Md_firstOf_81, e_Md_firstOf_82, hc, if_pos hle]
    rfl
  | succ n ih =>
    intro i f a5 h0 h1 hf
    have hle : ¬ gI τ 6 0 2 ≤ i := by omega
    obtain ⟨⟨r1, r2, r3, r4, r5⟩, _⟩ := h.2 i h0 (by omega)
    have hk : elK τ w i → ((gI τ 8 i 1 = 1 ∨ gI τ 8 i 1 = 2) ↔ ¬ gI τ 8 i 1 = 3) := fun q => by
      have := (hI i h0 (by omega)).2.2.2.2.2 q.1.1
      have := (hI i h0 (by omega)).1.1
      omega
    have hr := c1_Md_isRanked i w h hI h0 (by omega)
    rw [e_Md_firstOf_5, ffF]
    have s1 : ev 147 18 [aR 25 0, aI w, aI l, aI f, aI i, a5] [] σ = ev 147 48 [aR 25 0, aI w, aI l, aI f, aI i, aI (if elL τ w l i then 1 else 0)] [] σ := by
      simp (disch := omega) only [e_Md_firstOf_18, e_Md_firstOf_19, e_Md_firstOf_21, e_Md_firstOf_22, e_Md_firstOf_25, e_Md_firstOf_28, e_Md_firstOf_29, e_Md_firstOf_32, e_Md_firstOf_33, e_Md_firstOf_35, e_Md_firstOf_38, e_Md_firstOf_41, e_Md_firstOf_42, e_Md_firstOf_45, e_Md_firstOf_46, hr, c_Md_isLimit, evK_i, b01, r1]
      clear ih hI h
      by_cases q1 : elK τ w i
      · have hk := hk q1
        by_cases q2 : l = 0
        · rw [if_pos (show elL τ w l i from ⟨q1, Or.inl q2⟩)]
          rw [if_neg (fun z => z q1), if_pos q2]
        · by_cases q3 : gI τ 8 i 1 = 3
          · rw [if_neg (show ¬ elL τ w l i from fun z => z.2.elim q2 (fun y => y q3))]
            rw [if_neg (fun z => z q1), if_neg q2, if_pos (fun z => (hk.mp z) q3)]
          · rw [if_pos (show elL τ w l i from ⟨q1, Or.inr q3⟩)]
            rw [if_neg (fun z => z q1), if_neg q2, if_neg (fun z => z (hk.mpr q3))]
      · rw [if_neg (show ¬ elL τ w l i from fun z => q1 z.1), if_pos q1]
    simp (disch := omega) only [e_Md_firstOf_7, e_Md_firstOf_8, e_Md_firstOf_11, e_Md_firstOf_14, e_Md_firstOf_15, hc, if_neg hle, s1]
    by_cases q1 : elL τ w l i
    · have ihi := fun a5 => ih (i + 1) i a5 (by omega) (by omega) (Or.inr ⟨by omega, q1.1⟩)
      rcases hf with hf | hf
      · rw [if_pos q1, if_pos ⟨q1, Or.inl hf⟩]
        simp (disch := omega) only [e_Md_firstOf_48, e_Md_firstOf_50, e_Md_firstOf_53, e_Md_firstOf_54, e_Md_firstOf_55, e_Md_firstOf_58, e_Md_firstOf_59, e_Md_firstOf_61, e_Md_firstOf_62, e_Md_firstOf_65, e_Md_firstOf_68, e_Md_firstOf_70, e_Md_firstOf_73, e_Md_firstOf_74, e_Md_firstOf_75, e_Md_firstOf_78, if_pos hf, one_ne, if_false, wr_id, ihi]
      · have ha := c1_Md_isAheadOf i f w h hI ⟨h0, by omega⟩ hf.1 q1.1.1 hf.2.1
        have hf2 : ¬ f = -1 := by omega
        by_cases q2 : AH τ w i f
        · rw [if_pos q1, if_pos ⟨q1, Or.inr q2⟩]
          rw [if_pos q2] at ha
          simp (disch := omega) only [e_Md_firstOf_48, e_Md_firstOf_50, e_Md_firstOf_53, e_Md_firstOf_54, e_Md_firstOf_55, e_Md_firstOf_58, e_Md_firstOf_59, e_Md_firstOf_61, e_Md_firstOf_62, e_Md_firstOf_65, e_Md_firstOf_68, e_Md_firstOf_70, e_Md_firstOf_73, e_Md_firstOf_74, e_Md_firstOf_75, e_Md_firstOf_78, if_neg hf2, one_ne, if_false, wr_id, ihi, ha, evK_i]
        · have ihf := fun a5 => ih (i + 1) f a5 (by omega) (by omega) (Or.inr hf)
          rw [if_pos q1, if_neg (fun z => z.2.elim hf2 q2)]
          rw [if_neg q2] at ha
          simp (disch := omega) only [e_Md_firstOf_48, e_Md_firstOf_50, e_Md_firstOf_53, e_Md_firstOf_54, e_Md_firstOf_55, e_Md_firstOf_58, e_Md_firstOf_59, e_Md_firstOf_61, e_Md_firstOf_62, e_Md_firstOf_65, e_Md_firstOf_68, e_Md_firstOf_70, e_Md_firstOf_73, e_Md_firstOf_74, e_Md_firstOf_75, e_Md_firstOf_78, if_neg hf2, one_ne, if_false, if_true, wr_id, ihf, ha, evK_i]
    · have ihf := fun a5 => ih (i + 1) f a5 (by omega) (by omega) hf
      rw [if_neg q1, if_neg (fun z => q1 z.1)]
      simp (disch := omega) only [e_Md_firstOf_48, e_Md_firstOf_50, e_Md_firstOf_53, e_Md_firstOf_54, e_Md_firstOf_55, e_Md_firstOf_58, e_Md_firstOf_59, e_Md_firstOf_61, e_Md_firstOf_62, e_Md_firstOf_65, e_Md_firstOf_68, e_Md_firstOf_70, e_Md_firstOf_73, e_Md_firstOf_74, e_Md_firstOf_75, e_Md_firstOf_78, if_true, wr_id, ihf]
theorem c1_Md_firstOf {τ σ : aM} {c : Int} (w l : Int) (h : R1 τ σ c) (hI : IO τ c) (hD : DT τ) (hl : l = 0 ∨ l = 1) : ev 147 0 [aR 25 0, aI w, aI l, aU, aU, aU] [] σ = some (some (aI (oI (frs τ w))), σ) := by
  have h0 := h.1.2.1
  have h1 := l1_Md_firstOf (w := w) (l := l) h hI (gI τ 6 0 2).toNat 0 (-1) aU (by omega) (by omega) (Or.inl rfl)
  have h2 : Fst τ w l (gI τ 6 0 2) (ffF τ w l (gI τ 6 0 2).toNat 0 (-1)) := ffF_Fst hD _ _ _ (by omega) (by omega) (Or.inl ⟨rfl, fun j _ _ => by omega⟩)
  have h3 : Fst τ w l (gI τ 6 0 2) (oI (frs τ w)) := by
    rcases hl with q | q
    · rw [q]; exact frs_Fst0 hI hD h0
    · rw [q]; exact frs_Fst1 hI hD h0
  rw [Fst_uni h2 h3] at h1
  simp (disch := omega) only [e_Md_firstOf_0, e_Md_firstOf_1, e_Md_firstOf_2, e_Md_firstOf_3, h1]

