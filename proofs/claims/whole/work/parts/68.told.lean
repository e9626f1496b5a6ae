/-! counts, orders told, trades told -/
theorem l_Md_manyIn {τ σ : aM} {B w : Int} (hS : Sim τ σ (-1) B) : ∀ (n : Nat) (i a : Int), 0 ≤ i → i + n = gI τ 6 0 2 → 0 ≤ a → a ≤ i → ev 188 4 [aR 25 0, aI w, aI a, aI i] [] σ = some (some (aI (a + cnF τ w n i)), σ) := by
  have hm := hS.1.1
  intro n
  induction n with
  | zero =>
    intro i a h0 h1 h2 h3
    rw [e_Md_manyIn_4]
    simp (disch := omega) only [e_Md_manyIn_0, e_Md_manyIn_1, e_Md_manyIn_2, e_Md_manyIn_3, e_Md_manyIn_5, e_Md_manyIn_6, e_Md_manyIn_9, e_Md_manyIn_12, e_Md_manyIn_13, e_Md_manyIn_16, e_Md_manyIn_17, e_Md_manyIn_18, e_Md_manyIn_21, e_Md_manyIn_24, e_Md_manyIn_25, e_Md_manyIn_26, e_Md_manyIn_27, e_Md_manyIn_28, e_Md_manyIn_31, e_Md_manyIn_32, e_Md_manyIn_35, e_Md_manyIn_36, e_Md_manyIn_37, e_Md_manyIn_38, e_Md_manyIn_41, e_Md_manyIn_44, e_Md_manyIn_45, hm.1, if_pos (show gI τ 6 0 2 ≤ i by omega), cnF, Int.add_zero]
  | succ n ih =>
    intro i a h0 h1 h2 h3
    have k5 := ((RO.p hS.1 h0 (show i < gI τ 6 0 2 by omega)).2.1 (by omega)).2.1
    rw [e_Md_manyIn_4, cnF]
    by_cases z : gI τ 8 i 5 = w
    · rw [if_pos z, ← Int.add_assoc]
      simp (disch := omega) only [e_Md_manyIn_0, e_Md_manyIn_1, e_Md_manyIn_2, e_Md_manyIn_3, e_Md_manyIn_5, e_Md_manyIn_6, e_Md_manyIn_9, e_Md_manyIn_12, e_Md_manyIn_13, e_Md_manyIn_16, e_Md_manyIn_17, e_Md_manyIn_18, e_Md_manyIn_21, e_Md_manyIn_24, e_Md_manyIn_25, e_Md_manyIn_26, e_Md_manyIn_27, e_Md_manyIn_28, e_Md_manyIn_31, e_Md_manyIn_32, e_Md_manyIn_35, e_Md_manyIn_36, e_Md_manyIn_37, e_Md_manyIn_38, e_Md_manyIn_41, e_Md_manyIn_44, e_Md_manyIn_45, hm.1, if_neg (show ¬ gI τ 6 0 2 ≤ i by omega), k5, z, not_true_eq_false, if_false, wr_id, ih]
    · rw [if_neg z, Int.zero_add]
      simp (disch := omega) only [e_Md_manyIn_0, e_Md_manyIn_1, e_Md_manyIn_2, e_Md_manyIn_3, e_Md_manyIn_5, e_Md_manyIn_6, e_Md_manyIn_9, e_Md_manyIn_12, e_Md_manyIn_13, e_Md_manyIn_16, e_Md_manyIn_17, e_Md_manyIn_18, e_Md_manyIn_21, e_Md_manyIn_24, e_Md_manyIn_25, e_Md_manyIn_26, e_Md_manyIn_27, e_Md_manyIn_28, e_Md_manyIn_31, e_Md_manyIn_32, e_Md_manyIn_35, e_Md_manyIn_36, e_Md_manyIn_37, e_Md_manyIn_38, e_Md_manyIn_41, e_Md_manyIn_44, e_Md_manyIn_45, hm.1, if_neg (show ¬ gI τ 6 0 2 ≤ i by omega), k5, z, not_false_eq_true, if_true, Int.add_zero, wr_id, ih]
theorem c_Md_manyIn {τ σ : aM} {B : Int} (w : Int) (hS : Sim τ σ (-1) B) : ev 188 0 [aR 25 0, aI w, aU, aU] [] σ = some (some (aI (cnI τ w)), σ) := by
  have h := l_Md_manyIn (w := w) hS (gI τ 6 0 2).toNat 0 0 (by omega) (by have := hS.1.1; omega) (by omega) (by omega)
  simp (disch := omega) only [e_Md_manyIn_0, e_Md_manyIn_1, e_Md_manyIn_2, e_Md_manyIn_3, h, Int.zero_add]
  rfl
theorem PR_close {μ : aM} {B : Int} (hI : Inv μ B) : PR B μ (fun σ => ev 96 0 [aR 0 0] [] σ) (fun σ => ev 189 0 [aR 25 0] [] σ) := by
  obtain ⟨hc, h600, hR, hnum, h601, hph⟩ := Inv_f hI
  have h602 := hI.1.2.2.2.1.1.2.1
  have h604 := hI.1.2.2.2.1.1.2.2.2.1
  have g4 := hI.1.2.2.2.2.2.1
  by_cases h : gI μ 6 0 3 = 1
  · have hf : FrC 120 μ (uI μ 6 0 3 0) := (FrC.rfl μ).u (by omega)
    have hS : Sim (uI μ 6 0 3 0) (uI (uI μ 6 0 3 0) 26 0 601 0) (-1) B := glob_Sim hI.1 (fun t i j z => by rw [gI_uI, if_neg (by omega)]) (fun k z => by rw [gI_nj _ _ _ _ _ _ _ _ (by omega), frc_26 hf]) (by simp (disch := omega) only [gI_self, gI_nt, gI_nj, gL_uI, gR_uI, gI_uL, gR_uL, gI_uR, gL_uR]) (by simp (disch := omega) only [gI_self, gI_nt, gI_nj, gL_uI, gR_uI, gI_uL, gR_uL, gI_uR, gL_uR]; exact h602) (by simp (disch := omega) only [gI_self, gI_nt, gI_nj, gL_uI, gR_uI, gI_uL, gR_uL, gI_uR, gL_uR]; exact h604) (by simp (disch := omega) only [gI_self, gI_nt, gI_nj, gL_uI, gR_uI, gI_uL, gR_uL, gI_uR, gL_uR]; omega) (by simp (disch := omega) only [gI_self, gI_nt, gI_nj, gL_uI, gR_uI, gI_uL, gR_uL, gI_uR, gL_uR]; exact g4)
    have e2 : gI (uI μ 6 0 3 0) 6 0 2 = gI μ 6 0 2 := gI_nj _ _ _ _ _ _ _ _ (by decide)
    refine ⟨cnI (uI μ 6 0 3 0) 1, uI μ 6 0 3 0, uI (uI μ 6 0 3 0) 26 0 601 0, ?_, ?_, Inv_mono (Inv_step hI hf (frm_u _ _) hS (CO_cg hI.2.1 e2 (fun i _ _ => gI_nt _ _ _ _ _ _ _ _ (by decide)) (gI_nt _ _ _ _ _ _ _ _ (by decide)) (Int.le_refl _)) (by rw [e2]; exact Int.le_refl _) (Int.le_refl _)) (by omega)⟩
    · have hct := c_Bk_countIn 1 (uI μ 6 0 3 0) (by omega) (by omega)
      show ev 96 0 [aR 0 0] [] μ = _
      simp (disch := omega) only [e_Ub_close_0, e_Ub_close_1, e_Ub_close_4, e_Ub_close_7, e_Ub_close_8, e_Ub_close_11, e_Ub_close_12, e_Ub_close_14, e_Ub_close_17, e_Ub_close_18, e_Ub_close_19, e_Ub_close_22, e_Ub_close_23, e_Ub_close_26, e_Ub_close_27, e_Ub_close_30, e_Ub_close_31, e_Ub_close_34, h, if_true, evK_i, hct]
    · have hmi := c_Md_manyIn 1 hS
      have h4 : gI (uI μ 6 0 3 0) 26 0 601 = 1 := by rw [frc_26 hf, h601]; exact h
      show ev 189 0 [aR 25 0] [] (uI μ 6 0 3 0) = _
      simp (disch := omega) only [e_Md_close_0, e_Md_close_1, e_Md_close_4, e_Md_close_7, e_Md_close_8, e_Md_close_11, e_Md_close_12, e_Md_close_14, e_Md_close_17, e_Md_close_18, e_Md_close_19, e_Md_close_22, e_Md_close_25, e_Md_close_26, e_Md_close_27, e_Md_close_28, e_Md_close_29, e_Md_close_32, h4, one_ne, not_false_eq_true, if_true, evK_i, hmi]
  · refine PR_rf (a := -6) (r := 6) hI ?_ ?_
    · have hre := c_Ub_refuse (-6) μ (by omega)
      show ev 96 0 [aR 0 0] [] μ = _
      simp (disch := omega) only [e_Ub_close_0, e_Ub_close_1, e_Ub_close_4, e_Ub_close_7, e_Ub_close_8, e_Ub_close_11, e_Ub_close_12, e_Ub_close_14, e_Ub_close_17, e_Ub_close_18, e_Ub_close_19, e_Ub_close_22, e_Ub_close_23, e_Ub_close_26, e_Ub_close_27, e_Ub_close_30, e_Ub_close_31, e_Ub_close_34, if_neg h, evK_i, hre]
      rfl
    · have hre := c_Md_refused (-6) (rf4 μ 6) (by omega)
      have h4 : gI (rf4 μ 6) 26 0 601 = 0 := by rw [g_rf4 _ _ _ _ _ (by decide), h601]; omega
      show ev 189 0 [aR 25 0] [] (rf4 μ 6) = _
      simp (disch := omega) only [e_Md_close_0, e_Md_close_1, e_Md_close_4, e_Md_close_7, e_Md_close_8, e_Md_close_11, e_Md_close_12, e_Md_close_14, e_Md_close_17, e_Md_close_18, e_Md_close_19, e_Md_close_22, e_Md_close_25, e_Md_close_26, e_Md_close_27, e_Md_close_28, e_Md_close_29, e_Md_close_32, h4, not_true_eq_false, if_false, evK_i, hre]
      rfl
theorem c_Md_kept (σ : aM) : ev 200 0 [aR 25 0] [] σ = some (some (aI (if gI σ 26 0 606 < 200 then gI σ 26 0 606 else 200)), σ) := by
  simp (disch := omega) only [e_Md_kept_0, e_Md_kept_1, e_Md_kept_4, e_Md_kept_7, e_Md_kept_8, e_Md_kept_11, e_Md_kept_14, e_Md_kept_15, e_Md_kept_18, e_Md_kept_21, e_Md_kept_22, e_Md_kept_25, e_Md_kept_28]
  grind
theorem PR_trade {μ : aM} {B : Int} (hI : Inv μ B) (i w : Int) : PR B μ (fun σ => ev 104 0 [aR 0 0, aI i, aI w] [] σ) (fun σ => ev 201 0 [aR 25 0, aI i, aI w] [] σ) := by
  have h606 := hI.1.2.2.2.1.1.2.2.2.2.2
  have hT := hI.1.2.2.2.2.2.2.2.2.1
  have hf := hI.1.2.2.2.1.2.2
  have hk := c_Lg_keeps 0 i μ
  have htl := c_Lg_tell i w μ
  have hB : 0 ≤ gI μ 9 0 3 := hT.1
  obtain ⟨K, hK⟩ : ∃ K, K = (if gI μ 9 0 3 < 200 then gI μ 9 0 3 else 200) := ⟨_, rfl⟩
  have hK2 : (gI μ 9 0 3 < 200 ∧ K = gI μ 9 0 3) ∨ (200 ≤ gI μ 9 0 3 ∧ K = 200) := by
    rw [hK]
    split <;> omega
  by_cases h : (0 ≤ i ∧ i < gI μ 9 0 3 ∧ i < 200) ∧ (0 ≤ w ∧ w < 4)
  · have hff := hf (4 * i + w) (by omega) (by omega)
    rw [if_pos h.1] at hk
    rw [if_pos ⟨h.1.1, h.1.2.1, h.1.2.2, h.2⟩] at htl
    refine PR_id (a := gI μ 10 0 (4 * i + w)) hI ?_ ?_
    · show ev 104 0 [aR 0 0, aI i, aI w] [] μ = _
      simp (disch := omega) only [e_Ub_trade_0, e_Ub_trade_1, e_Ub_trade_4, e_Ub_trade_7, e_Ub_trade_8, e_Ub_trade_11, e_Ub_trade_14, e_Ub_trade_15, e_Ub_trade_18, e_Ub_trade_19, e_Ub_trade_20, e_Ub_trade_23, e_Ub_trade_24, e_Ub_trade_26, e_Ub_trade_29, e_Ub_trade_30, e_Ub_trade_31, e_Ub_trade_34, e_Ub_trade_37, e_Ub_trade_38, e_Ub_trade_39, e_Ub_trade_42, hk, htl, evK_i, one_ne, if_false, if_neg (show ¬ w < 0 by omega), if_pos h.2.2]
    · have hkp := c_Md_kept μ
      rw [h606, ← hK] at hkp
      have hi1 := c_Md_in i 0 (K - 1) μ
      rw [if_pos (by omega)] at hi1
      have hi2 := c_Md_in w 0 3 μ
      rw [if_pos (by omega)] at hi2
      show ev 201 0 [aR 25 0, aI i, aI w] [] μ = _
      have e : (623 : Int) + 4 * i + w = 623 + (4 * i + w) := by omega
      simp (disch := omega) only [e_Md_trade_0, e_Md_trade_1, e_Md_trade_2, e_Md_trade_3, e_Md_trade_6, e_Md_trade_7, e_Md_trade_8, e_Md_trade_11, e_Md_trade_14, e_Md_trade_15, e_Md_trade_16, e_Md_trade_17, e_Md_trade_20, e_Md_trade_23, e_Md_trade_24, e_Md_trade_27, e_Md_trade_30, e_Md_trade_31, e_Md_trade_32, e_Md_trade_33, e_Md_trade_34, e_Md_trade_35, e_Md_trade_36, e_Md_trade_37, e_Md_trade_40, e_Md_trade_41, e_Md_trade_43, e_Md_trade_46, hkp, hi1, hi2, evK_i, one_ne, if_false, wr_id, e, hff]
  · refine PR_rf (a := -5) (r := 5) hI ?_ ?_
    · have hre := c_Ub_refuse (-5) μ (by omega)
      show ev 104 0 [aR 0 0, aI i, aI w] [] μ = _
      by_cases h1 : 0 ≤ i ∧ i < gI μ 9 0 3 ∧ i < 200
      · rw [if_pos h1] at hk
        by_cases h2 : w < 0
        · simp (disch := omega) only [e_Ub_trade_0, e_Ub_trade_1, e_Ub_trade_4, e_Ub_trade_7, e_Ub_trade_8, e_Ub_trade_11, e_Ub_trade_14, e_Ub_trade_15, e_Ub_trade_18, e_Ub_trade_19, e_Ub_trade_20, e_Ub_trade_23, e_Ub_trade_24, e_Ub_trade_26, e_Ub_trade_29, e_Ub_trade_30, e_Ub_trade_31, e_Ub_trade_34, e_Ub_trade_37, e_Ub_trade_38, e_Ub_trade_39, e_Ub_trade_42, hk, evK_i, one_ne, if_false, if_pos h2, hre]
          rfl
        · simp (disch := omega) only [e_Ub_trade_0, e_Ub_trade_1, e_Ub_trade_4, e_Ub_trade_7, e_Ub_trade_8, e_Ub_trade_11, e_Ub_trade_14, e_Ub_trade_15, e_Ub_trade_18, e_Ub_trade_19, e_Ub_trade_20, e_Ub_trade_23, e_Ub_trade_24, e_Ub_trade_26, e_Ub_trade_29, e_Ub_trade_30, e_Ub_trade_31, e_Ub_trade_34, e_Ub_trade_37, e_Ub_trade_38, e_Ub_trade_39, e_Ub_trade_42, hk, evK_i, one_ne, if_false, if_neg h2, if_neg (show ¬ w < 4 from fun z => h ⟨h1, by omega, z⟩), hre]
          rfl
      · rw [if_neg h1] at hk
        simp (disch := omega) only [e_Ub_trade_0, e_Ub_trade_1, e_Ub_trade_4, e_Ub_trade_7, e_Ub_trade_8, e_Ub_trade_11, e_Ub_trade_14, e_Ub_trade_15, e_Ub_trade_18, e_Ub_trade_19, e_Ub_trade_20, e_Ub_trade_23, e_Ub_trade_24, e_Ub_trade_26, e_Ub_trade_29, e_Ub_trade_30, e_Ub_trade_31, e_Ub_trade_34, e_Ub_trade_37, e_Ub_trade_38, e_Ub_trade_39, e_Ub_trade_42, hk, evK_i, if_true, hre]
        rfl
    · have hre := c_Md_refused (-5) (rf4 μ 5) (by omega)
      have hkp := c_Md_kept (rf4 μ 5)
      rw [g_rf4 _ _ _ _ _ (by decide), h606, ← hK] at hkp
      have hi1 := c_Md_in i 0 (K - 1) (rf4 μ 5)
      have hi2 := c_Md_in w 0 3 (rf4 μ 5)
      show ev 201 0 [aR 25 0, aI i, aI w] [] (rf4 μ 5) = _
      by_cases h1 : 0 ≤ i ∧ i < gI μ 9 0 3 ∧ i < 200
      · rw [if_pos (by omega)] at hi1
        rw [if_neg (fun z => h ⟨h1, by omega⟩)] at hi2
        simp (disch := omega) only [e_Md_trade_0, e_Md_trade_1, e_Md_trade_2, e_Md_trade_3, e_Md_trade_6, e_Md_trade_7, e_Md_trade_8, e_Md_trade_11, e_Md_trade_14, e_Md_trade_15, e_Md_trade_16, e_Md_trade_17, e_Md_trade_20, e_Md_trade_23, e_Md_trade_24, e_Md_trade_27, e_Md_trade_30, e_Md_trade_31, e_Md_trade_32, e_Md_trade_33, e_Md_trade_34, e_Md_trade_35, e_Md_trade_36, e_Md_trade_37, e_Md_trade_40, e_Md_trade_41, e_Md_trade_43, e_Md_trade_46, hkp, hi1, hi2, evK_i, one_ne, if_false, if_true, wr_id, hre]
        rfl
      · rw [if_neg (fun z => h1 (by omega))] at hi1
        simp (disch := omega) only [e_Md_trade_0, e_Md_trade_1, e_Md_trade_2, e_Md_trade_3, e_Md_trade_6, e_Md_trade_7, e_Md_trade_8, e_Md_trade_11, e_Md_trade_14, e_Md_trade_15, e_Md_trade_16, e_Md_trade_17, e_Md_trade_20, e_Md_trade_23, e_Md_trade_24, e_Md_trade_27, e_Md_trade_30, e_Md_trade_31, e_Md_trade_32, e_Md_trade_33, e_Md_trade_34, e_Md_trade_35, e_Md_trade_36, e_Md_trade_37, e_Md_trade_40, e_Md_trade_41, e_Md_trade_43, e_Md_trade_46, hkp, hi1, evK_i, if_true, wr_id, hre]
        rfl
theorem c_Md_seen {τ σ : aM} {c : Int} (o : Int) (h : RO τ σ c) (h0 : 0 ≤ o) (h1 : o < gI τ 6 0 2) : ev 143 0 [aR 25 0, aI o] [] σ = some (some (aI (vsN τ o)), σ) := by
  have hc6 := h.1.2
  have hs := c_Md_seenOf o σ ⟨h0, by omega⟩
  obtain ⟨ra, rb, rt, rv, rc⟩ := RO.p h h0 h1
  rw [hs]
  unfold vsN
  have e5 := h.st h0 h1
  by_cases z : gI τ 8 o 5 = 1
  · rw [if_pos (e5 ▸ z), if_pos z]
    by_cases z2 : gI τ 8 o 1 = 2
    · rw [if_pos (by rw [ra.1]; exact z2), if_pos z2, rv z z2]
    · rw [if_neg (by rw [ra.1]; exact z2), if_neg z2, h.lf h0 h1 z]
  · rw [if_neg (e5 ▸ z), if_neg z]
theorem c_Md_pricedAs {τ σ : aM} {c : Int} (o : Int) (h : RO τ σ c) (hI : IO τ c) (h0 : 0 ≤ o) (h1 : o < gI τ 6 0 2) : ev 191 0 [aR 25 0, aI o] [] σ = some (some (aI (prO τ o)), σ) := by
  have hc6 := h.1.2
  have hp := c_Md_priceOf o h hI h0 h1
  obtain ⟨ra, rb, rt, rv, rc⟩ := RO.p h h0 h1
  have k1 := ra.1
  have k7 := ra.2.2.2.1
  unfold prO
  by_cases z : gI τ 8 o 1 = 3
  · have e : pO τ o = prB τ o (bsP τ (gI τ 8 o 3)) := by
      unfold pO pfB
      by_cases z5 : gI τ 8 o 5 = 1
      · rw [if_pos z5]
      · rw [if_neg z5]
        unfold prB
        rw [if_neg (fun y => y z), if_pos (Or.inl z5)]
    rw [if_pos z, ← e]
    simp (disch := omega) only [e_Md_pricedAs_0, e_Md_pricedAs_1, e_Md_pricedAs_4, e_Md_pricedAs_5, e_Md_pricedAs_6, e_Md_pricedAs_7, e_Md_pricedAs_8, e_Md_pricedAs_9, e_Md_pricedAs_12, e_Md_pricedAs_13, e_Md_pricedAs_14, e_Md_pricedAs_17, e_Md_pricedAs_20, e_Md_pricedAs_21, e_Md_pricedAs_24, e_Md_pricedAs_27, e_Md_pricedAs_28, e_Md_pricedAs_29, e_Md_pricedAs_30, wr_id, Int.zero_add, k1, z, not_true_eq_false, if_false, hp, evK_i]
  · rw [if_neg z]
    simp (disch := omega) only [e_Md_pricedAs_0, e_Md_pricedAs_1, e_Md_pricedAs_4, e_Md_pricedAs_5, e_Md_pricedAs_6, e_Md_pricedAs_7, e_Md_pricedAs_8, e_Md_pricedAs_9, e_Md_pricedAs_12, e_Md_pricedAs_13, e_Md_pricedAs_14, e_Md_pricedAs_17, e_Md_pricedAs_20, e_Md_pricedAs_21, e_Md_pricedAs_24, e_Md_pricedAs_27, e_Md_pricedAs_28, e_Md_pricedAs_29, e_Md_pricedAs_30, wr_id, Int.zero_add, k1, z, not_false_eq_true, if_true, k7]
/-- the class's price of one, at a call -/
theorem u_priceOf {μ : aM} {B o : Int} (hI : Inv μ B) (h : 0 ≤ o ∧ o < gI μ 6 0 2) : ev 10 0 [aR 6 0, aR 8 o] [] μ = some (some (aI (prO μ o)), μ) := by
  have hc := hI.2.1.1
  have ib := (IO_p hI.1.2.1 h.1 h.2).2.1
  exact c_Bk_priceOf o μ hc.1 hc.2 (bsP_rgI hI.1.2.1 hc.1 _) ib.2.2.1
theorem u_vis (μ : aM) (o : Int) : ev 39 0 [aR 8 o] [] μ = some (some (aI (vsN μ o)), μ) := c_Ord_visibleNow o μ
theorem PR_orderOf {μ : aM} {B : Int} (hI : Inv μ B) (o w : Int) : PR B μ (fun σ => ev 98 0 [aR 0 0, aI o, aI w, aU] [] σ) (fun σ => ev 193 0 [aR 25 0, aI o, aI w] [] σ) := by
  obtain ⟨hc, h600, hR, hnum, h601, hph⟩ := Inv_f hI
  have hat := c_Bk_orderAt o μ hc.2
  by_cases h : 0 ≤ o ∧ o < gI μ 6 0 2
  · rw [if_pos h] at hat
    by_cases hw : 0 ≤ w ∧ w ≤ 7
    · have hpr := u_priceOf hI h
      have hvs := u_vis μ o
      have mpr := c_Md_pricedAs o hI.1.1 hI.1.2.1 h.1 h.2
      have mvs := c_Md_seen o hI.1.1 h.1 h.2
      obtain ⟨ra, rb, rt, rv, rc⟩ := RO.p hI.1.1 h.1 h.2
      have rb := rb (by omega)
      have k1 := ra.1
      have k2 := ra.2.1
      have k3 := ra.2.2.1
      have k4 := rb.1
      have k5 := rb.2.1
      have k6 := rb.2.2
      have hio := c_Md_isOrder μ o (by omega)
      rw [h600, if_pos h] at hio
      have hin := c_Md_in w 0 7 μ
      rw [if_pos hw] at hin
      have hw8 : w = 0 ∨ w = 1 ∨ w = 2 ∨ w = 3 ∨ w = 4 ∨ w = 5 ∨ w = 6 ∨ w = 7 := by omega
      refine PR_id (a := if w = 0 then gI μ 8 o 1 else if w = 1 then gI μ 8 o 2 else if w = 2 then gI μ 8 o 3 else if w = 3 then gI μ 8 o 4 else if w = 4 then gI μ 8 o 5 else if w = 5 then prO μ o else if w = 6 then vsN μ o else gI μ 8 o 6) hI ?_ ?_
      · show ev 98 0 [aR 0 0, aI o, aI w, aU] [] μ = _
        rcases hw8 with z | z | z | z | z | z | z | z <;> subst z <;> simp (disch := omega) only [e_Ub_orderOf_0, e_Ub_orderOf_1, e_Ub_orderOf_4, e_Ub_orderOf_5, e_Ub_orderOf_8, e_Ub_orderOf_9, e_Ub_orderOf_10, e_Ub_orderOf_13, e_Ub_orderOf_14, e_Ub_orderOf_16, e_Ub_orderOf_19, e_Ub_orderOf_20, e_Ub_orderOf_21, e_Ub_orderOf_21_0, e_Ub_orderOf_21_1, e_Ub_orderOf_21_2, e_Ub_orderOf_21_3, e_Ub_orderOf_21_4, e_Ub_orderOf_21_5, e_Ub_orderOf_21_6, e_Ub_orderOf_21_7, e_Ub_orderOf_68, e_Ub_orderOf_69, e_Ub_orderOf_72, e_Ub_orderOf_73, e_Ub_orderOf_74, e_Ub_orderOf_77, e_Ub_orderOf_78, e_Ub_orderOf_79, e_Ub_orderOf_82, e_Ub_orderOf_83, e_Ub_orderOf_84, e_Ub_orderOf_87, e_Ub_orderOf_88, e_Ub_orderOf_89, e_Ub_orderOf_92, e_Ub_orderOf_93, e_Ub_orderOf_94, e_Ub_orderOf_97, e_Ub_orderOf_98, e_Ub_orderOf_101, e_Ub_orderOf_102, e_Ub_orderOf_103, e_Ub_orderOf_106, e_Ub_orderOf_107, e_Ub_orderOf_108, e_Ub_orderOf_111, e_Ub_orderOf_112, e_Ub_orderOf_113, e_Ub_orderOf_115, e_Ub_orderOf_118, hat, evK_i, reduceCtorEq, not_false_eq_true, if_true, hpr, hvs] <;> simp
      · show ev 193 0 [aR 25 0, aI o, aI w] [] μ = _
        rcases hw8 with z | z | z | z | z | z | z | z <;> subst z <;> simp (disch := omega) only [e_Md_orderOf_0, e_Md_orderOf_1, e_Md_orderOf_2, e_Md_orderOf_5, e_Md_orderOf_8, e_Md_orderOf_9, e_Md_orderOf_10, e_Md_orderOf_12, e_Md_orderOf_15, e_Md_orderOf_18, e_Md_orderOf_19, e_Md_orderOf_21, e_Md_orderOf_24, e_Md_orderOf_25, e_Md_orderOf_26, e_Md_orderOf_26_0, e_Md_orderOf_26_1, e_Md_orderOf_26_2, e_Md_orderOf_26_3, e_Md_orderOf_26_4, e_Md_orderOf_26_5, e_Md_orderOf_26_6, e_Md_orderOf_68, e_Md_orderOf_69, e_Md_orderOf_72, e_Md_orderOf_73, e_Md_orderOf_74, e_Md_orderOf_75, e_Md_orderOf_76, e_Md_orderOf_77, e_Md_orderOf_78, e_Md_orderOf_81, e_Md_orderOf_83, e_Md_orderOf_84, e_Md_orderOf_85, e_Md_orderOf_86, e_Md_orderOf_87, e_Md_orderOf_88, e_Md_orderOf_91, e_Md_orderOf_93, e_Md_orderOf_94, e_Md_orderOf_95, e_Md_orderOf_96, e_Md_orderOf_97, e_Md_orderOf_98, e_Md_orderOf_101, e_Md_orderOf_104, e_Md_orderOf_105, e_Md_orderOf_106, e_Md_orderOf_107, e_Md_orderOf_108, e_Md_orderOf_109, e_Md_orderOf_112, e_Md_orderOf_115, e_Md_orderOf_116, e_Md_orderOf_117, e_Md_orderOf_118, e_Md_orderOf_119, e_Md_orderOf_120, e_Md_orderOf_121, e_Md_orderOf_124, e_Md_orderOf_125, e_Md_orderOf_126, e_Md_orderOf_127, e_Md_orderOf_130, e_Md_orderOf_131, e_Md_orderOf_132, e_Md_orderOf_135, e_Md_orderOf_138, e_Md_orderOf_139, e_Md_orderOf_140, e_Md_orderOf_141, hio, hin, evK_i, one_ne, if_false, not_false_eq_true, if_true, wr_id, Int.zero_add, k1, k2, k3, k4, k5, k6, mpr, mvs] <;> simp
    · refine PR_rf (a := -5) (r := 5) hI ?_ ?_
      · have hre := c_Ub_refuse (-5) μ (by omega)
        show ev 98 0 [aR 0 0, aI o, aI w, aU] [] μ = _
        simp (disch := omega) only [e_Ub_orderOf_0, e_Ub_orderOf_1, e_Ub_orderOf_4, e_Ub_orderOf_5, e_Ub_orderOf_8, e_Ub_orderOf_9, e_Ub_orderOf_10, e_Ub_orderOf_13, e_Ub_orderOf_14, e_Ub_orderOf_16, e_Ub_orderOf_19, e_Ub_orderOf_20, e_Ub_orderOf_21, e_Ub_orderOf_21_0, e_Ub_orderOf_21_1, e_Ub_orderOf_21_2, e_Ub_orderOf_21_3, e_Ub_orderOf_21_4, e_Ub_orderOf_21_5, e_Ub_orderOf_21_6, e_Ub_orderOf_21_7, e_Ub_orderOf_68, e_Ub_orderOf_69, e_Ub_orderOf_72, e_Ub_orderOf_73, e_Ub_orderOf_74, e_Ub_orderOf_77, e_Ub_orderOf_78, e_Ub_orderOf_79, e_Ub_orderOf_82, e_Ub_orderOf_83, e_Ub_orderOf_84, e_Ub_orderOf_87, e_Ub_orderOf_88, e_Ub_orderOf_89, e_Ub_orderOf_92, e_Ub_orderOf_93, e_Ub_orderOf_94, e_Ub_orderOf_97, e_Ub_orderOf_98, e_Ub_orderOf_101, e_Ub_orderOf_102, e_Ub_orderOf_103, e_Ub_orderOf_106, e_Ub_orderOf_107, e_Ub_orderOf_108, e_Ub_orderOf_111, e_Ub_orderOf_112, e_Ub_orderOf_113, e_Ub_orderOf_115, e_Ub_orderOf_118, hat, evK_i, reduceCtorEq, not_false_eq_true, if_true, hre]
        rfl
      · have hre := c_Md_refused (-5) (rf4 μ 5) (by omega)
        have hio := c_Md_isOrder (rf4 μ 5) o (by rw [g_rf4 _ _ _ _ _ (by decide)]; omega)
        rw [g_rf4 _ _ _ _ _ (by decide), h600, if_pos h] at hio
        have hin := c_Md_in w 0 7 (rf4 μ 5)
        rw [if_neg hw] at hin
        show ev 193 0 [aR 25 0, aI o, aI w] [] (rf4 μ 5) = _
        simp (disch := omega) only [e_Md_orderOf_0, e_Md_orderOf_1, e_Md_orderOf_2, e_Md_orderOf_5, e_Md_orderOf_8, e_Md_orderOf_9, e_Md_orderOf_10, e_Md_orderOf_12, e_Md_orderOf_15, e_Md_orderOf_18, e_Md_orderOf_19, e_Md_orderOf_21, e_Md_orderOf_24, e_Md_orderOf_25, e_Md_orderOf_26, e_Md_orderOf_26_0, e_Md_orderOf_26_1, e_Md_orderOf_26_2, e_Md_orderOf_26_3, e_Md_orderOf_26_4, e_Md_orderOf_26_5, e_Md_orderOf_26_6, e_Md_orderOf_68, e_Md_orderOf_69, e_Md_orderOf_72, e_Md_orderOf_73, e_Md_orderOf_74, e_Md_orderOf_75, e_Md_orderOf_76, e_Md_orderOf_77, e_Md_orderOf_78, e_Md_orderOf_81, e_Md_orderOf_83, e_Md_orderOf_84, e_Md_orderOf_85, e_Md_orderOf_86, e_Md_orderOf_87, e_Md_orderOf_88, e_Md_orderOf_91, e_Md_orderOf_93, e_Md_orderOf_94, e_Md_orderOf_95, e_Md_orderOf_96, e_Md_orderOf_97, e_Md_orderOf_98, e_Md_orderOf_101, e_Md_orderOf_104, e_Md_orderOf_105, e_Md_orderOf_106, e_Md_orderOf_107, e_Md_orderOf_108, e_Md_orderOf_109, e_Md_orderOf_112, e_Md_orderOf_115, e_Md_orderOf_116, e_Md_orderOf_117, e_Md_orderOf_118, e_Md_orderOf_119, e_Md_orderOf_120, e_Md_orderOf_121, e_Md_orderOf_124, e_Md_orderOf_125, e_Md_orderOf_126, e_Md_orderOf_127, e_Md_orderOf_130, e_Md_orderOf_131, e_Md_orderOf_132, e_Md_orderOf_135, e_Md_orderOf_138, e_Md_orderOf_139, e_Md_orderOf_140, e_Md_orderOf_141, hio, hin, evK_i, one_ne, if_false, not_true_eq_false, hre]
        rfl
  · rw [if_neg h] at hat
    refine PR_rf (a := -5) (r := 5) hI ?_ ?_
    · have hre := c_Ub_refuse (-5) μ (by omega)
      show ev 98 0 [aR 0 0, aI o, aI w, aU] [] μ = _
      simp (disch := omega) only [e_Ub_orderOf_0, e_Ub_orderOf_1, e_Ub_orderOf_4, e_Ub_orderOf_5, e_Ub_orderOf_8, e_Ub_orderOf_9, e_Ub_orderOf_10, e_Ub_orderOf_13, e_Ub_orderOf_14, e_Ub_orderOf_16, e_Ub_orderOf_19, e_Ub_orderOf_20, e_Ub_orderOf_21, e_Ub_orderOf_21_0, e_Ub_orderOf_21_1, e_Ub_orderOf_21_2, e_Ub_orderOf_21_3, e_Ub_orderOf_21_4, e_Ub_orderOf_21_5, e_Ub_orderOf_21_6, e_Ub_orderOf_21_7, e_Ub_orderOf_68, e_Ub_orderOf_69, e_Ub_orderOf_72, e_Ub_orderOf_73, e_Ub_orderOf_74, e_Ub_orderOf_77, e_Ub_orderOf_78, e_Ub_orderOf_79, e_Ub_orderOf_82, e_Ub_orderOf_83, e_Ub_orderOf_84, e_Ub_orderOf_87, e_Ub_orderOf_88, e_Ub_orderOf_89, e_Ub_orderOf_92, e_Ub_orderOf_93, e_Ub_orderOf_94, e_Ub_orderOf_97, e_Ub_orderOf_98, e_Ub_orderOf_101, e_Ub_orderOf_102, e_Ub_orderOf_103, e_Ub_orderOf_106, e_Ub_orderOf_107, e_Ub_orderOf_108, e_Ub_orderOf_111, e_Ub_orderOf_112, e_Ub_orderOf_113, e_Ub_orderOf_115, e_Ub_orderOf_118, hat, evK_i, not_true_eq_false, if_false, hre]
      rfl
    · have hre := c_Md_refused (-5) (rf4 μ 5) (by omega)
      have hio := c_Md_isOrder (rf4 μ 5) o (by rw [g_rf4 _ _ _ _ _ (by decide)]; omega)
      rw [g_rf4 _ _ _ _ _ (by decide), h600, if_neg h] at hio
      show ev 193 0 [aR 25 0, aI o, aI w] [] (rf4 μ 5) = _
      simp (disch := omega) only [e_Md_orderOf_0, e_Md_orderOf_1, e_Md_orderOf_2, e_Md_orderOf_5, e_Md_orderOf_8, e_Md_orderOf_9, e_Md_orderOf_10, e_Md_orderOf_12, e_Md_orderOf_15, e_Md_orderOf_18, e_Md_orderOf_19, e_Md_orderOf_21, e_Md_orderOf_24, e_Md_orderOf_25, e_Md_orderOf_26, e_Md_orderOf_26_0, e_Md_orderOf_26_1, e_Md_orderOf_26_2, e_Md_orderOf_26_3, e_Md_orderOf_26_4, e_Md_orderOf_26_5, e_Md_orderOf_26_6, e_Md_orderOf_68, e_Md_orderOf_69, e_Md_orderOf_72, e_Md_orderOf_73, e_Md_orderOf_74, e_Md_orderOf_75, e_Md_orderOf_76, e_Md_orderOf_77, e_Md_orderOf_78, e_Md_orderOf_81, e_Md_orderOf_83, e_Md_orderOf_84, e_Md_orderOf_85, e_Md_orderOf_86, e_Md_orderOf_87, e_Md_orderOf_88, e_Md_orderOf_91, e_Md_orderOf_93, e_Md_orderOf_94, e_Md_orderOf_95, e_Md_orderOf_96, e_Md_orderOf_97, e_Md_orderOf_98, e_Md_orderOf_101, e_Md_orderOf_104, e_Md_orderOf_105, e_Md_orderOf_106, e_Md_orderOf_107, e_Md_orderOf_108, e_Md_orderOf_109, e_Md_orderOf_112, e_Md_orderOf_115, e_Md_orderOf_116, e_Md_orderOf_117, e_Md_orderOf_118, e_Md_orderOf_119, e_Md_orderOf_120, e_Md_orderOf_121, e_Md_orderOf_124, e_Md_orderOf_125, e_Md_orderOf_126, e_Md_orderOf_127, e_Md_orderOf_130, e_Md_orderOf_131, e_Md_orderOf_132, e_Md_orderOf_135, e_Md_orderOf_138, e_Md_orderOf_139, e_Md_orderOf_140, e_Md_orderOf_141, hio, evK_i, if_true, hre]
      rfl
theorem PR_status {μ : aM} {B : Int} (hI : Inv μ B) (w : Int) : PR B μ (fun σ => ev 112 0 [aR 0 0, aI w] [] σ) (fun σ => ev 210 0 [aR 25 0, aI w] [] σ) := by
  obtain ⟨hc, h600, hR, hnum, h601, hph⟩ := Inv_f hI
  obtain ⟨⟨b1, b2, b3, b4, b5, b6⟩, bp, bf⟩ := hI.1.2.2.2.1
  have i4 := hI.2.2.2.1
  have hct := fun v => c_Bk_countIn v μ hc.1 hc.2
  have hmi := fun v => c_Md_manyIn v hI.1
  by_cases h1 : 11 ≤ w ∧ w ≤ 17
  · have hr := i4 (w - 10) (by omega) (by omega)
    have hin := c_Md_in w 11 17 μ
    rw [if_pos h1] at hin
    refine PR_id (a := gI μ 4 0 (w - 10)) hI ?_ ?_
    · show ev 112 0 [aR 0 0, aI w] [] μ = _
      simp (disch := omega) only [e_Ub_status_0, e_Ub_status_1, e_Ub_status_3, e_Ub_status_6, e_Ub_status_7, e_Ub_status_9, e_Ub_status_12, e_Ub_status_13, e_Ub_status_16, e_Ub_status_17, e_Ub_status_19, e_Ub_status_20, e_Ub_status_21, if_neg (show ¬ w ≤ 10 by omega), if_neg (show ¬ 17 < w by omega), wr_id]
    · show ev 210 0 [aR 25 0, aI w] [] μ = _
      simp (disch := omega) only [e_Md_status_0, e_Md_status_1, e_Md_status_2, e_Md_status_5, e_Md_status_6, e_Md_status_7, e_Md_status_10, e_Md_status_11, e_Md_status_12, e_Md_status_13, e_Md_status_16, e_Md_status_17, e_Md_status_20, e_Md_status_21, e_Md_status_24, e_Md_status_25, e_Md_status_26, e_Md_status_28, e_Md_status_30, e_Md_status_33, e_Md_status_36, e_Md_status_37, e_Md_status_40, e_Md_status_41, e_Md_status_43, e_Md_status_44, e_Md_status_45, if_neg (show ¬ w = 1 by omega), if_pos (show ¬ w = 2 by omega), hin, evK_i, one_ne, if_false, wr_id, hr]
  · have hin := c_Md_in w 11 17 μ
    rw [if_neg h1] at hin
    have u0 : ev 112 0 [aR 0 0, aI w] [] μ = ev 112 22 [aR 0 0, aI w] [] μ := by
      by_cases z : w ≤ 10
      · simp (disch := omega) only [e_Ub_status_0, e_Ub_status_1, e_Ub_status_3, e_Ub_status_6, e_Ub_status_7, e_Ub_status_9, if_pos z]
      · simp (disch := omega) only [e_Ub_status_0, e_Ub_status_1, e_Ub_status_3, e_Ub_status_6, e_Ub_status_7, e_Ub_status_9, if_neg z, if_pos (show 17 < w by omega)]
    by_cases h2 : 0 ≤ w ∧ w ≤ 6
    · have hin2 := c_Md_in w 3 6 μ
      have hw7 : w = 0 ∨ w = 1 ∨ w = 2 ∨ w = 3 ∨ w = 4 ∨ w = 5 ∨ w = 6 := by omega
      refine PR_id (a := if w = 0 then gI μ 6 0 2 else if w = 1 then cnI μ 1 else if w = 2 then cnI μ 0 else if w = 3 then gI μ 6 0 3 else if w = 4 then gI μ 6 0 4 else if w = 5 then gI μ 9 0 4 else gI μ 6 0 5) hI ?_ ?_
      · show ev 112 0 [aR 0 0, aI w] [] μ = _
        rw [u0]
        rcases hw7 with z | z | z | z | z | z | z <;> subst z <;> simp (disch := omega) only [e_Ub_status_22, e_Ub_status_23, e_Ub_status_23_0, e_Ub_status_23_1, e_Ub_status_23_2, e_Ub_status_23_3, e_Ub_status_23_4, e_Ub_status_23_5, e_Ub_status_23_6, e_Ub_status_64, e_Ub_status_65, e_Ub_status_68, e_Ub_status_71, e_Ub_status_72, e_Ub_status_73, e_Ub_status_76, e_Ub_status_77, e_Ub_status_80, e_Ub_status_81, e_Ub_status_82, e_Ub_status_85, e_Ub_status_86, e_Ub_status_89, e_Ub_status_90, e_Ub_status_91, e_Ub_status_94, e_Ub_status_97, e_Ub_status_98, e_Ub_status_99, e_Ub_status_102, e_Ub_status_105, e_Ub_status_106, e_Ub_status_107, e_Ub_status_110, e_Ub_status_113, e_Ub_status_116, e_Ub_status_117, e_Ub_status_118, e_Ub_status_121, e_Ub_status_124, e_Ub_status_125, e_Ub_status_126, hct, evK_i] <;> simp
      · show ev 210 0 [aR 25 0, aI w] [] μ = _
        rcases hw7 with z | z | z | z | z | z | z <;> subst z <;> simp at hin2 <;> simp (disch := omega) only [e_Md_status_0, e_Md_status_1, e_Md_status_2, e_Md_status_5, e_Md_status_6, e_Md_status_7, e_Md_status_10, e_Md_status_11, e_Md_status_12, e_Md_status_13, e_Md_status_16, e_Md_status_17, e_Md_status_20, e_Md_status_21, e_Md_status_24, e_Md_status_25, e_Md_status_26, e_Md_status_28, e_Md_status_30, e_Md_status_33, e_Md_status_36, e_Md_status_37, e_Md_status_40, e_Md_status_41, e_Md_status_43, e_Md_status_44, e_Md_status_45, e_Md_status_46, e_Md_status_47, e_Md_status_50, e_Md_status_51, e_Md_status_54, e_Md_status_57, e_Md_status_58, e_Md_status_61, e_Md_status_62, e_Md_status_63, e_Md_status_65, e_Md_status_68, e_Md_status_71, e_Md_status_72, e_Md_status_75, e_Md_status_78, e_Md_status_79, e_Md_status_80, e_Md_status_81, e_Md_status_82, e_Md_status_83, e_Md_status_86, e_Md_status_87, hin, hin2, hmi, evK_i, one_ne, if_false, not_false_eq_true, not_true_eq_false, if_true, wr_id, h600, h601, b2, b3, b4, Int.reduceSub, Int.reduceAdd, show ¬ (0 : Int) = 1 by decide, show ¬ (0 : Int) = 2 by decide, show ¬ (2 : Int) = 1 by decide, show ¬ (3 : Int) = 1 by decide, show ¬ (3 : Int) = 2 by decide, show ¬ (4 : Int) = 1 by decide, show ¬ (4 : Int) = 2 by decide, show ¬ (5 : Int) = 1 by decide, show ¬ (5 : Int) = 2 by decide, show ¬ (6 : Int) = 1 by decide, show ¬ (6 : Int) = 2 by decide] <;> simp
    · have hin2 := c_Md_in w 3 6 μ
      rw [if_neg (by omega)] at hin2
      refine PR_id (a := -1) hI ?_ ?_
      · show ev 112 0 [aR 0 0, aI w] [] μ = _
        rw [u0]
        simp (disch := omega) only [e_Ub_status_22, e_Ub_status_23, e_Ub_status_23_0, e_Ub_status_23_1, e_Ub_status_23_2, e_Ub_status_23_3, e_Ub_status_23_4, e_Ub_status_23_5, e_Ub_status_23_6, e_Ub_status_64, e_Ub_status_65, e_Ub_status_68, e_Ub_status_71, e_Ub_status_72, e_Ub_status_73, e_Ub_status_76, e_Ub_status_77, e_Ub_status_80, e_Ub_status_81, e_Ub_status_82, e_Ub_status_85, e_Ub_status_86, e_Ub_status_89, e_Ub_status_90, e_Ub_status_91, e_Ub_status_94, e_Ub_status_97, e_Ub_status_98, e_Ub_status_99, e_Ub_status_102, e_Ub_status_105, e_Ub_status_106, e_Ub_status_107, e_Ub_status_110, e_Ub_status_113, e_Ub_status_116, e_Ub_status_117, e_Ub_status_118, e_Ub_status_121, e_Ub_status_124, e_Ub_status_125, e_Ub_status_126]
      · show ev 210 0 [aR 25 0, aI w] [] μ = _
        simp (disch := omega) only [e_Md_status_0, e_Md_status_1, e_Md_status_2, e_Md_status_5, e_Md_status_6, e_Md_status_7, e_Md_status_10, e_Md_status_11, e_Md_status_12, e_Md_status_13, e_Md_status_16, e_Md_status_17, e_Md_status_20, e_Md_status_21, e_Md_status_24, e_Md_status_25, e_Md_status_26, e_Md_status_28, e_Md_status_30, e_Md_status_33, e_Md_status_36, e_Md_status_37, e_Md_status_40, e_Md_status_41, e_Md_status_43, e_Md_status_44, e_Md_status_45, e_Md_status_46, e_Md_status_47, e_Md_status_50, e_Md_status_51, e_Md_status_54, e_Md_status_57, e_Md_status_58, e_Md_status_61, e_Md_status_62, e_Md_status_63, e_Md_status_65, e_Md_status_68, e_Md_status_71, e_Md_status_72, e_Md_status_75, e_Md_status_78, e_Md_status_79, e_Md_status_80, e_Md_status_81, e_Md_status_82, e_Md_status_83, e_Md_status_86, e_Md_status_87, hin, hin2, evK_i, if_neg (show ¬ w = 1 by omega), if_pos (show ¬ w = 2 by omega), if_pos (show ¬ w = 0 by omega), if_true]
