/-! orders, shelves: the class's smaller methods -/
theorem c_Ub_refuseApart (r : Int) (σ : aM) (h : -7 ≤ r ∧ r < 0) : ev 114 0 [aR 0 0, aI r] [] σ = some (some (aI (r - 10)), uI σ 4 0 (-r) (wr (gI σ 4 0 (-r) + 1))) := by
  simp (disch := omega) only [e_Ub_refuseApart_0, e_Ub_refuseApart_1, e_Ub_refuseApart_2, e_Ub_refuseApart_5, e_Ub_refuseApart_7, e_Ub_refuseApart_8, c_Ub_refuse, evK_i, wr_id]
theorem c_Sh_holdNothing (i : Int) (σ : aM) : ev 54 0 [aR 2 i] [] σ = some (none, uI (uI (uI σ 2 i 1 0) 2 i 2 (-1)) 2 i 3 (-1)) := by
  simp (disch := omega) only [e_Sh_holdNothing_0, e_Sh_holdNothing_1, e_Sh_holdNothing_2, e_Sh_holdNothing_5, e_Sh_holdNothing_6, e_Sh_holdNothing_7, e_Sh_holdNothing_10, e_Sh_holdNothing_11, e_Sh_holdNothing_12, e_Sh_holdNothing_15]
theorem c_Sh_holdOrder (i o : Int) (σ : aM) : ev 55 0 [aR 2 i, aI o] [] σ = some (none, uI (uI (uI (uI σ 2 i 1 0) 2 i 2 (-1)) 2 i 3 (-1)) 2 i 3 o) := by
  simp (disch := omega) only [e_Sh_holdOrder_0, e_Sh_holdOrder_1, e_Sh_holdOrder_4, e_Sh_holdOrder_5, e_Sh_holdOrder_6, e_Sh_holdOrder_9, c_Sh_holdNothing, evK_v]
theorem c_Sh_holdsRow (i : Int) (σ : aM) : ev 57 0 [aR 2 i] [] σ = some (some (aI (if ¬ gI σ 2 i 2 = -1 then 1 else 0)), σ) := by
  simp (disch := omega) only [e_Sh_holdsRow_0, e_Sh_holdsRow_1, e_Sh_holdsRow_4, e_Sh_holdsRow_5, e_Sh_holdsRow_8, e_Sh_holdsRow_9, e_Sh_holdsRow_12, e_Sh_holdsRow_13]
  grind
theorem c_Sh_holdsOrder (i : Int) (σ : aM) : ev 58 0 [aR 2 i] [] σ = some (some (aI (if ¬ gI σ 2 i 3 = -1 then 1 else 0)), σ) := by
  simp (disch := omega) only [e_Sh_holdsOrder_0, e_Sh_holdsOrder_1, e_Sh_holdsOrder_4, e_Sh_holdsOrder_5, e_Sh_holdsOrder_8, e_Sh_holdsOrder_9, e_Sh_holdsOrder_12, e_Sh_holdsOrder_13]
  grind
theorem c_Sh_hasElement (i k : Int) (σ : aM) : ev 59 0 [aR 2 i, aI k] [] σ = some (some (aI (if 0 ≤ k ∧ k < gI σ 2 i 1 then 1 else 0)), σ) := by
  simp (disch := omega) only [e_Sh_hasElement_0, e_Sh_hasElement_1, e_Sh_hasElement_4, e_Sh_hasElement_5, e_Sh_hasElement_6, e_Sh_hasElement_9, e_Sh_hasElement_12, e_Sh_hasElement_13, e_Sh_hasElement_16, e_Sh_hasElement_17]
  grind
theorem c_Sh_hasSpan (i k n : Int) (σ : aM) (h : 0 ≤ gI σ 2 i 1 ∧ gI σ 2 i 1 < 1000 ∧ n < 2147483648) : ev 60 0 [aR 2 i, aI k, aI n] [] σ = some (some (aI (if 0 ≤ k ∧ 0 ≤ n ∧ k + n ≤ gI σ 2 i 1 then 1 else 0)), σ) := by
  by_cases hn : 0 ≤ n
  · simp (disch := omega) only [e_Sh_hasSpan_0, e_Sh_hasSpan_1, e_Sh_hasSpan_4, e_Sh_hasSpan_5, e_Sh_hasSpan_8, e_Sh_hasSpan_9, e_Sh_hasSpan_10, e_Sh_hasSpan_13, e_Sh_hasSpan_14, e_Sh_hasSpan_15, e_Sh_hasSpan_18, e_Sh_hasSpan_19, e_Sh_hasSpan_22, e_Sh_hasSpan_23, wr_id]
    grind
  · simp (disch := omega) only [e_Sh_hasSpan_0, e_Sh_hasSpan_1, e_Sh_hasSpan_4, e_Sh_hasSpan_5, e_Sh_hasSpan_8, e_Sh_hasSpan_9, e_Sh_hasSpan_10, e_Sh_hasSpan_13, e_Sh_hasSpan_14, e_Sh_hasSpan_15, e_Sh_hasSpan_18, e_Sh_hasSpan_19, e_Sh_hasSpan_22, e_Sh_hasSpan_23]
    grind
theorem c_Sh_intAt (i k : Int) (σ : aM) (h : 0 ≤ gI σ 2 i 1 ∧ gI σ 2 i 1 ≤ 160) : ev 62 0 [aR 2 i, aI k] [] σ = some (some (aI (if 0 ≤ k ∧ k < gI σ 2 i 1 then toi (gL σ 3 i k) else 0)), σ) := by
  by_cases hk : 0 ≤ k ∧ k < gI σ 2 i 1
  · simp (disch := omega) only [e_Sh_intAt_0, e_Sh_intAt_1, e_Sh_intAt_2, e_Sh_intAt_5, e_Sh_intAt_8, e_Sh_intAt_9, e_Sh_intAt_12, e_Sh_intAt_13, e_Sh_intAt_14, e_Sh_intAt_15, e_Sh_intAt_18, e_Sh_intAt_19, c_Sh_hasElement, evK_i, hk, and_self, if_true, one_ne, if_false]
  · simp (disch := omega) only [e_Sh_intAt_0, e_Sh_intAt_1, e_Sh_intAt_2, e_Sh_intAt_5, e_Sh_intAt_8, e_Sh_intAt_9, e_Sh_intAt_12, e_Sh_intAt_13, e_Sh_intAt_14, e_Sh_intAt_15, e_Sh_intAt_18, e_Sh_intAt_19, c_Sh_hasElement, evK_i, b01, hk, not_false_eq_true, if_true, if_false]
/-- what a row keeps of a number -/
def keep (sort : Int) (v : Int64) : Int64 := if sort = 0 then toj (tob (toi v)) else if sort = 1 then toj (tos (toi v)) else if sort = 2 then toj (toi v) else v
theorem c_Sh_put (i k : Int) (v : Int64) (σ : aM) (h : 0 ≤ gI σ 2 i 1 ∧ gI σ 2 i 1 ≤ 160) (hk : 0 ≤ k ∧ k < gI σ 2 i 1) : ev 61 0 [aR 2 i, aI k, aJ v, aU] [] σ = some (none, uL σ 3 i k (keep (gI σ 2 i 2) v)) := by
  simp (disch := omega) only [e_Sh_put_1, e_Sh_put_2, e_Sh_put_5, e_Sh_put_8, e_Sh_put_9, e_Sh_put_10, e_Sh_put_13_0, e_Sh_put_13_1, e_Sh_put_13_2, e_Sh_put_40, e_Sh_put_41, e_Sh_put_44, e_Sh_put_45, e_Sh_put_46, e_Sh_put_47, e_Sh_put_48, e_Sh_put_49, e_Sh_put_50, e_Sh_put_53, e_Sh_put_54, e_Sh_put_57, e_Sh_put_58, e_Sh_put_59, e_Sh_put_60, e_Sh_put_61, e_Sh_put_62, e_Sh_put_63, e_Sh_put_66, e_Sh_put_67, e_Sh_put_70, e_Sh_put_71, e_Sh_put_72, e_Sh_put_73, e_Sh_put_74, e_Sh_put_75, e_Sh_put_78, e_Sh_put_79, e_Sh_put_82, e_Sh_put_83, e_Sh_put_84, e_Sh_put_85, e_Sh_put_0, c_Sh_hasElement, evK_i, b01, hk, and_self, not_true_eq_false, if_false]
  unfold keep
  by_cases h0 : gI σ 2 i 2 = 0
  · simp (disch := omega) only [e_Sh_put_0, e_Sh_put_1, e_Sh_put_2, e_Sh_put_5, e_Sh_put_8, e_Sh_put_9, e_Sh_put_10, e_Sh_put_13, e_Sh_put_13_0, e_Sh_put_13_1, e_Sh_put_13_2, e_Sh_put_40, e_Sh_put_41, e_Sh_put_44, e_Sh_put_45, e_Sh_put_46, e_Sh_put_47, e_Sh_put_48, e_Sh_put_49, e_Sh_put_50, e_Sh_put_53, e_Sh_put_54, e_Sh_put_57, e_Sh_put_58, e_Sh_put_59, e_Sh_put_60, e_Sh_put_61, e_Sh_put_62, e_Sh_put_63, e_Sh_put_66, e_Sh_put_67, e_Sh_put_70, e_Sh_put_71, e_Sh_put_72, e_Sh_put_73, e_Sh_put_74, e_Sh_put_75, e_Sh_put_78, e_Sh_put_79, e_Sh_put_82, e_Sh_put_83, e_Sh_put_84, e_Sh_put_85, h0, if_true, not_false_eq_true]
  · by_cases h1 : gI σ 2 i 2 = 1
    · simp (disch := omega) only [e_Sh_put_0, e_Sh_put_1, e_Sh_put_2, e_Sh_put_5, e_Sh_put_8, e_Sh_put_9, e_Sh_put_10, e_Sh_put_13, e_Sh_put_13_0, e_Sh_put_13_1, e_Sh_put_13_2, e_Sh_put_40, e_Sh_put_41, e_Sh_put_44, e_Sh_put_45, e_Sh_put_46, e_Sh_put_47, e_Sh_put_48, e_Sh_put_49, e_Sh_put_50, e_Sh_put_53, e_Sh_put_54, e_Sh_put_57, e_Sh_put_58, e_Sh_put_59, e_Sh_put_60, e_Sh_put_61, e_Sh_put_62, e_Sh_put_63, e_Sh_put_66, e_Sh_put_67, e_Sh_put_70, e_Sh_put_71, e_Sh_put_72, e_Sh_put_73, e_Sh_put_74, e_Sh_put_75, e_Sh_put_78, e_Sh_put_79, e_Sh_put_82, e_Sh_put_83, e_Sh_put_84, e_Sh_put_85, h1, if_true]
      rfl
    · by_cases h2 : gI σ 2 i 2 = 2
      · simp (disch := omega) only [e_Sh_put_0, e_Sh_put_1, e_Sh_put_2, e_Sh_put_5, e_Sh_put_8, e_Sh_put_9, e_Sh_put_10, e_Sh_put_13, e_Sh_put_13_0, e_Sh_put_13_1, e_Sh_put_13_2, e_Sh_put_40, e_Sh_put_41, e_Sh_put_44, e_Sh_put_45, e_Sh_put_46, e_Sh_put_47, e_Sh_put_48, e_Sh_put_49, e_Sh_put_50, e_Sh_put_53, e_Sh_put_54, e_Sh_put_57, e_Sh_put_58, e_Sh_put_59, e_Sh_put_60, e_Sh_put_61, e_Sh_put_62, e_Sh_put_63, e_Sh_put_66, e_Sh_put_67, e_Sh_put_70, e_Sh_put_71, e_Sh_put_72, e_Sh_put_73, e_Sh_put_74, e_Sh_put_75, e_Sh_put_78, e_Sh_put_79, e_Sh_put_82, e_Sh_put_83, e_Sh_put_84, e_Sh_put_85, h2, if_true]
        rfl
      · have h3 : gI σ 2 i 2 < 0 ∨ 2 < gI σ 2 i 2 := by omega
        simp (disch := omega) only [e_Sh_put_0, e_Sh_put_1, e_Sh_put_2, e_Sh_put_5, e_Sh_put_8, e_Sh_put_9, e_Sh_put_10, e_Sh_put_13, e_Sh_put_13_0, e_Sh_put_13_1, e_Sh_put_13_2, e_Sh_put_40, e_Sh_put_41, e_Sh_put_44, e_Sh_put_45, e_Sh_put_46, e_Sh_put_47, e_Sh_put_48, e_Sh_put_49, e_Sh_put_50, e_Sh_put_53, e_Sh_put_54, e_Sh_put_57, e_Sh_put_58, e_Sh_put_59, e_Sh_put_60, e_Sh_put_61, e_Sh_put_62, e_Sh_put_63, e_Sh_put_66, e_Sh_put_67, e_Sh_put_70, e_Sh_put_71, e_Sh_put_72, e_Sh_put_73, e_Sh_put_74, e_Sh_put_75, e_Sh_put_78, e_Sh_put_79, e_Sh_put_82, e_Sh_put_83, e_Sh_put_84, e_Sh_put_85, h0, h1, h2, if_false, if_true, not_false_eq_true]
/-! orders -/
/-- one is ahead of another, by these prices -/
abbrev ahd (σ : aM) (i j p q : Int) : Prop := (¬ p = q ∧ ((gI σ 8 i 3 = 0 ∧ q < p) ∨ (¬ gI σ 8 i 3 = 0 ∧ p < q))) ∨ (p = q ∧ ((¬ gI σ 8 i 1 = 3 ∧ gI σ 8 j 1 = 3) ∨ ((gI σ 8 i 1 = 3 ↔ gI σ 8 j 1 = 3) ∧ gI σ 8 i 10 < gI σ 8 j 10)))
theorem c_Ord_isUnder (i k : Int) (σ : aM) : ev 36 0 [aR 8 i, aI k] [] σ = some (some (aI (if k = 0 ∨ k = gI σ 8 i 1 ∨ (k = 1 ∧ gI σ 8 i 1 = 2) then 1 else 0)), σ) := by
  simp (disch := omega) only [e_Ord_isUnder_0, e_Ord_isUnder_1, e_Ord_isUnder_4, e_Ord_isUnder_5, e_Ord_isUnder_6, e_Ord_isUnder_9, e_Ord_isUnder_12, e_Ord_isUnder_13, e_Ord_isUnder_14, e_Ord_isUnder_17, e_Ord_isUnder_18, e_Ord_isUnder_21, e_Ord_isUnder_22, e_Ord_isUnder_25, e_Ord_isUnder_26, e_Ord_isUnder_29, e_Ord_isUnder_30]
  grind
theorem c_Ord_canBeAmended (i : Int) (σ : aM) : ev 37 0 [aR 8 i] [] σ = some (some (aI (if (gI σ 8 i 1 = 4 ∧ gI σ 8 i 5 = 0) ∨ (¬ gI σ 8 i 1 = 4 ∧ ¬ gI σ 8 i 1 = 3 ∧ gI σ 8 i 5 = 1) then 1 else 0)), σ) := by
  simp (disch := omega) only [e_Ord_canBeAmended_0, e_Ord_canBeAmended_1, e_Ord_canBeAmended_4, e_Ord_canBeAmended_5, e_Ord_canBeAmended_8, e_Ord_canBeAmended_9, e_Ord_canBeAmended_12, e_Ord_canBeAmended_15, e_Ord_canBeAmended_16, e_Ord_canBeAmended_19, e_Ord_canBeAmended_20, e_Ord_canBeAmended_23, e_Ord_canBeAmended_24, e_Ord_canBeAmended_27, e_Ord_canBeAmended_28, e_Ord_canBeAmended_31, e_Ord_canBeAmended_32, e_Ord_canBeAmended_35, e_Ord_canBeAmended_36, e_Ord_canBeAmended_39, e_Ord_canBeAmended_40, e_Ord_canBeAmended_43, e_Ord_canBeAmended_44]
  grind
theorem c_Ord_isAheadOf (i j p q : Int) (σ : aM) : ev 41 0 [aR 8 i, aR 8 j, aI p, aI q] [] σ = some (some (aI (if ahd σ i j p q then 1 else 0)), σ) := by
  simp (disch := omega) only [e_Ord_isAheadOf_0, e_Ord_isAheadOf_1, e_Ord_isAheadOf_2, e_Ord_isAheadOf_5, e_Ord_isAheadOf_6, e_Ord_isAheadOf_9, e_Ord_isAheadOf_12, e_Ord_isAheadOf_13, e_Ord_isAheadOf_14, e_Ord_isAheadOf_17, e_Ord_isAheadOf_18, e_Ord_isAheadOf_21, e_Ord_isAheadOf_22, e_Ord_isAheadOf_25, e_Ord_isAheadOf_26, e_Ord_isAheadOf_27, e_Ord_isAheadOf_30, e_Ord_isAheadOf_31, e_Ord_isAheadOf_34, e_Ord_isAheadOf_35, e_Ord_isAheadOf_36, e_Ord_isAheadOf_37, e_Ord_isAheadOf_40, e_Ord_isAheadOf_41, e_Ord_isAheadOf_44, e_Ord_isAheadOf_45, e_Ord_isAheadOf_48, e_Ord_isAheadOf_49, e_Ord_isAheadOf_50, e_Ord_isAheadOf_53, e_Ord_isAheadOf_54, e_Ord_isAheadOf_57, e_Ord_isAheadOf_58, e_Ord_isAheadOf_61, e_Ord_isAheadOf_62, e_Ord_isAheadOf_65, e_Ord_isAheadOf_66, e_Ord_isAheadOf_69, e_Ord_isAheadOf_70, e_Ord_isAheadOf_73, e_Ord_isAheadOf_74, e_Ord_isAheadOf_77, e_Ord_isAheadOf_78, e_Ord_isAheadOf_79, e_Ord_isAheadOf_80, e_Ord_isAheadOf_83, e_Ord_isAheadOf_84, e_Ord_isAheadOf_87, e_Ord_isAheadOf_90, e_Ord_isAheadOf_91, e_Ord_isAheadOf_94, e_Ord_isAheadOf_95]
  grind
def prB (σ : aM) (i b : Int) : Int := if ¬ gI σ 8 i 1 = 3 then gI σ 8 i 7 else if ¬ gI σ 8 i 5 = 1 ∨ b = 0 then 0 else if gI σ 8 i 3 = 0 then (if 1 ≤ b - gI σ 8 i 8 ∧ b - gI σ 8 i 8 < 1000 then b - gI σ 8 i 8 else 0) else (if 1 ≤ b + gI σ 8 i 8 ∧ b + gI σ 8 i 8 < 1000 then b + gI σ 8 i 8 else 0)
theorem c_Ord_priceBy (i b : Int) (σ : aM) (h : 0 ≤ b ∧ b ≤ 999) (hd : 0 ≤ gI σ 8 i 8 ∧ gI σ 8 i 8 ≤ 999) : ev 40 0 [aR 8 i, aI b, aU] [] σ = some (some (aI (prB σ i b)), σ) := by
  unfold prB
  simp (disch := omega) only [e_Ord_priceBy_0, e_Ord_priceBy_1, e_Ord_priceBy_4, e_Ord_priceBy_5, e_Ord_priceBy_8, e_Ord_priceBy_9, e_Ord_priceBy_12, e_Ord_priceBy_13, e_Ord_priceBy_14, e_Ord_priceBy_17, e_Ord_priceBy_18, e_Ord_priceBy_21, e_Ord_priceBy_22, e_Ord_priceBy_25, e_Ord_priceBy_26, e_Ord_priceBy_27, e_Ord_priceBy_28, e_Ord_priceBy_31, e_Ord_priceBy_34, e_Ord_priceBy_35, e_Ord_priceBy_36, e_Ord_priceBy_39, e_Ord_priceBy_40, e_Ord_priceBy_43, e_Ord_priceBy_44, e_Ord_priceBy_45, e_Ord_priceBy_48, e_Ord_priceBy_49, e_Ord_priceBy_50, e_Ord_priceBy_51, e_Ord_priceBy_54, e_Ord_priceBy_57, e_Ord_priceBy_58, e_Ord_priceBy_61, e_Ord_priceBy_62, c_Ub_isMeasure, evK_i, b01, wr_id]
  grind
def kGv (σ : aM) (i q : Int) : aM := if wr (gI σ 8 i 4 - q) = 0 then uI (uI (uI σ 8 i 4 (wr (gI σ 8 i 4 - q))) 8 i 6 (wr (gI σ 8 i 6 + q))) 8 i 5 2 else uI (uI σ 8 i 4 (wr (gI σ 8 i 4 - q))) 8 i 6 (wr (gI σ 8 i 6 + q))
theorem c_Ord_giveTraded (i q : Int) (σ : aM) : ev 42 0 [aR 8 i, aI q] [] σ = some (none, kGv σ i q) := by
  unfold kGv
  simp (disch := omega) only [e_Ord_giveTraded_0, e_Ord_giveTraded_1, e_Ord_giveTraded_2, e_Ord_giveTraded_5, e_Ord_giveTraded_6, e_Ord_giveTraded_7, e_Ord_giveTraded_10, e_Ord_giveTraded_11, e_Ord_giveTraded_12, e_Ord_giveTraded_15, e_Ord_giveTraded_16, e_Ord_giveTraded_17, e_Ord_giveTraded_20, e_Ord_giveTraded_21, e_Ord_giveTraded_24, e_Ord_giveTraded_27, e_Ord_giveTraded_28, e_Ord_giveTraded_29, e_Ord_giveTraded_32, gI_self, gI_nt, gI_nj, gL_uI, gR_uI, gI_uL, gR_uL, gI_uR, gL_uR]
  grind
def kLs (σ : aM) (i q : Int) : aM := uI (uI σ 8 i 4 q) 8 i 9 (if q < gI σ 8 i 9 then q else gI σ 8 i 9)
theorem c_Ord_lessenTo (i q : Int) (σ : aM) : ev 43 0 [aR 8 i, aI q] [] σ = some (none, kLs σ i q) := by
  unfold kLs
  simp (disch := omega) only [e_Ord_lessenTo_0, e_Ord_lessenTo_1, e_Ord_lessenTo_2, e_Ord_lessenTo_5, e_Ord_lessenTo_6, e_Ord_lessenTo_7, e_Ord_lessenTo_10, e_Ord_lessenTo_11, e_Ord_lessenTo_14, e_Ord_lessenTo_17, e_Ord_lessenTo_20, gI_self, gI_nt, gI_nj, gL_uI, gR_uI, gI_uL, gR_uL, gI_uR, gL_uR]
def kSh (σ : aM) (i : Int) : aM := if gI σ 8 i 1 = 2 then uI σ 8 i 9 (if gI σ 8 i 4 < gI σ 8 i 8 then gI σ 8 i 4 else gI σ 8 i 8) else σ
theorem c_Ord_showAnew (i : Int) (σ : aM) : ev 44 0 [aR 8 i] [] σ = some (none, kSh σ i) := by
  unfold kSh
  simp (disch := omega) only [e_Ord_showAnew_0, e_Ord_showAnew_1, e_Ord_showAnew_4, e_Ord_showAnew_5, e_Ord_showAnew_8, e_Ord_showAnew_9, e_Ord_showAnew_10, e_Ord_showAnew_13, e_Ord_showAnew_14, e_Ord_showAnew_17, e_Ord_showAnew_20, e_Ord_showAnew_23, gI_self, gI_nt, gI_nj, gL_uI, gR_uI, gI_uL, gR_uL, gI_uR, gL_uR]
  grind
def kBg (σ : aM) (i kd ow sd q p d : Int) : aM := uI (uI (uI (uI (uI (uI (uI (uI (uI (uI σ 8 i 1 kd) 8 i 2 ow) 8 i 3 sd) 8 i 4 q) 8 i 5 4) 8 i 6 0) 8 i 7 p) 8 i 8 d) 8 i 9 0) 8 i 10 0
theorem c_Ord_begin (i kd ow sd q p d : Int) (σ : aM) : ev 34 0 [aR 8 i, aI kd, aI ow, aI sd, aI q, aI p, aI d] [] σ = some (none, kBg σ i kd ow sd q p d) := by
  unfold kBg
  simp (disch := omega) only [e_Ord_begin_0, e_Ord_begin_1, e_Ord_begin_2, e_Ord_begin_5, e_Ord_begin_6, e_Ord_begin_7, e_Ord_begin_10, e_Ord_begin_11, e_Ord_begin_12, e_Ord_begin_15, e_Ord_begin_16, e_Ord_begin_18, e_Ord_begin_21, e_Ord_begin_22, e_Ord_begin_23, e_Ord_begin_26, e_Ord_begin_27, e_Ord_begin_28, e_Ord_begin_31, e_Ord_begin_32, e_Ord_begin_34, e_Ord_begin_37, e_Ord_begin_38, e_Ord_begin_40, e_Ord_begin_43, e_Ord_begin_44, e_Ord_begin_45, e_Ord_begin_48, e_Ord_begin_49, e_Ord_begin_50, e_Ord_begin_53, gI_self, gI_nt, gI_nj, gL_uI, gR_uI, gI_uL, gR_uL, gI_uR, gL_uR]
def kTo (σ : aM) (i j : Int) : aM := uI (uI (uI (uI (uI (uI (uI (uI (uI (uI σ 8 i 1 (gI σ 8 j 1)) 8 i 2 (gI σ 8 j 2)) 8 i 3 (gI σ 8 j 3)) 8 i 4 (gI σ 8 j 4)) 8 i 5 (gI σ 8 j 5)) 8 i 6 (gI σ 8 j 6)) 8 i 7 (gI σ 8 j 7)) 8 i 8 (gI σ 8 j 8)) 8 i 9 (gI σ 8 j 9)) 8 i 10 (gI σ 8 j 10)
theorem c_Ord_takeOver (i j : Int) (σ : aM) : ev 35 0 [aR 8 i, aR 8 j] [] σ = some (none, kTo σ i j) := by
  unfold kTo
  simp (disch := omega) only [e_Ord_takeOver_0, e_Ord_takeOver_1, e_Ord_takeOver_2, e_Ord_takeOver_5, e_Ord_takeOver_8, e_Ord_takeOver_9, e_Ord_takeOver_10, e_Ord_takeOver_13, e_Ord_takeOver_16, e_Ord_takeOver_17, e_Ord_takeOver_18, e_Ord_takeOver_21, e_Ord_takeOver_24, e_Ord_takeOver_25, e_Ord_takeOver_26, e_Ord_takeOver_29, e_Ord_takeOver_32, e_Ord_takeOver_33, e_Ord_takeOver_34, e_Ord_takeOver_37, e_Ord_takeOver_40, e_Ord_takeOver_41, e_Ord_takeOver_42, e_Ord_takeOver_45, e_Ord_takeOver_48, e_Ord_takeOver_49, e_Ord_takeOver_50, e_Ord_takeOver_53, e_Ord_takeOver_56, e_Ord_takeOver_57, e_Ord_takeOver_58, e_Ord_takeOver_61, e_Ord_takeOver_64, e_Ord_takeOver_65, e_Ord_takeOver_66, e_Ord_takeOver_69, e_Ord_takeOver_72, e_Ord_takeOver_73, e_Ord_takeOver_74, e_Ord_takeOver_77, e_Ord_takeOver_80, gI_self, gI_nt, gI_nj, gL_uI, gR_uI, gI_uL, gR_uL, gI_uR, gL_uR]
/-! the log -/
theorem c_Lg_keeps (i k : Int) (σ : aM) : ev 74 0 [aR 9 i, aI k] [] σ = some (some (aI (if 0 ≤ k ∧ k < gI σ 9 i 3 ∧ k < 200 then 1 else 0)), σ) := by
  simp (disch := omega) only [e_Lg_keeps_0, e_Lg_keeps_1, e_Lg_keeps_4, e_Lg_keeps_5, e_Lg_keeps_6, e_Lg_keeps_9, e_Lg_keeps_12, e_Lg_keeps_13, e_Lg_keeps_16, e_Lg_keeps_19, e_Lg_keeps_20, e_Lg_keeps_23, e_Lg_keeps_24]
  grind
theorem c_Lg_tell (k w : Int) (σ : aM) : ev 75 0 [aR 9 0, aI k, aI w] [] σ = some (some (aI (if 0 ≤ k ∧ k < gI σ 9 0 3 ∧ k < 200 ∧ 0 ≤ w ∧ w < 4 then gI σ 10 0 (4 * k + w) else -1)), σ) := by
  by_cases h : 0 ≤ k ∧ k < gI σ 9 0 3 ∧ k < 200
  · by_cases hw : 0 ≤ w ∧ w < 4
    · have e : k * 4 + w = 4 * k + w := by omega
      simp (disch := omega) only [e_Lg_tell_0, e_Lg_tell_1, e_Lg_tell_2, e_Lg_tell_5, e_Lg_tell_8, e_Lg_tell_9, e_Lg_tell_12, e_Lg_tell_13, e_Lg_tell_14, e_Lg_tell_17, e_Lg_tell_18, e_Lg_tell_19, e_Lg_tell_20, e_Lg_tell_23, e_Lg_tell_24, e_Lg_tell_25, e_Lg_tell_26, e_Lg_tell_27, e_Lg_tell_28, e_Lg_tell_29, c_Lg_keeps, evK_i, h, hw, and_self, if_true, one_ne, if_false, wr_id, e, e_Lg_tell_14]
      grind
    · simp (disch := omega) only [e_Lg_tell_0, e_Lg_tell_1, e_Lg_tell_2, e_Lg_tell_5, e_Lg_tell_8, e_Lg_tell_9, e_Lg_tell_12, e_Lg_tell_13, e_Lg_tell_14, e_Lg_tell_17, e_Lg_tell_18, e_Lg_tell_19, e_Lg_tell_20, e_Lg_tell_23, e_Lg_tell_24, e_Lg_tell_25, e_Lg_tell_26, e_Lg_tell_27, e_Lg_tell_28, e_Lg_tell_29, c_Lg_keeps, evK_i, h, and_self, if_true, one_ne, if_false]
      grind
  · simp (disch := omega) only [e_Lg_tell_0, e_Lg_tell_1, e_Lg_tell_2, e_Lg_tell_5, e_Lg_tell_8, e_Lg_tell_9, e_Lg_tell_12, e_Lg_tell_13, e_Lg_tell_14, e_Lg_tell_17, e_Lg_tell_18, e_Lg_tell_19, e_Lg_tell_20, e_Lg_tell_23, e_Lg_tell_24, e_Lg_tell_25, e_Lg_tell_26, e_Lg_tell_27, e_Lg_tell_28, e_Lg_tell_29, c_Lg_keeps, evK_i, if_neg h, if_true]
    grind
