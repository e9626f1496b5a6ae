/-! the reference: its smallest methods -/
theorem c_Md_isOrder (σ : aM) (o : Int) (h : 0 ≤ gI σ 26 0 600 ∧ gI σ 26 0 600 ≤ 60) : ev 126 0 [aR 25 0, aI o] [] σ = some (some (aI (if 0 ≤ o ∧ o < gI σ 26 0 600 then 1 else 0)), σ) := by
  simp (disch := omega) only [e_Md_isOrder_0, e_Md_isOrder_1, e_Md_isOrder_2, e_Md_isOrder_3, e_Md_isOrder_6, e_Md_isOrder_9, e_Md_isOrder_10, e_Md_isOrder_11, e_Md_isOrder_12, e_Md_isOrder_15, c_Md_in, evK_i, wr_id]
  have e : (0 ≤ o ∧ o ≤ gI σ 26 0 600 - 1) = (0 ≤ o ∧ o < gI σ 26 0 600) := propext (by omega)
  simp only [e]
theorem c_Md_isOwner (w : Int) (σ : aM) : ev 128 0 [aI w] [] σ = some (some (aI (if 0 ≤ w ∧ w < 8 then 1 else 0)), σ) := by
  simp (disch := omega) only [e_Md_isOwner_0, e_Md_isOwner_1, e_Md_isOwner_2, e_Md_isOwner_4, e_Md_isOwner_7, c_Md_in, evK_i]
  have e : (0 ≤ w ∧ w ≤ 7) = (0 ≤ w ∧ w < 8) := propext (by omega)
  simp only [e]
theorem c_Md_isShelf (w : Int) (σ : aM) : ev 130 0 [aI w] [] σ = some (some (aI (if 0 ≤ w ∧ w < 8 then 1 else 0)), σ) := by
  simp (disch := omega) only [e_Md_isShelf_0, e_Md_isShelf_1, e_Md_isShelf_2, e_Md_isShelf_4, e_Md_isShelf_7, c_Md_in, evK_i]
  have e : (0 ≤ w ∧ w ≤ 7) = (0 ≤ w ∧ w < 8) := propext (by omega)
  simp only [e]
theorem c_Md_is999 (w : Int) (σ : aM) : ev 129 0 [aI w] [] σ = some (some (aI (if 1 ≤ w ∧ w < 1000 then 1 else 0)), σ) := by
  simp (disch := omega) only [e_Md_is999_0, e_Md_is999_1, e_Md_is999_2, e_Md_is999_5, e_Md_is999_8, c_Md_in, evK_i]
  have e : (1 ≤ w ∧ w ≤ 999) = (1 ≤ w ∧ w < 1000) := propext (by omega)
  simp only [e]
theorem c_Md_refused (r : Int) (σ : aM) (h : -7 ≤ r ∧ r < 0) : ev 124 0 [aR 25 0, aI r] [] σ = some (some (aI r), uI σ 28 0 (-r) (wr (gI σ 28 0 (-r) + 1))) := by
  simp (disch := omega) only [e_Md_refused_0, e_Md_refused_1, e_Md_refused_4, e_Md_refused_5, e_Md_refused_6, e_Md_refused_7, e_Md_refused_8, e_Md_refused_9, e_Md_refused_10, e_Md_refused_11, e_Md_refused_12, wr_id, show (0 : Int) - r = -r by omega]
theorem c_Md_refusedBelow (r : Int) (σ : aM) (h : -7 ≤ r ∧ r < 0) : ev 125 0 [aR 25 0, aI r] [] σ = some (some (aI (r - 10)), uI σ 28 0 (-r) (wr (gI σ 28 0 (-r) + 1))) := by
  simp (disch := omega) only [e_Md_refusedBelow_0, e_Md_refusedBelow_1, e_Md_refusedBelow_4, e_Md_refusedBelow_5, e_Md_refusedBelow_6, e_Md_refusedBelow_7, e_Md_refusedBelow_8, e_Md_refusedBelow_9, e_Md_refusedBelow_10, e_Md_refusedBelow_11, e_Md_refusedBelow_12, e_Md_refusedBelow_14, e_Md_refusedBelow_15, wr_id, show (0 : Int) - r = -r by omega]
theorem c_Md_isLimit (o : Int) (σ : aM) (h : 0 ≤ o ∧ o < 60) : ev 139 0 [aR 25 0, aI o] [] σ = some (some (aI (if gI σ 26 0 o = 1 ∨ gI σ 26 0 o = 2 then 1 else 0)), σ) := by
  simp (disch := omega) only [e_Md_isLimit_0, e_Md_isLimit_1, e_Md_isLimit_4, e_Md_isLimit_5, e_Md_isLimit_6, e_Md_isLimit_7, e_Md_isLimit_8, e_Md_isLimit_9, e_Md_isLimit_12, e_Md_isLimit_13, e_Md_isLimit_16, e_Md_isLimit_17, e_Md_isLimit_18, e_Md_isLimit_19, e_Md_isLimit_20, e_Md_isLimit_21, e_Md_isLimit_24, e_Md_isLimit_25, e_Md_isLimit_28, e_Md_isLimit_29, wr_id, Int.zero_add]
  grind
theorem c_Md_doesRest (o : Int) (σ : aM) (h : 0 ≤ o ∧ o < 60) : ev 140 0 [aR 25 0, aI o] [] σ = some (some (aI (if gI σ 26 0 (240 + o) = 1 then 1 else 0)), σ) := by
  simp (disch := omega) only [e_Md_doesRest_0, e_Md_doesRest_1, e_Md_doesRest_4, e_Md_doesRest_7, e_Md_doesRest_8, e_Md_doesRest_9, e_Md_doesRest_10, e_Md_doesRest_11, e_Md_doesRest_14, e_Md_doesRest_15, e_Md_doesRest_18, e_Md_doesRest_19, wr_id]
  grind
theorem c_Md_seenOf (o : Int) (σ : aM) (h : 0 ≤ o ∧ o < 60) : ev 143 0 [aR 25 0, aI o] [] σ = some (some (aI (if gI σ 26 0 (240 + o) = 1 then (if gI σ 26 0 o = 2 then gI σ 26 0 (420 + o) else gI σ 26 0 (180 + o)) else 0)), σ) := by
  simp (disch := omega) only [e_Md_seenOf_0, e_Md_seenOf_1, e_Md_seenOf_2, e_Md_seenOf_5, e_Md_seenOf_8, e_Md_seenOf_9, e_Md_seenOf_12, e_Md_seenOf_13, e_Md_seenOf_16, e_Md_seenOf_17, e_Md_seenOf_18, e_Md_seenOf_19, e_Md_seenOf_20, e_Md_seenOf_21, e_Md_seenOf_24, e_Md_seenOf_25, e_Md_seenOf_28, e_Md_seenOf_31, e_Md_seenOf_32, e_Md_seenOf_33, e_Md_seenOf_34, e_Md_seenOf_37, e_Md_seenOf_38, e_Md_seenOf_41, e_Md_seenOf_44, e_Md_seenOf_45, e_Md_seenOf_46, e_Md_seenOf_47, c_Md_doesRest, evK_i, wr_id, Int.zero_add]
  grind
theorem c_Md_isWithin (w p l : Int) (σ : aM) : ev 148 0 [aI w, aI p, aI l] [] σ = some (some (aI (if l = 0 ∨ (w = 0 ∧ p ≤ l) ∨ (¬ w = 0 ∧ l ≤ p) then 1 else 0)), σ) := by
  simp (disch := omega) only [e_Md_isWithin_0, e_Md_isWithin_1, e_Md_isWithin_4, e_Md_isWithin_5, e_Md_isWithin_8, e_Md_isWithin_9, e_Md_isWithin_10, e_Md_isWithin_13, e_Md_isWithin_16, e_Md_isWithin_17, e_Md_isWithin_18, e_Md_isWithin_21, e_Md_isWithin_22, e_Md_isWithin_25, e_Md_isWithin_26]
  grind
theorem c_Md_nextTime (σ : aM) : ev 152 0 [aR 25 0] [] σ = some (some (aI (wr (gI σ 26 0 605 + 1))), uI σ 26 0 605 (wr (gI σ 26 0 605 + 1))) := by
  simp (disch := omega) only [e_Md_nextTime_0, e_Md_nextTime_1, e_Md_nextTime_4, e_Md_nextTime_7, e_Md_nextTime_8, e_Md_nextTime_9, e_Md_nextTime_10, e_Md_nextTime_11, e_Md_nextTime_12, e_Md_nextTime_13, e_Md_nextTime_16, e_Md_nextTime_19, e_Md_nextTime_20, gI_self, gI_nt, gI_nj, gL_uI, gR_uI, gI_uL, gR_uL, gI_uR, gL_uR]
def mPy (σ : aM) (w q c : Int) : aM := uI (uI σ 26 0 (607 + w) (wr (gI σ 26 0 (607 + w) + q))) 26 0 (615 + w) (wr (gI σ 26 0 (615 + w) + c))
theorem c_Md_pays (w q c : Int) (σ : aM) (h : 0 ≤ w ∧ w < 8) : ev 149 0 [aR 25 0, aI w, aI q, aI c] [] σ = some (none, mPy σ w q c) := by
  unfold mPy
  simp (disch := omega) only [e_Md_pays_0, e_Md_pays_1, e_Md_pays_4, e_Md_pays_7, e_Md_pays_8, e_Md_pays_9, e_Md_pays_10, e_Md_pays_11, e_Md_pays_12, e_Md_pays_13, e_Md_pays_14, e_Md_pays_15, e_Md_pays_18, e_Md_pays_21, e_Md_pays_22, e_Md_pays_23, e_Md_pays_24, e_Md_pays_25, e_Md_pays_26, e_Md_pays_27, e_Md_pays_28, wr_id, gI_self, gI_nt, gI_nj, gL_uI, gR_uI, gI_uL, gR_uL, gI_uR, gL_uR]
def mNt (σ : aM) (x z p q : Int) : aM :=
  let σ1 := if gI σ 26 0 606 < 200 then uI (uI (uI (uI σ 26 0 (623 + 4 * gI σ 26 0 606) x) 26 0 (623 + 4 * gI σ 26 0 606 + 1) z) 26 0 (623 + 4 * gI σ 26 0 606 + 2) p) 26 0 (623 + 4 * gI σ 26 0 606 + 3) q else σ
  uI (uI σ1 26 0 606 (wr (gI σ 26 0 606 + 1))) 26 0 603 p
theorem c_Md_notes (x z p q : Int) (σ : aM) (h : 0 ≤ gI σ 26 0 606) : ev 150 0 [aR 25 0, aI x, aI z, aI p, aI q, aU] [] σ = some (none, mNt σ x z p q) := by
  unfold mNt
  by_cases c : gI σ 26 0 606 < 200
  · have c2 : ¬ 200 ≤ gI σ 26 0 606 := by omega
    simp (disch := omega) only [e_Md_notes_0, e_Md_notes_1, e_Md_notes_4, e_Md_notes_7, e_Md_notes_8, e_Md_notes_11, e_Md_notes_14, e_Md_notes_17, e_Md_notes_18, e_Md_notes_19, e_Md_notes_22, e_Md_notes_25, e_Md_notes_26, e_Md_notes_27, e_Md_notes_28, e_Md_notes_30, e_Md_notes_31, e_Md_notes_34, e_Md_notes_36, e_Md_notes_37, e_Md_notes_38, e_Md_notes_39, e_Md_notes_42, e_Md_notes_44, e_Md_notes_45, e_Md_notes_46, e_Md_notes_47, e_Md_notes_48, e_Md_notes_49, e_Md_notes_52, e_Md_notes_54, e_Md_notes_55, e_Md_notes_56, e_Md_notes_57, e_Md_notes_58, e_Md_notes_59, e_Md_notes_62, e_Md_notes_64, e_Md_notes_65, e_Md_notes_66, e_Md_notes_68, e_Md_notes_69, e_Md_notes_70, e_Md_notes_73, e_Md_notes_76, e_Md_notes_77, e_Md_notes_78, e_Md_notes_79, e_Md_notes_80, e_Md_notes_81, e_Md_notes_82, e_Md_notes_85, e_Md_notes_88, e_Md_notes_89, e_Md_notes_90, wr_id, gI_self, gI_nt, gI_nj, gL_uI, gR_uI, gI_uL, gR_uL, gI_uR, gL_uR, if_neg c2, if_pos c]
  · have c2 : 200 ≤ gI σ 26 0 606 := by omega
    simp (disch := omega) only [e_Md_notes_0, e_Md_notes_1, e_Md_notes_4, e_Md_notes_7, e_Md_notes_8, e_Md_notes_11, e_Md_notes_14, e_Md_notes_17, e_Md_notes_18, e_Md_notes_19, e_Md_notes_22, e_Md_notes_25, e_Md_notes_26, e_Md_notes_27, e_Md_notes_28, e_Md_notes_30, e_Md_notes_31, e_Md_notes_34, e_Md_notes_36, e_Md_notes_37, e_Md_notes_38, e_Md_notes_39, e_Md_notes_42, e_Md_notes_44, e_Md_notes_45, e_Md_notes_46, e_Md_notes_47, e_Md_notes_48, e_Md_notes_49, e_Md_notes_52, e_Md_notes_54, e_Md_notes_55, e_Md_notes_56, e_Md_notes_57, e_Md_notes_58, e_Md_notes_59, e_Md_notes_62, e_Md_notes_64, e_Md_notes_65, e_Md_notes_66, e_Md_notes_68, e_Md_notes_69, e_Md_notes_70, e_Md_notes_73, e_Md_notes_76, e_Md_notes_77, e_Md_notes_78, e_Md_notes_79, e_Md_notes_80, e_Md_notes_81, e_Md_notes_82, e_Md_notes_85, e_Md_notes_88, e_Md_notes_89, e_Md_notes_90, wr_id, gI_self, gI_nt, gI_nj, gL_uI, gR_uI, gI_uL, gR_uL, gI_uR, gL_uR, if_pos c2, if_neg c]
def mFs (σ : aM) (o : Int) : aM := uI σ 26 0 (420 + o) (if gI σ 26 0 (360 + o) < gI σ 26 0 (180 + o) then gI σ 26 0 (360 + o) else gI σ 26 0 (180 + o))
theorem c_Md_fresh (o : Int) (σ : aM) (h : 0 ≤ o ∧ o < 60) : ev 151 0 [aR 25 0, aI o] [] σ = some (none, mFs σ o) := by
  unfold mFs
  simp (disch := omega) only [e_Md_fresh_0, e_Md_fresh_1, e_Md_fresh_4, e_Md_fresh_7, e_Md_fresh_8, e_Md_fresh_9, e_Md_fresh_10, e_Md_fresh_13, e_Md_fresh_16, e_Md_fresh_17, e_Md_fresh_18, e_Md_fresh_19, e_Md_fresh_20, e_Md_fresh_23, e_Md_fresh_26, e_Md_fresh_27, e_Md_fresh_28, e_Md_fresh_29, e_Md_fresh_32, e_Md_fresh_33, e_Md_fresh_36, e_Md_fresh_39, e_Md_fresh_40, e_Md_fresh_41, e_Md_fresh_42, e_Md_fresh_45, e_Md_fresh_46, e_Md_fresh_49, e_Md_fresh_52, e_Md_fresh_53, e_Md_fresh_54, e_Md_fresh_55, e_Md_fresh_56, wr_id]
  grind
def mTm (σ : aM) (o : Int) : aM := uI (uI σ 26 0 605 (wr (gI σ 26 0 605 + 1))) 26 0 (480 + o) (wr (gI σ 26 0 605 + 1))
def mRs (σ : aM) (o : Int) : aM := if gI σ 26 0 o = 2 then mFs (mTm (uI σ 26 0 (240 + o) 1) o) o else mTm (uI σ 26 0 (240 + o) 1) o
theorem c_Md_rests (o : Int) (σ : aM) (h : 0 ≤ o ∧ o < 60) : ev 153 0 [aR 25 0, aI o] [] σ = some (none, mRs σ o) := by
  unfold mRs mTm
  simp (disch := omega) only [e_Md_rests_0, e_Md_rests_1, e_Md_rests_4, e_Md_rests_7, e_Md_rests_8, e_Md_rests_9, e_Md_rests_10, e_Md_rests_11, e_Md_rests_12, e_Md_rests_15, e_Md_rests_18, e_Md_rests_19, e_Md_rests_20, e_Md_rests_21, e_Md_rests_24, e_Md_rests_25, e_Md_rests_26, e_Md_rests_29, e_Md_rests_30, e_Md_rests_31, e_Md_rests_32, e_Md_rests_33, e_Md_rests_34, e_Md_rests_37, e_Md_rests_38, e_Md_rests_39, e_Md_rests_42, c_Md_nextTime, c_Md_fresh, evK_i, evK_v, wr_id, gI_self, gI_nt, gI_nj, gL_uI, gR_uI, gI_uL, gR_uL, gI_uR, gL_uR, Int.zero_add]
  grind
