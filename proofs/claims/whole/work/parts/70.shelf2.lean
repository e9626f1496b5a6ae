/-! set, element, show, holds, says -/
theorem PR_rfE {B r : Int} {μ : aM} {e f : aM → Option (Option AV × aM)} (hI : Inv μ B) (hr : -7 ≤ r ∧ r < 0) (h1 : e μ = ev 113 0 [aR 0 0, aI r] [] μ) (h2 : f (rf4 μ (-r)) = ev 124 0 [aR 25 0, aI r] [] (rf4 μ (-r))) : PR B μ e f := by
  refine PR_rf (a := r) (r := -r) hI ?_ ?_
  · rw [h1, c_Ub_refuse r μ hr]
    rfl
  · rw [h2, c_Md_refused r _ hr]
    rfl
theorem PR_rfA {B r : Int} {μ : aM} {e f : aM → Option (Option AV × aM)} (hI : Inv μ B) (hr : -7 ≤ r ∧ r < 0) (h1 : e μ = ev 114 0 [aR 0 0, aI r] [] μ) (h2 : f (rf4 μ (-r)) = ev 125 0 [aR 25 0, aI r] [] (rf4 μ (-r))) : PR B μ e f := by
  refine PR_rf (a := r - 10) (r := -r) hI ?_ ?_
  · rw [h1, c_Ub_refuseApart r μ hr]
    rfl
  · rw [h2, c_Md_refusedBelow r _ hr]
    rfl
theorem c_Ub_reasonR (s : Int) (σ : aM) : ev 115 0 [aR 0 0, aI s] [] σ = some (some (aI (rsn σ s)), σ) := by
  unfold rsn
  by_cases h : 0 ≤ s ∧ s < 8
  · simp (disch := omega) only [e_Ub_reasonAgainstRow_0, e_Ub_reasonAgainstRow_1, e_Ub_reasonAgainstRow_4, e_Ub_reasonAgainstRow_7, e_Ub_reasonAgainstRow_8, e_Ub_reasonAgainstRow_9, e_Ub_reasonAgainstRow_10, e_Ub_reasonAgainstRow_13, e_Ub_reasonAgainstRow_14, e_Ub_reasonAgainstRow_15, e_Ub_reasonAgainstRow_18, e_Ub_reasonAgainstRow_21, e_Ub_reasonAgainstRow_23, e_Ub_reasonAgainstRow_24, e_Ub_reasonAgainstRow_25, e_Ub_reasonAgainstRow_28, e_Ub_reasonAgainstRow_29, e_Ub_reasonAgainstRow_30, e_Ub_reasonAgainstRow_33, e_Ub_reasonAgainstRow_36, e_Ub_reasonAgainstRow_37, e_Ub_reasonAgainstRow_40, e_Ub_reasonAgainstRow_42, c_Ub_isShelf, c_Sh_holdsOrder, c_Sh_holdsRow, evK_i, b01, if_pos h, Int.zero_add, Int.mul_zero, not_true_eq_false, if_false, one_ne, not_false_eq_true, if_true]
    grind
  · simp (disch := omega) only [e_Ub_reasonAgainstRow_0, e_Ub_reasonAgainstRow_1, e_Ub_reasonAgainstRow_4, e_Ub_reasonAgainstRow_7, e_Ub_reasonAgainstRow_8, e_Ub_reasonAgainstRow_9, e_Ub_reasonAgainstRow_10, e_Ub_reasonAgainstRow_13, e_Ub_reasonAgainstRow_14, e_Ub_reasonAgainstRow_15, e_Ub_reasonAgainstRow_18, e_Ub_reasonAgainstRow_21, e_Ub_reasonAgainstRow_23, e_Ub_reasonAgainstRow_24, e_Ub_reasonAgainstRow_25, e_Ub_reasonAgainstRow_28, e_Ub_reasonAgainstRow_29, e_Ub_reasonAgainstRow_30, e_Ub_reasonAgainstRow_33, e_Ub_reasonAgainstRow_36, e_Ub_reasonAgainstRow_37, e_Ub_reasonAgainstRow_40, e_Ub_reasonAgainstRow_42, c_Ub_isShelf, evK_i, if_neg h, not_true_eq_false, not_false_eq_true, if_false, if_true]
    rw [if_pos h]
abbrev wnt (σ : aM) (s : Int) : Int := if ¬ (0 ≤ s ∧ s < 8) then -1 else if gI σ 29 0 s = 4 then -2 else if gI σ 29 0 s = -1 then -3 else 0
theorem c_Md_wanted (s : Int) (σ : aM) : ev 132 0 [aR 25 0, aI s] [] σ = some (some (aI (wnt σ s)), σ) := by
  unfold wnt
  by_cases h : 0 ≤ s ∧ s < 8
  · simp (disch := omega) only [e_Md_wanted_0, e_Md_wanted_1, e_Md_wanted_4, e_Md_wanted_7, e_Md_wanted_8, e_Md_wanted_11, e_Md_wanted_12, e_Md_wanted_15, e_Md_wanted_16, e_Md_wanted_17, e_Md_wanted_18, e_Md_wanted_21, e_Md_wanted_23, e_Md_wanted_26, e_Md_wanted_27, e_Md_wanted_30, e_Md_wanted_31, e_Md_wanted_32, e_Md_wanted_33, e_Md_wanted_36, e_Md_wanted_38, e_Md_wanted_41, e_Md_wanted_42, c_Md_isShelf, evK_i, if_pos h, not_true_eq_false, if_false, one_ne, not_false_eq_true, if_true]
    grind
  · simp (disch := omega) only [e_Md_wanted_0, e_Md_wanted_1, e_Md_wanted_4, e_Md_wanted_7, e_Md_wanted_8, e_Md_wanted_11, e_Md_wanted_12, e_Md_wanted_15, e_Md_wanted_16, e_Md_wanted_17, e_Md_wanted_18, e_Md_wanted_21, e_Md_wanted_23, e_Md_wanted_26, e_Md_wanted_27, e_Md_wanted_30, e_Md_wanted_31, e_Md_wanted_32, e_Md_wanted_33, e_Md_wanted_36, e_Md_wanted_38, e_Md_wanted_41, e_Md_wanted_42, c_Md_isShelf, evK_i, if_neg h, not_true_eq_false, not_false_eq_true, if_false, if_true]
    rw [if_pos h]
theorem wnt_rsn {μ σ : aM} {B s : Int} (hI : Inv μ B) (h29 : ∀ j, gI σ 29 0 j = gI μ 29 0 j) : wnt σ s = rsn μ s := by
  unfold wnt rsn
  rw [h29]
  by_cases h : 0 ≤ s ∧ s < 8
  · rw [if_neg (show ¬ ¬ (0 ≤ s ∧ s < 8) from fun z => z h), if_neg (show ¬ ¬ (0 ≤ s ∧ s < 8) from fun z => z h)]
    rcases hI.2.2.1 s h.1 h.2 with z | z | z
    · rw [if_neg (show ¬ gI μ 29 0 s = 4 by omega), if_pos (show gI μ 29 0 s = -1 by omega), if_neg (show ¬ ¬ gI μ 2 s 3 = -1 by omega), if_neg (show ¬ ¬ gI μ 2 s 2 = -1 by omega)]
    · rw [if_neg (show ¬ gI μ 29 0 s = 4 by omega), if_neg (show ¬ gI μ 29 0 s = -1 by omega), if_neg (show ¬ ¬ gI μ 2 s 3 = -1 by omega), if_pos (show ¬ gI μ 2 s 2 = -1 by omega)]
    · rw [if_pos (show gI μ 29 0 s = 4 by omega), if_pos (show ¬ gI μ 2 s 3 = -1 by omega)]
  · rw [if_pos h, if_pos h]
theorem rsn_rg (σ : aM) (s : Int) : rsn σ s = 0 ∨ (-7 ≤ rsn σ s ∧ rsn σ s < 0) := by
  unfold rsn
  repeat' split
  all_goals omega
/-- a row is there -/
theorem rsn_0 {μ : aM} {B s : Int} (hI : Inv μ B) (h : rsn μ s = 0) : (0 ≤ s ∧ s < 8) ∧ ((0 ≤ gI μ 2 s 2 ∧ gI μ 2 s 2 ≤ 3) ∧ gI μ 2 s 3 = -1 ∧ (0 ≤ gI μ 2 s 1 ∧ gI μ 2 s 1 ≤ 160) ∧ gI μ 29 0 s = gI μ 2 s 2 ∧ gI μ 30 0 s = gI μ 2 s 1 ∧ ∀ j, 0 ≤ j → j < gI μ 2 s 1 → gL μ 31 0 (160 * s + j) = gL μ 3 s j) := by
  unfold rsn at h
  by_cases hs : 0 ≤ s ∧ s < 8
  · rw [if_neg (show ¬ ¬ (0 ≤ s ∧ s < 8) from fun z => z hs)] at h
    rcases hI.2.2.1 s hs.1 hs.2 with z | z | z
    · rw [if_neg (show ¬ ¬ gI μ 2 s 3 = -1 by omega), if_neg (show ¬ ¬ gI μ 2 s 2 = -1 by omega)] at h; omega
    · exact ⟨hs, z⟩
    · rw [if_pos (show ¬ gI μ 2 s 3 = -1 by omega)] at h; omega
  · rw [if_pos hs] at h; omega
theorem PR_set {μ : aM} {B : Int} (hI : Inv μ B) (s i : Int) (v : Int64) : PR B μ (fun σ => ev 79 0 [aR 0 0, aI s, aI i, aJ v, aU, aU] [] σ) (fun σ => ev 133 0 [aR 25 0, aI s, aI i, aJ v, aU, aU] [] σ) := by
  have hu := c_Ub_reasonR s μ
  rcases rsn_rg μ s with hr | hr
  · obtain ⟨hs, z1, z2, z3, z4, z5, z6⟩ := rsn_0 hI hr
    rw [hr] at hu
    have hhe := c_Sh_hasElement s i μ
    by_cases h : 0 ≤ i ∧ i < gI μ 2 s 1
    · rw [if_pos h] at hhe
      have hput := c_Sh_put s i v μ z3 h
      refine ⟨1, uL μ 3 s i (keep (gI μ 2 s 2) v), uL (uL μ 3 s i (keep (gI μ 2 s 2) v)) 31 0 (160 * s + i) (keep (gI μ 2 s 2) v), ?_, ?_, Inv_mono (Inv_sh (s := s) hI (fun t i j z => rfl) (fun t i' j z => ?_) ?_) (by omega)⟩
      · show ev 79 0 [aR 0 0, aI s, aI i, aJ v, aU, aU] [] μ = _
        simp (disch := omega) only [e_Ub_set_0, e_Ub_set_1, e_Ub_set_2, e_Ub_set_5, e_Ub_set_7, e_Ub_set_9, e_Ub_set_12, e_Ub_set_13, e_Ub_set_15, e_Ub_set_18, e_Ub_set_19, e_Ub_set_20, e_Ub_set_23, e_Ub_set_24, e_Ub_set_25, e_Ub_set_26, e_Ub_set_29, e_Ub_set_32, e_Ub_set_33, e_Ub_set_35, e_Ub_set_38, e_Ub_set_39, e_Ub_set_40, e_Ub_set_43, e_Ub_set_44, e_Ub_set_45, e_Ub_set_46, e_Ub_set_47, e_Ub_set_50, e_Ub_set_51, hu, evK_i, evK_v, if_true, Int.zero_add, Int.mul_zero, hhe, one_ne, not_false_eq_true, hput]
      · have hw := c_Md_wanted s (uL μ 3 s i (keep (gI μ 2 s 2) v))
        rw [wnt_rsn (σ := uL μ 3 s i (keep (gI μ 2 s 2) v)) hI (fun j => rfl), hr] at hw
        have e29 : gI (uL μ 3 s i (keep (gI μ 2 s 2) v)) 29 0 s = gI μ 2 s 2 := z4
        have e30 : gI (uL μ 3 s i (keep (gI μ 2 s 2) v)) 30 0 s = gI μ 2 s 1 := z5
        have hin := c_Md_in i 0 (gI μ 2 s 1 - 1) (uL μ 3 s i (keep (gI μ 2 s 2) v))
        rw [if_pos (by omega)] at hin
        show ev 133 0 [aR 25 0, aI s, aI i, aJ v, aU, aU] [] (uL μ 3 s i (keep (gI μ 2 s 2) v)) = _
        have k0 : keep (gI μ 2 s 2) v = if gI μ 2 s 2 = 0 then toj (tob (toi v)) else if gI μ 2 s 2 = 1 then toj (tos (toi v)) else if gI μ 2 s 2 = 2 then toj (toi v) else v := rfl
        generalize keep (gI μ 2 s 2) v = kv at k0 hw e29 e30 hin ⊢
        by_cases q0 : gI μ 2 s 2 = 0
        · rw [if_pos q0] at k0
          simp (disch := omega) only [e_Md_set_0, e_Md_set_1, e_Md_set_2, e_Md_set_5, e_Md_set_7, e_Md_set_9, e_Md_set_12, e_Md_set_13, e_Md_set_15, e_Md_set_18, e_Md_set_19, e_Md_set_20, e_Md_set_21, e_Md_set_22, e_Md_set_25, e_Md_set_26, e_Md_set_27, e_Md_set_28, e_Md_set_29, e_Md_set_32, e_Md_set_35, e_Md_set_36, e_Md_set_38, e_Md_set_41, e_Md_set_42, e_Md_set_43, e_Md_set_46, e_Md_set_49, e_Md_set_50, e_Md_set_51, e_Md_set_52, e_Md_set_53, e_Md_set_54, e_Md_set_57, e_Md_set_58, e_Md_set_59, e_Md_set_62, e_Md_set_63, e_Md_set_64, e_Md_set_65, e_Md_set_66, e_Md_set_69, e_Md_set_70, e_Md_set_73, e_Md_set_74, e_Md_set_75, e_Md_set_76, e_Md_set_79, e_Md_set_80, e_Md_set_81, e_Md_set_82, e_Md_set_83, e_Md_set_86, e_Md_set_87, e_Md_set_90, e_Md_set_91, e_Md_set_92, e_Md_set_93, e_Md_set_96, e_Md_set_97, e_Md_set_98, e_Md_set_99, e_Md_set_102, e_Md_set_103, e_Md_set_104, e_Md_set_105, hw, evK_i, if_true, e29, e30, wr_id, hin, one_ne, not_false_eq_true, q0, not_true_eq_false, if_false, ← k0]
        · rw [if_neg q0] at k0
          by_cases q1 : gI μ 2 s 2 = 1
          · rw [if_pos q1] at k0
            simp (disch := omega) only [e_Md_set_0, e_Md_set_1, e_Md_set_2, e_Md_set_5, e_Md_set_7, e_Md_set_9, e_Md_set_12, e_Md_set_13, e_Md_set_15, e_Md_set_18, e_Md_set_19, e_Md_set_20, e_Md_set_21, e_Md_set_22, e_Md_set_25, e_Md_set_26, e_Md_set_27, e_Md_set_28, e_Md_set_29, e_Md_set_32, e_Md_set_35, e_Md_set_36, e_Md_set_38, e_Md_set_41, e_Md_set_42, e_Md_set_43, e_Md_set_46, e_Md_set_49, e_Md_set_50, e_Md_set_51, e_Md_set_52, e_Md_set_53, e_Md_set_54, e_Md_set_57, e_Md_set_58, e_Md_set_59, e_Md_set_62, e_Md_set_63, e_Md_set_64, e_Md_set_65, e_Md_set_66, e_Md_set_69, e_Md_set_70, e_Md_set_73, e_Md_set_74, e_Md_set_75, e_Md_set_76, e_Md_set_79, e_Md_set_80, e_Md_set_81, e_Md_set_82, e_Md_set_83, e_Md_set_86, e_Md_set_87, e_Md_set_90, e_Md_set_91, e_Md_set_92, e_Md_set_93, e_Md_set_96, e_Md_set_97, e_Md_set_98, e_Md_set_99, e_Md_set_102, e_Md_set_103, e_Md_set_104, e_Md_set_105, hw, evK_i, if_true, e29, e30, wr_id, hin, one_ne, not_false_eq_true, q1, not_true_eq_false, if_false, ← k0]
          · rw [if_neg q1] at k0
            by_cases q2 : gI μ 2 s 2 = 2
            · rw [if_pos q2] at k0
              simp (disch := omega) only [e_Md_set_0, e_Md_set_1, e_Md_set_2, e_Md_set_5, e_Md_set_7, e_Md_set_9, e_Md_set_12, e_Md_set_13, e_Md_set_15, e_Md_set_18, e_Md_set_19, e_Md_set_20, e_Md_set_21, e_Md_set_22, e_Md_set_25, e_Md_set_26, e_Md_set_27, e_Md_set_28, e_Md_set_29, e_Md_set_32, e_Md_set_35, e_Md_set_36, e_Md_set_38, e_Md_set_41, e_Md_set_42, e_Md_set_43, e_Md_set_46, e_Md_set_49, e_Md_set_50, e_Md_set_51, e_Md_set_52, e_Md_set_53, e_Md_set_54, e_Md_set_57, e_Md_set_58, e_Md_set_59, e_Md_set_62, e_Md_set_63, e_Md_set_64, e_Md_set_65, e_Md_set_66, e_Md_set_69, e_Md_set_70, e_Md_set_73, e_Md_set_74, e_Md_set_75, e_Md_set_76, e_Md_set_79, e_Md_set_80, e_Md_set_81, e_Md_set_82, e_Md_set_83, e_Md_set_86, e_Md_set_87, e_Md_set_90, e_Md_set_91, e_Md_set_92, e_Md_set_93, e_Md_set_96, e_Md_set_97, e_Md_set_98, e_Md_set_99, e_Md_set_102, e_Md_set_103, e_Md_set_104, e_Md_set_105, hw, evK_i, if_true, e29, e30, wr_id, hin, one_ne, not_false_eq_true, q2, not_true_eq_false, if_false, ← k0, show ¬ (2 : Int) = 0 by decide, show ¬ (2 : Int) = 1 by decide]
            · rw [if_neg q2] at k0
              simp (disch := omega) only [e_Md_set_0, e_Md_set_1, e_Md_set_2, e_Md_set_5, e_Md_set_7, e_Md_set_9, e_Md_set_12, e_Md_set_13, e_Md_set_15, e_Md_set_18, e_Md_set_19, e_Md_set_20, e_Md_set_21, e_Md_set_22, e_Md_set_25, e_Md_set_26, e_Md_set_27, e_Md_set_28, e_Md_set_29, e_Md_set_32, e_Md_set_35, e_Md_set_36, e_Md_set_38, e_Md_set_41, e_Md_set_42, e_Md_set_43, e_Md_set_46, e_Md_set_49, e_Md_set_50, e_Md_set_51, e_Md_set_52, e_Md_set_53, e_Md_set_54, e_Md_set_57, e_Md_set_58, e_Md_set_59, e_Md_set_62, e_Md_set_63, e_Md_set_64, e_Md_set_65, e_Md_set_66, e_Md_set_69, e_Md_set_70, e_Md_set_73, e_Md_set_74, e_Md_set_75, e_Md_set_76, e_Md_set_79, e_Md_set_80, e_Md_set_81, e_Md_set_82, e_Md_set_83, e_Md_set_86, e_Md_set_87, e_Md_set_90, e_Md_set_91, e_Md_set_92, e_Md_set_93, e_Md_set_96, e_Md_set_97, e_Md_set_98, e_Md_set_99, e_Md_set_102, e_Md_set_103, e_Md_set_104, e_Md_set_105, hw, evK_i, if_true, e29, e30, wr_id, hin, one_ne, not_false_eq_true, if_pos q0, if_pos q1, if_pos q2, ← k0]
      · rw [gL_uL, if_neg (by omega), gL_uL, if_neg (by omega)]
      · refine Or.inr (Or.inl ⟨z1, z2, z3, z4, z5, fun j j0 j1 => ?_⟩)
        have j1 : j < gI μ 2 s 1 := j1
        rw [gL_uL, gL_uL, gL_uL, gL_uL]
        by_cases q : j = i
        · rw [if_pos ⟨rfl, rfl, by omega⟩, if_neg (by omega), if_pos ⟨rfl, rfl, q⟩]
        · rw [if_neg (by omega), if_neg (by omega), if_neg (by omega), if_neg (by omega)]
          exact z6 j j0 j1
    · rw [if_neg h] at hhe
      refine PR_rfE (r := -5) hI (by omega) ?_ ?_
      · rw [c_Ub_refuse _ _ (by omega)]
        show ev 79 0 [aR 0 0, aI s, aI i, aJ v, aU, aU] [] μ = _
        simp (disch := omega) only [e_Ub_set_0, e_Ub_set_1, e_Ub_set_2, e_Ub_set_5, e_Ub_set_7, e_Ub_set_9, e_Ub_set_12, e_Ub_set_13, e_Ub_set_15, e_Ub_set_18, e_Ub_set_19, e_Ub_set_20, e_Ub_set_23, e_Ub_set_24, e_Ub_set_25, e_Ub_set_26, e_Ub_set_29, e_Ub_set_32, e_Ub_set_33, e_Ub_set_35, e_Ub_set_38, e_Ub_set_39, e_Ub_set_40, e_Ub_set_43, e_Ub_set_44, e_Ub_set_45, e_Ub_set_46, e_Ub_set_47, e_Ub_set_50, e_Ub_set_51, hu, evK_i, evK_v, if_true, Int.zero_add, Int.mul_zero, hhe, not_true_eq_false, if_false, c_Ub_refuse]
      · rw [c_Md_refused _ _ (by omega)]
        have hw := c_Md_wanted s (rf4 μ (- -5))
        rw [wnt_rsn hI (fun j => g_rf4 _ _ _ _ _ (by decide)), hr] at hw
        have e30 : gI (rf4 μ (- -5)) 30 0 s = gI μ 2 s 1 := by rw [g_rf4 _ _ _ _ _ (by decide)]; exact z5
        have hin := c_Md_in i 0 (gI μ 2 s 1 - 1) (rf4 μ (- -5))
        rw [if_neg (by omega)] at hin
        show ev 133 0 [aR 25 0, aI s, aI i, aJ v, aU, aU] [] (rf4 μ (- -5)) = _
        simp (disch := omega) only [e_Md_set_0, e_Md_set_1, e_Md_set_2, e_Md_set_5, e_Md_set_7, e_Md_set_9, e_Md_set_12, e_Md_set_13, e_Md_set_15, e_Md_set_18, e_Md_set_19, e_Md_set_20, e_Md_set_21, e_Md_set_22, e_Md_set_25, e_Md_set_26, e_Md_set_27, e_Md_set_28, e_Md_set_29, e_Md_set_32, e_Md_set_35, e_Md_set_36, e_Md_set_38, e_Md_set_41, hw, evK_i, if_true, e30, wr_id, hin, not_true_eq_false, if_false, c_Md_refused]
  · refine PR_rfE (r := rsn μ s) hI hr ?_ ?_
    · rw [c_Ub_refuse _ _ hr]
      show ev 79 0 [aR 0 0, aI s, aI i, aJ v, aU, aU] [] μ = _
      simp (disch := omega) only [e_Ub_set_0, e_Ub_set_1, e_Ub_set_2, e_Ub_set_5, e_Ub_set_7, e_Ub_set_9, e_Ub_set_12, e_Ub_set_13, e_Ub_set_15, e_Ub_set_18, e_Ub_set_19, e_Ub_set_20, e_Ub_set_23, e_Ub_set_24, e_Ub_set_25, e_Ub_set_26, e_Ub_set_29, e_Ub_set_32, e_Ub_set_33, e_Ub_set_35, e_Ub_set_38, e_Ub_set_39, e_Ub_set_40, e_Ub_set_43, e_Ub_set_44, e_Ub_set_45, e_Ub_set_46, e_Ub_set_47, e_Ub_set_50, e_Ub_set_51, hu, evK_i, if_neg (show ¬ rsn μ s = 0 by omega), c_Ub_refuse]
    · rw [c_Md_refused _ _ hr]
      have hw := c_Md_wanted s (rf4 μ (-(rsn μ s)))
      rw [wnt_rsn hI (fun j => g_rf4 _ _ _ _ _ (by decide))] at hw
      show ev 133 0 [aR 25 0, aI s, aI i, aJ v, aU, aU] [] (rf4 μ (-(rsn μ s))) = _
      simp (disch := omega) only [e_Md_set_0, e_Md_set_1, e_Md_set_2, e_Md_set_5, e_Md_set_7, e_Md_set_9, e_Md_set_12, e_Md_set_13, e_Md_set_15, e_Md_set_18, e_Md_set_19, e_Md_set_20, e_Md_set_21, e_Md_set_22, e_Md_set_25, e_Md_set_26, e_Md_set_27, e_Md_set_28, e_Md_set_29, e_Md_set_32, e_Md_set_35, e_Md_set_36, e_Md_set_38, e_Md_set_41, hw, evK_i, if_neg (show ¬ rsn μ s = 0 by omega), c_Md_refused]
theorem c_Md_isRow (s : Int) (σ : aM) : ev 135 0 [aR 25 0, aI s] [] σ = some (some (aI (if (0 ≤ s ∧ s < 8) ∧ (0 ≤ gI σ 29 0 s ∧ gI σ 29 0 s ≤ 3) then 1 else 0)), σ) := by
  by_cases h : 0 ≤ s ∧ s < 8
  · simp (disch := omega) only [e_Md_isRow_0, e_Md_isRow_1, e_Md_isRow_4, e_Md_isRow_7, e_Md_isRow_8, e_Md_isRow_11, e_Md_isRow_12, e_Md_isRow_13, e_Md_isRow_14, e_Md_isRow_15, e_Md_isRow_18, e_Md_isRow_21, e_Md_isRow_22, e_Md_isRow_25, e_Md_isRow_26, c_Md_isShelf, c_Md_in, evK_i, b01, if_pos h, one_ne, if_false]
    grind
  · rw [if_neg (fun z => h z.1)]
    simp (disch := omega) only [e_Md_isRow_0, e_Md_isRow_1, e_Md_isRow_4, e_Md_isRow_7, e_Md_isRow_8, e_Md_isRow_11, e_Md_isRow_12, e_Md_isRow_13, e_Md_isRow_14, e_Md_isRow_15, e_Md_isRow_18, e_Md_isRow_21, e_Md_isRow_22, e_Md_isRow_25, e_Md_isRow_26, c_Md_isShelf, evK_i, if_neg h, if_true]
/-- the pair of element: longs -/
theorem PR_element {μ : aM} {B : Int} (hI : Inv μ B) (s i : Int) : ∃ a, ev 81 0 [aR 0 0, aI s, aI i] [] μ = some (some (aJ a), μ) ∧ ev 136 0 [aR 25 0, aI s, aI i] [] μ = some (some (aJ a), μ) := by
  have hir := c_Md_isRow s μ
  by_cases h : 0 ≤ s ∧ s < 8
  · have hhe := c_Sh_hasElement s i μ
    by_cases h2 : 0 ≤ i ∧ i < gI μ 2 s 1
    · rw [if_pos h2] at hhe
      rcases hI.2.2.1 s h.1 h.2 with z | z | z
      · omega
      · refine ⟨gL μ 3 s i, ?_, ?_⟩
        · simp (disch := omega) only [e_Ub_element_0, e_Ub_element_1, e_Ub_element_4, e_Ub_element_7, e_Ub_element_8, e_Ub_element_11, e_Ub_element_12, e_Ub_element_13, e_Ub_element_14, e_Ub_element_17, e_Ub_element_20, e_Ub_element_21, e_Ub_element_22, e_Ub_element_23, e_Ub_element_26, e_Ub_element_27, e_Ub_element_28, e_Ub_element_31, e_Ub_element_32, e_Ub_element_33, c_Ub_isShelf, evK_i, if_pos h, one_ne, if_false, Int.zero_add, Int.mul_zero, hhe, not_false_eq_true, if_true]
        · have e29 := z.2.2.2.1
          have e30 := z.2.2.2.2.1
          have eL := z.2.2.2.2.2 i h2.1 h2.2
          have zz := z.2.2.1
          rw [if_pos ⟨h, by omega⟩] at hir
          have hin := c_Md_in i 0 (gI μ 2 s 1 - 1) μ
          rw [if_pos (by omega)] at hin
          simp (disch := omega) only [e_Md_element_0, e_Md_element_1, e_Md_element_2, e_Md_element_5, e_Md_element_8, e_Md_element_9, e_Md_element_10, e_Md_element_11, e_Md_element_14, e_Md_element_15, e_Md_element_16, e_Md_element_17, e_Md_element_18, e_Md_element_21, e_Md_element_24, e_Md_element_25, e_Md_element_28, e_Md_element_31, e_Md_element_32, e_Md_element_33, e_Md_element_34, e_Md_element_35, e_Md_element_36, e_Md_element_39, e_Md_element_40, hir, evK_i, one_ne, if_false, e30, wr_id, hin, eL]
      · omega
    · rw [if_neg h2] at hhe
      refine ⟨0, ?_, ?_⟩
      · simp (disch := omega) only [e_Ub_element_0, e_Ub_element_1, e_Ub_element_4, e_Ub_element_7, e_Ub_element_8, e_Ub_element_11, e_Ub_element_12, e_Ub_element_13, e_Ub_element_14, e_Ub_element_17, e_Ub_element_20, e_Ub_element_21, e_Ub_element_22, e_Ub_element_23, e_Ub_element_26, e_Ub_element_27, e_Ub_element_28, e_Ub_element_31, e_Ub_element_32, e_Ub_element_33, c_Ub_isShelf, evK_i, if_pos h, one_ne, if_false, Int.zero_add, Int.mul_zero, hhe, not_true_eq_false]
      · rcases hI.2.2.1 s h.1 h.2 with z | z | z
        · rw [if_neg (by omega)] at hir
          simp (disch := omega) only [e_Md_element_0, e_Md_element_1, e_Md_element_2, e_Md_element_5, e_Md_element_8, e_Md_element_9, e_Md_element_10, e_Md_element_11, e_Md_element_14, e_Md_element_15, e_Md_element_16, e_Md_element_17, e_Md_element_18, e_Md_element_21, e_Md_element_24, e_Md_element_25, e_Md_element_28, e_Md_element_31, e_Md_element_32, e_Md_element_33, e_Md_element_34, e_Md_element_35, e_Md_element_36, e_Md_element_39, e_Md_element_40, hir, evK_i, if_true]
        · have e29 := z.2.2.2.1
          have e30 := z.2.2.2.2.1
          have zz := z.2.2.1
          rw [if_pos ⟨h, by omega⟩] at hir
          have hin := c_Md_in i 0 (gI μ 2 s 1 - 1) μ
          rw [if_neg (by omega)] at hin
          simp (disch := omega) only [e_Md_element_0, e_Md_element_1, e_Md_element_2, e_Md_element_5, e_Md_element_8, e_Md_element_9, e_Md_element_10, e_Md_element_11, e_Md_element_14, e_Md_element_15, e_Md_element_16, e_Md_element_17, e_Md_element_18, e_Md_element_21, e_Md_element_24, e_Md_element_25, e_Md_element_28, e_Md_element_31, e_Md_element_32, e_Md_element_33, e_Md_element_34, e_Md_element_35, e_Md_element_36, e_Md_element_39, e_Md_element_40, hir, evK_i, one_ne, if_false, e30, wr_id, hin, if_true]
        · rw [if_neg (by omega)] at hir
          simp (disch := omega) only [e_Md_element_0, e_Md_element_1, e_Md_element_2, e_Md_element_5, e_Md_element_8, e_Md_element_9, e_Md_element_10, e_Md_element_11, e_Md_element_14, e_Md_element_15, e_Md_element_16, e_Md_element_17, e_Md_element_18, e_Md_element_21, e_Md_element_24, e_Md_element_25, e_Md_element_28, e_Md_element_31, e_Md_element_32, e_Md_element_33, e_Md_element_34, e_Md_element_35, e_Md_element_36, e_Md_element_39, e_Md_element_40, hir, evK_i, if_true]
  · refine ⟨0, ?_, ?_⟩
    · simp (disch := omega) only [e_Ub_element_0, e_Ub_element_1, e_Ub_element_4, e_Ub_element_7, e_Ub_element_8, e_Ub_element_11, e_Ub_element_12, e_Ub_element_13, e_Ub_element_14, e_Ub_element_17, e_Ub_element_20, e_Ub_element_21, e_Ub_element_22, e_Ub_element_23, e_Ub_element_26, e_Ub_element_27, e_Ub_element_28, e_Ub_element_31, e_Ub_element_32, e_Ub_element_33, c_Ub_isShelf, evK_i, if_neg h, if_true]
    · rw [if_neg (fun z => h z.1)] at hir
      simp (disch := omega) only [e_Md_element_0, e_Md_element_1, e_Md_element_2, e_Md_element_5, e_Md_element_8, e_Md_element_9, e_Md_element_10, e_Md_element_11, e_Md_element_14, e_Md_element_15, e_Md_element_16, e_Md_element_17, e_Md_element_18, e_Md_element_21, e_Md_element_24, e_Md_element_25, e_Md_element_28, e_Md_element_31, e_Md_element_32, e_Md_element_33, e_Md_element_34, e_Md_element_35, e_Md_element_36, e_Md_element_39, e_Md_element_40, hir, evK_i, if_true]
theorem PR_holds {μ : aM} {B : Int} (hI : Inv μ B) (s : Int) : PR B μ (fun σ => ev 83 0 [aR 0 0, aI s, aU] [] σ) (fun σ => ev 138 0 [aR 25 0, aI s] [] σ) := by
  by_cases h : 0 ≤ s ∧ s < 8
  · have hhr := c_Sh_holdsRow s μ
    rcases hI.2.2.1 s h.1 h.2 with z | z | z
    · obtain ⟨z1, z2, z3, z4⟩ := z
      rw [if_neg (by omega)] at hhr
      refine PR_id (a := -1) hI ?_ ?_
      · show ev 83 0 [aR 0 0, aI s, aU] [] μ = _
        simp (disch := omega) only [e_Ub_holds_0, e_Ub_holds_1, e_Ub_holds_4, e_Ub_holds_7, e_Ub_holds_8, e_Ub_holds_9, e_Ub_holds_10, e_Ub_holds_13, e_Ub_holds_14, e_Ub_holds_15, e_Ub_holds_16, e_Ub_holds_17, e_Ub_holds_20, e_Ub_holds_23, e_Ub_holds_25, e_Ub_holds_26, e_Ub_holds_29, e_Ub_holds_30, e_Ub_holds_33, e_Ub_holds_34, e_Ub_holds_37, c_Ub_isShelf, evK_i, if_pos h, one_ne, not_false_eq_true, if_true, Int.zero_add, Int.mul_zero, hhr, z2]
      · show ev 138 0 [aR 25 0, aI s] [] μ = _
        simp (disch := omega) only [e_Md_holds_0, e_Md_holds_1, e_Md_holds_4, e_Md_holds_7, e_Md_holds_8, e_Md_holds_11, e_Md_holds_12, e_Md_holds_13, e_Md_holds_14, e_Md_holds_17, e_Md_holds_18, e_Md_holds_21, e_Md_holds_22, e_Md_holds_25, e_Md_holds_26, e_Md_holds_27, e_Md_holds_28, e_Md_holds_31, e_Md_holds_32, e_Md_holds_35, e_Md_holds_36, e_Md_holds_37, e_Md_holds_40, e_Md_holds_42, e_Md_holds_43, e_Md_holds_46, e_Md_holds_47, e_Md_holds_48, e_Md_holds_49, c_Md_isShelf, evK_i, if_pos h, one_ne, if_false, z4, not_true_eq_false]
    · obtain ⟨z1, z2, z3, z4, z5, z6⟩ := z
      rw [if_pos (by omega)] at hhr
      refine PR_id (a := 100 + gI μ 2 s 2) hI ?_ ?_
      · show ev 83 0 [aR 0 0, aI s, aU] [] μ = _
        simp (disch := omega) only [e_Ub_holds_0, e_Ub_holds_1, e_Ub_holds_4, e_Ub_holds_7, e_Ub_holds_8, e_Ub_holds_9, e_Ub_holds_10, e_Ub_holds_13, e_Ub_holds_14, e_Ub_holds_15, e_Ub_holds_16, e_Ub_holds_17, e_Ub_holds_20, e_Ub_holds_23, e_Ub_holds_25, e_Ub_holds_26, e_Ub_holds_29, e_Ub_holds_30, e_Ub_holds_33, e_Ub_holds_34, e_Ub_holds_37, c_Ub_isShelf, evK_i, if_pos h, one_ne, not_false_eq_true, if_true, if_false, Int.zero_add, Int.mul_zero, hhr, wr_id]
      · show ev 138 0 [aR 25 0, aI s] [] μ = _
        simp (disch := omega) only [e_Md_holds_0, e_Md_holds_1, e_Md_holds_4, e_Md_holds_7, e_Md_holds_8, e_Md_holds_11, e_Md_holds_12, e_Md_holds_13, e_Md_holds_14, e_Md_holds_17, e_Md_holds_18, e_Md_holds_21, e_Md_holds_22, e_Md_holds_25, e_Md_holds_26, e_Md_holds_27, e_Md_holds_28, e_Md_holds_31, e_Md_holds_32, e_Md_holds_35, e_Md_holds_36, e_Md_holds_37, e_Md_holds_40, e_Md_holds_42, e_Md_holds_43, e_Md_holds_46, e_Md_holds_47, e_Md_holds_48, e_Md_holds_49, c_Md_isShelf, evK_i, if_pos h, one_ne, if_false, z4, if_pos (show ¬ gI μ 2 s 2 = -1 by omega), if_pos (show ¬ gI μ 2 s 2 = 4 by omega), wr_id]
    · obtain ⟨z1, z2, z3, z4, z5⟩ := z
      rw [if_neg (by omega)] at hhr
      refine PR_id (a := gI μ 2 s 3) hI ?_ ?_
      · show ev 83 0 [aR 0 0, aI s, aU] [] μ = _
        simp (disch := omega) only [e_Ub_holds_0, e_Ub_holds_1, e_Ub_holds_4, e_Ub_holds_7, e_Ub_holds_8, e_Ub_holds_9, e_Ub_holds_10, e_Ub_holds_13, e_Ub_holds_14, e_Ub_holds_15, e_Ub_holds_16, e_Ub_holds_17, e_Ub_holds_20, e_Ub_holds_23, e_Ub_holds_25, e_Ub_holds_26, e_Ub_holds_29, e_Ub_holds_30, e_Ub_holds_33, e_Ub_holds_34, e_Ub_holds_37, c_Ub_isShelf, evK_i, if_pos h, one_ne, not_false_eq_true, if_true, Int.zero_add, Int.mul_zero, hhr]
      · show ev 138 0 [aR 25 0, aI s] [] μ = _
        simp (disch := omega) only [e_Md_holds_0, e_Md_holds_1, e_Md_holds_4, e_Md_holds_7, e_Md_holds_8, e_Md_holds_11, e_Md_holds_12, e_Md_holds_13, e_Md_holds_14, e_Md_holds_17, e_Md_holds_18, e_Md_holds_21, e_Md_holds_22, e_Md_holds_25, e_Md_holds_26, e_Md_holds_27, e_Md_holds_28, e_Md_holds_31, e_Md_holds_32, e_Md_holds_35, e_Md_holds_36, e_Md_holds_37, e_Md_holds_40, e_Md_holds_42, e_Md_holds_43, e_Md_holds_46, e_Md_holds_47, e_Md_holds_48, e_Md_holds_49, c_Md_isShelf, evK_i, if_pos h, one_ne, if_false, z4, z5, not_true_eq_false, show ¬ (4 : Int) = -1 by decide, not_false_eq_true, if_true]
  · refine PR_id (a := -1) hI ?_ ?_
    · show ev 83 0 [aR 0 0, aI s, aU] [] μ = _
      simp (disch := omega) only [e_Ub_holds_0, e_Ub_holds_1, e_Ub_holds_4, e_Ub_holds_7, e_Ub_holds_8, e_Ub_holds_9, e_Ub_holds_10, e_Ub_holds_13, e_Ub_holds_14, e_Ub_holds_15, e_Ub_holds_16, e_Ub_holds_17, e_Ub_holds_20, e_Ub_holds_23, e_Ub_holds_25, e_Ub_holds_26, e_Ub_holds_29, e_Ub_holds_30, e_Ub_holds_33, e_Ub_holds_34, e_Ub_holds_37, c_Ub_isShelf, evK_i, if_neg h, not_true_eq_false, if_false]
    · show ev 138 0 [aR 25 0, aI s] [] μ = _
      simp (disch := omega) only [e_Md_holds_0, e_Md_holds_1, e_Md_holds_4, e_Md_holds_7, e_Md_holds_8, e_Md_holds_11, e_Md_holds_12, e_Md_holds_13, e_Md_holds_14, e_Md_holds_17, e_Md_holds_18, e_Md_holds_21, e_Md_holds_22, e_Md_holds_25, e_Md_holds_26, e_Md_holds_27, e_Md_holds_28, e_Md_holds_31, e_Md_holds_32, e_Md_holds_35, e_Md_holds_36, e_Md_holds_37, e_Md_holds_40, e_Md_holds_42, e_Md_holds_43, e_Md_holds_46, e_Md_holds_47, e_Md_holds_48, e_Md_holds_49, c_Md_isShelf, evK_i, if_neg h, if_true]
