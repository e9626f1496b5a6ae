/-! show, says, copy -/
theorem PR_show {μ : aM} {B : Int} (hI : Inv μ B) (s o : Int) : PR B μ (fun σ => ev 82 0 [aR 0 0, aI s, aI o] [] σ) (fun σ => ev 137 0 [aR 25 0, aI s, aI o] [] σ) := by
  obtain ⟨hc, h600, hR, hnum, h601, hph⟩ := Inv_f hI
  by_cases h : 0 ≤ s ∧ s < 8
  · by_cases h1 : o = -1
    · have g1 : ∀ t i j, ¬ (t = 2 ∧ i = s) → gI (uI (uI (uI μ 2 s 1 0) 2 s 2 (-1)) 2 s 3 (-1)) t i j = gI μ t i j := fun t i j z => by
        have z' : ∀ k : Int, ¬ (t = 2 ∧ i = s ∧ j = k) := fun k y => z ⟨y.1, y.2.1⟩
        rw [gI_uI, if_neg (z' _), gI_uI, if_neg (z' _), gI_uI, if_neg (z' _)]
      have g2 : gI (uI (uI (uI μ 2 s 1 0) 2 s 2 (-1)) 2 s 3 (-1)) 2 s 1 = 0 ∧ gI (uI (uI (uI μ 2 s 1 0) 2 s 2 (-1)) 2 s 3 (-1)) 2 s 2 = -1 ∧ gI (uI (uI (uI μ 2 s 1 0) 2 s 2 (-1)) 2 s 3 (-1)) 2 s 3 = -1 := by
        simp (disch := omega) only [gI_self, gI_nt, gI_nj, gL_uI, gR_uI, gI_uL, gR_uL, gI_uR, gL_uR, and_self]
      obtain ⟨μ1, hμ1⟩ : ∃ m, m = uI (uI (uI μ 2 s 1 0) 2 s 2 (-1)) 2 s 3 (-1) := ⟨_, rfl⟩
      have g3 : μ1.2 = μ.2 := by rw [hμ1]; rfl
      rw [← hμ1] at g2
      simp only [← hμ1] at g1
      refine ⟨0, μ1, uI (uI μ1 29 0 s (-1)) 30 0 s 0, ?_, ?_, Inv_mono (Inv_sh (s := s) hI (fun t i j z => ?_) (fun t i j z => ?_) ?_) (by omega)⟩
      · show ev 82 0 [aR 0 0, aI s, aI o] [] μ = _
        simp (disch := omega) only [e_Ub_show_0, e_Ub_show_1, e_Ub_show_4, e_Ub_show_7, e_Ub_show_8, e_Ub_show_9, e_Ub_show_12, e_Ub_show_13, e_Ub_show_14, e_Ub_show_15, e_Ub_show_18, e_Ub_show_19, e_Ub_show_22, e_Ub_show_23, e_Ub_show_24, e_Ub_show_27, e_Ub_show_28, e_Ub_show_29, e_Ub_show_30, e_Ub_show_33, e_Ub_show_34, e_Ub_show_37, e_Ub_show_40, e_Ub_show_41, e_Ub_show_42, e_Ub_show_45, e_Ub_show_46, e_Ub_show_47, e_Ub_show_50, e_Ub_show_51, e_Ub_show_52, e_Ub_show_53, e_Ub_show_56, e_Ub_show_57, c_Ub_isShelf, evK_i, evK_v, if_pos h, one_ne, not_false_eq_true, if_true, h1, not_true_eq_false, if_false, Int.zero_add, Int.mul_zero, c_Sh_holdNothing, ← hμ1]
      · show ev 137 0 [aR 25 0, aI s, aI o] [] μ1 = _
        simp (disch := omega) only [e_Md_show_0, e_Md_show_1, e_Md_show_4, e_Md_show_7, e_Md_show_8, e_Md_show_9, e_Md_show_12, e_Md_show_13, e_Md_show_14, e_Md_show_17, e_Md_show_20, e_Md_show_21, e_Md_show_22, e_Md_show_25, e_Md_show_26, e_Md_show_27, e_Md_show_30, e_Md_show_31, e_Md_show_32, e_Md_show_33, e_Md_show_36, e_Md_show_37, e_Md_show_40, e_Md_show_41, e_Md_show_42, e_Md_show_43, e_Md_show_46, e_Md_show_47, e_Md_show_48, e_Md_show_49, e_Md_show_52, e_Md_show_53, e_Md_show_56, e_Md_show_57, e_Md_show_58, e_Md_show_59, e_Md_show_60, e_Md_show_63, e_Md_show_64, e_Md_show_67, e_Md_show_68, c_Md_isShelf, evK_i, if_pos h, one_ne, if_false, h1, if_true, not_true_eq_false]
      · rw [gI_uI, if_neg (fun y => z (Or.inr ⟨Or.inr y.1, y.2.2⟩)), gI_uI, if_neg (fun y => z (Or.inr ⟨Or.inl y.1, y.2.2⟩)), g1 _ _ _ (fun y => z (Or.inl y))]
      · rw [gL_u3, gL_u3]; exact gL_of2 g3 _ _ _
      · refine Or.inl ⟨?_, ?_, ?_, ?_⟩
        · simp (disch := omega) only [gI_self, gI_nt, gI_nj, gL_uI, gR_uI, gI_uL, gR_uL, gI_uR, gL_uR, g2]
        · simp (disch := omega) only [gI_self, gI_nt, gI_nj, gL_uI, gR_uI, gI_uL, gR_uL, gI_uR, gL_uR, g2]
        · simp (disch := omega) only [gI_self, gI_nt, gI_nj, gL_uI, gR_uI, gI_uL, gR_uL, gI_uR, gL_uR, g2]
        · simp (disch := omega) only [gI_self, gI_nt, gI_nj, gL_uI, gR_uI, gI_uL, gR_uL, gI_uR, gL_uR]
    · have hat := c_Bk_orderAt o μ hc.2
      by_cases h2 : 0 ≤ o ∧ o < gI μ 6 0 2
      · rw [if_pos h2] at hat
        have g1 : ∀ t i j, ¬ (t = 2 ∧ i = s) → gI (uI (uI (uI (uI μ 2 s 1 0) 2 s 2 (-1)) 2 s 3 (-1)) 2 s 3 o) t i j = gI μ t i j := fun t i j z => by
          have z' : ∀ k : Int, ¬ (t = 2 ∧ i = s ∧ j = k) := fun k y => z ⟨y.1, y.2.1⟩
          rw [gI_uI, if_neg (z' _), gI_uI, if_neg (z' _), gI_uI, if_neg (z' _), gI_uI, if_neg (z' _)]
        have g2 : gI (uI (uI (uI (uI μ 2 s 1 0) 2 s 2 (-1)) 2 s 3 (-1)) 2 s 3 o) 2 s 1 = 0 ∧ gI (uI (uI (uI (uI μ 2 s 1 0) 2 s 2 (-1)) 2 s 3 (-1)) 2 s 3 o) 2 s 2 = -1 ∧ gI (uI (uI (uI (uI μ 2 s 1 0) 2 s 2 (-1)) 2 s 3 (-1)) 2 s 3 o) 2 s 3 = o := by
          simp (disch := omega) only [gI_self, gI_nt, gI_nj, gL_uI, gR_uI, gI_uL, gR_uL, gI_uR, gL_uR, and_self]
        obtain ⟨μ1, hμ1⟩ : ∃ m, m = uI (uI (uI (uI μ 2 s 1 0) 2 s 2 (-1)) 2 s 3 (-1)) 2 s 3 o := ⟨_, rfl⟩
        have g3 : μ1.2 = μ.2 := by rw [hμ1]; rfl
        rw [← hμ1] at g2
        simp only [← hμ1] at g1
        refine ⟨1, μ1, uI (uI μ1 29 0 s 4) 30 0 s o, ?_, ?_, Inv_mono (Inv_sh (s := s) hI (fun t i j z => ?_) (fun t i j z => ?_) ?_) (by omega)⟩
        · show ev 82 0 [aR 0 0, aI s, aI o] [] μ = _
          simp (disch := omega) only [e_Ub_show_0, e_Ub_show_1, e_Ub_show_4, e_Ub_show_7, e_Ub_show_8, e_Ub_show_9, e_Ub_show_12, e_Ub_show_13, e_Ub_show_14, e_Ub_show_15, e_Ub_show_18, e_Ub_show_19, e_Ub_show_22, e_Ub_show_23, e_Ub_show_24, e_Ub_show_27, e_Ub_show_28, e_Ub_show_29, e_Ub_show_30, e_Ub_show_33, e_Ub_show_34, e_Ub_show_37, e_Ub_show_40, e_Ub_show_41, e_Ub_show_42, e_Ub_show_45, e_Ub_show_46, e_Ub_show_47, e_Ub_show_50, e_Ub_show_51, e_Ub_show_52, e_Ub_show_53, e_Ub_show_56, e_Ub_show_57, c_Ub_isShelf, evK_i, evK_v, if_pos h, one_ne, not_false_eq_true, if_true, if_pos h1, hat, reduceCtorEq, Int.zero_add, Int.mul_zero, c_Sh_holdOrder, ← hμ1]
        · have hio := c_Md_isOrder μ1 o (by rw [g1 _ _ _ (by omega)]; omega)
          rw [g1 _ _ _ (by omega), h600, if_pos h2] at hio
          show ev 137 0 [aR 25 0, aI s, aI o] [] μ1 = _
          simp (disch := omega) only [e_Md_show_0, e_Md_show_1, e_Md_show_4, e_Md_show_7, e_Md_show_8, e_Md_show_9, e_Md_show_12, e_Md_show_13, e_Md_show_14, e_Md_show_17, e_Md_show_20, e_Md_show_21, e_Md_show_22, e_Md_show_25, e_Md_show_26, e_Md_show_27, e_Md_show_30, e_Md_show_31, e_Md_show_32, e_Md_show_33, e_Md_show_36, e_Md_show_37, e_Md_show_40, e_Md_show_41, e_Md_show_42, e_Md_show_43, e_Md_show_46, e_Md_show_47, e_Md_show_48, e_Md_show_49, e_Md_show_52, e_Md_show_53, e_Md_show_56, e_Md_show_57, e_Md_show_58, e_Md_show_59, e_Md_show_60, e_Md_show_63, e_Md_show_64, e_Md_show_67, e_Md_show_68, c_Md_isShelf, evK_i, if_pos h, one_ne, if_false, if_neg h1, if_pos h1, hio, not_false_eq_true, if_true]
        · rw [gI_uI, if_neg (fun y => z (Or.inr ⟨Or.inr y.1, y.2.2⟩)), gI_uI, if_neg (fun y => z (Or.inr ⟨Or.inl y.1, y.2.2⟩)), g1 _ _ _ (fun y => z (Or.inl y))]
        · rw [gL_u3, gL_u3]; exact gL_of2 g3 _ _ _
        · refine Or.inr (Or.inr ⟨?_, ?_, ?_, ?_, ?_⟩)
          · simp (disch := omega) only [gI_self, gI_nt, gI_nj, gL_uI, gR_uI, gI_uL, gR_uL, gI_uR, gL_uR, g2]
          · simp (disch := omega) only [gI_self, gI_nt, gI_nj, gL_uI, gR_uI, gI_uL, gR_uL, gI_uR, gL_uR, g2]
          · simp (disch := omega) only [gI_self, gI_nt, gI_nj, gL_uI, gR_uI, gI_uL, gR_uL, gI_uR, gL_uR, g2]
            rw [g1 _ _ _ (by omega)]
            exact h2
          · simp (disch := omega) only [gI_self, gI_nt, gI_nj, gL_uI, gR_uI, gI_uL, gR_uL, gI_uR, gL_uR]
          · simp (disch := omega) only [gI_self, gI_nt, gI_nj, gL_uI, gR_uI, gI_uL, gR_uL, gI_uR, gL_uR, g2]
      · rw [if_neg h2] at hat
        refine PR_rfE (r := -1) hI (by omega) ?_ ?_
        · rw [c_Ub_refuse _ _ (by omega)]
          show ev 82 0 [aR 0 0, aI s, aI o] [] μ = _
          simp (disch := omega) only [e_Ub_show_0, e_Ub_show_1, e_Ub_show_4, e_Ub_show_7, e_Ub_show_8, e_Ub_show_9, e_Ub_show_12, e_Ub_show_13, e_Ub_show_14, e_Ub_show_15, e_Ub_show_18, e_Ub_show_19, e_Ub_show_22, e_Ub_show_23, e_Ub_show_24, e_Ub_show_27, e_Ub_show_28, e_Ub_show_29, e_Ub_show_30, e_Ub_show_33, e_Ub_show_34, e_Ub_show_37, e_Ub_show_40, e_Ub_show_41, e_Ub_show_42, e_Ub_show_45, e_Ub_show_46, e_Ub_show_47, e_Ub_show_50, e_Ub_show_51, e_Ub_show_52, e_Ub_show_53, e_Ub_show_56, e_Ub_show_57, c_Ub_isShelf, evK_i, evK_v, if_pos h, one_ne, not_false_eq_true, if_true, if_pos h1, hat, not_true_eq_false, if_false, c_Ub_refuse]
        · rw [c_Md_refused _ _ (by omega)]
          have hio := c_Md_isOrder (rf4 μ (- -1)) o (by rw [g_rf4 _ _ _ _ _ (by decide)]; omega)
          rw [g_rf4 _ _ _ _ _ (by decide), h600, if_neg h2] at hio
          show ev 137 0 [aR 25 0, aI s, aI o] [] (rf4 μ (- -1)) = _
          simp (disch := omega) only [e_Md_show_0, e_Md_show_1, e_Md_show_4, e_Md_show_7, e_Md_show_8, e_Md_show_9, e_Md_show_12, e_Md_show_13, e_Md_show_14, e_Md_show_17, e_Md_show_20, e_Md_show_21, e_Md_show_22, e_Md_show_25, c_Md_isShelf, evK_i, if_pos h, one_ne, if_false, if_neg h1, hio, not_true_eq_false, c_Md_refused]
  · refine PR_rfE (r := -1) hI (by omega) ?_ ?_
    · rw [c_Ub_refuse _ _ (by omega)]
      show ev 82 0 [aR 0 0, aI s, aI o] [] μ = _
      simp (disch := omega) only [e_Ub_show_0, e_Ub_show_1, e_Ub_show_4, e_Ub_show_7, e_Ub_show_8, e_Ub_show_9, e_Ub_show_12, e_Ub_show_13, e_Ub_show_14, e_Ub_show_15, e_Ub_show_18, e_Ub_show_19, e_Ub_show_22, e_Ub_show_23, e_Ub_show_24, e_Ub_show_27, e_Ub_show_28, e_Ub_show_29, e_Ub_show_30, e_Ub_show_33, e_Ub_show_34, e_Ub_show_37, e_Ub_show_40, e_Ub_show_41, e_Ub_show_42, e_Ub_show_45, e_Ub_show_46, e_Ub_show_47, e_Ub_show_50, e_Ub_show_51, e_Ub_show_52, e_Ub_show_53, e_Ub_show_56, e_Ub_show_57, c_Ub_isShelf, evK_i, if_neg h, not_true_eq_false, if_false, c_Ub_refuse]
    · rw [c_Md_refused _ _ (by omega)]
      show ev 137 0 [aR 25 0, aI s, aI o] [] (rf4 μ (- -1)) = _
      simp (disch := omega) only [e_Md_show_0, e_Md_show_1, e_Md_show_4, e_Md_show_7, e_Md_show_8, e_Md_show_9, e_Md_show_12, e_Md_show_13, e_Md_show_14, e_Md_show_17, e_Md_show_20, e_Md_show_21, e_Md_show_22, e_Md_show_25, c_Md_isShelf, evK_i, if_neg h, if_true, c_Md_refused]
theorem PR_says {μ : aM} {B : Int} (hI : Inv μ B) (s k : Int) : PR B μ (fun σ => ev 84 0 [aR 0 0, aI s, aI k, aU] [] σ) (fun σ => ev 192 0 [aR 25 0, aI s, aI k, aU, aU, aU] [] σ) := by
  obtain ⟨hc, h600, hR, hnum, h601, hph⟩ := Inv_f hI
  by_cases h : (0 ≤ s ∧ s < 8) ∧ (0 ≤ k ∧ k ≤ 4)
  · have hhr := c_Sh_holdsRow s μ
    have hin := c_Md_in k 0 4
    simp only [if_pos h.2] at hin
    have u0 : ev 84 0 [aR 0 0, aI s, aI k, aU] [] μ = ev 84 22 [aR 0 0, aI s, aI k, aU] [] μ := by
      simp (disch := omega) only [e_Ub_says_0, e_Ub_says_1, e_Ub_says_4, e_Ub_says_7, e_Ub_says_8, e_Ub_says_11, e_Ub_says_12, e_Ub_says_13, e_Ub_says_16, c_Ub_isShelf, evK_i, if_pos h.1, one_ne, if_false, if_neg (show ¬ k < 0 by omega), if_pos h.2.2]
    have m0 : ∀ σ, ev 192 0 [aR 25 0, aI s, aI k, aU, aU, aU] [] σ = ev 192 22 [aR 25 0, aI s, aI k, aU, aU, aU] [] σ := fun σ => by
      simp (disch := omega) only [e_Md_says_0, e_Md_says_1, e_Md_says_4, e_Md_says_7, e_Md_says_8, e_Md_says_9, e_Md_says_10, e_Md_says_13, e_Md_says_16, c_Md_isShelf, hin, evK_i, if_pos h.1, one_ne, if_false, not_false_eq_true, if_true]
    rcases hI.2.2.1 s h.1.1 h.1.2 with z | z | z
    · obtain ⟨z1, z2, z3, z4⟩ := z
      rw [if_neg (by omega)] at hhr
      have hat := c_Bk_orderAt (-1) μ hc.2
      rw [if_neg (by omega)] at hat
      refine PR_rfE (r := -3) hI (by omega) ?_ ?_
      · rw [c_Ub_refuse _ _ (by omega)]
        show ev 84 0 [aR 0 0, aI s, aI k, aU] [] μ = _
        rw [u0]
        simp (disch := omega) only [e_Ub_says_22, e_Ub_says_23, e_Ub_says_26, e_Ub_says_27, e_Ub_says_28, e_Ub_says_31, e_Ub_says_34, e_Ub_says_35, e_Ub_says_37, e_Ub_says_40, e_Ub_says_41, e_Ub_says_42, e_Ub_says_45, e_Ub_says_46, e_Ub_says_49, e_Ub_says_50, e_Ub_says_51, e_Ub_says_54, e_Ub_says_57, e_Ub_says_58, e_Ub_says_59, e_Ub_says_62, e_Ub_says_63, e_Ub_says_65, e_Ub_says_68, Int.zero_add, Int.mul_zero, hhr, evK_i, if_true, z2, hat, not_true_eq_false, if_false, c_Ub_refuse]
      · rw [c_Md_refused _ _ (by omega)]
        have e29 : gI (rf4 μ (- -3)) 29 0 s = -1 := by rw [g_rf4 _ _ _ _ _ (by decide)]; exact z4
        have hi3 := c_Md_in (-1) 0 3 (rf4 μ (- -3))
        rw [if_neg (by omega)] at hi3
        show ev 192 0 [aR 25 0, aI s, aI k, aU, aU, aU] [] (rf4 μ (- -3)) = _
        rw [m0]
        simp (disch := omega) only [e_Md_says_22, e_Md_says_23, e_Md_says_26, e_Md_says_27, e_Md_says_28, e_Md_says_29, e_Md_says_32, e_Md_says_33, e_Md_says_36, e_Md_says_37, e_Md_says_38, e_Md_says_39, e_Md_says_42, e_Md_says_43, e_Md_says_46, e_Md_says_47, e_Md_says_48, e_Md_says_51, e_Md_says_52, e_Md_says_53, e_Md_says_54, e_Md_says_55, e_Md_says_58, e_Md_says_59, e_Md_says_61, e_Md_says_62, e_Md_says_65, e_Md_says_66, e_Md_says_67, e_Md_says_68, e_Md_says_69, e_Md_says_72, e_Md_says_75, e_Md_says_76, e_Md_says_79, e_Md_says_80, e_Md_says_83, e_Md_says_85, e_Md_says_86, e_Md_says_89, e_Md_says_90, e_Md_says_91, e_Md_says_94, e_Md_says_96, e_Md_says_97, e_Md_says_100, e_Md_says_101, e_Md_says_103, e_Md_says_106, e_Md_says_107, e_Md_says_108, e_Md_says_111, e_Md_says_112, e_Md_says_114, e_Md_says_117, e29, hi3, evK_i, if_true, not_true_eq_false, not_false_eq_true, if_false, show ¬ (-1 : Int) = 4 by decide, c_Md_refused]
    · obtain ⟨z1, z2, z3, z4, z5, z6⟩ := z
      rw [if_pos (by omega)] at hhr
      refine PR_rfE (r := -2) hI (by omega) ?_ ?_
      · rw [c_Ub_refuse _ _ (by omega)]
        show ev 84 0 [aR 0 0, aI s, aI k, aU] [] μ = _
        rw [u0]
        simp (disch := omega) only [e_Ub_says_22, e_Ub_says_23, e_Ub_says_26, e_Ub_says_27, e_Ub_says_28, e_Ub_says_31, e_Ub_says_34, e_Ub_says_35, e_Ub_says_37, e_Ub_says_40, Int.zero_add, Int.mul_zero, hhr, evK_i, one_ne, if_false, c_Ub_refuse]
      · rw [c_Md_refused _ _ (by omega)]
        have e29 : gI (rf4 μ (- -2)) 29 0 s = gI μ 2 s 2 := by rw [g_rf4 _ _ _ _ _ (by decide)]; exact z4
        have hi3 := c_Md_in (gI μ 2 s 2) 0 3 (rf4 μ (- -2))
        rw [if_pos z1] at hi3
        show ev 192 0 [aR 25 0, aI s, aI k, aU, aU, aU] [] (rf4 μ (- -2)) = _
        rw [m0]
        simp (disch := omega) only [e_Md_says_22, e_Md_says_23, e_Md_says_26, e_Md_says_27, e_Md_says_28, e_Md_says_29, e_Md_says_32, e_Md_says_33, e_Md_says_36, e_Md_says_37, e_Md_says_38, e_Md_says_39, e_Md_says_42, e_Md_says_43, e_Md_says_46, e_Md_says_47, e_Md_says_48, e_Md_says_51, e_Md_says_52, e_Md_says_53, e_Md_says_54, e_Md_says_55, e_Md_says_58, e_Md_says_59, e_Md_says_61, e_Md_says_62, e_Md_says_65, e_Md_says_66, e_Md_says_67, e_Md_says_68, e_Md_says_69, e_Md_says_72, e_Md_says_75, e_Md_says_76, e_Md_says_79, e_Md_says_80, e_Md_says_83, e_Md_says_85, e_Md_says_86, e_Md_says_89, e_Md_says_90, e_Md_says_91, e_Md_says_94, e_Md_says_96, e_Md_says_97, e_Md_says_100, e_Md_says_101, e_Md_says_103, e_Md_says_106, e29, hi3, evK_i, if_true, if_pos (show ¬ gI μ 2 s 2 = 4 by omega), one_ne, not_false_eq_true, c_Md_refused]
    · obtain ⟨z1, z2, z3, z4, z5⟩ := z
      rw [if_neg (by omega)] at hhr
      obtain ⟨o, ho⟩ : ∃ o, o = gI μ 2 s 3 := ⟨_, rfl⟩
      rw [← ho] at z3 z5
      have hat := c_Bk_orderAt o μ hc.2
      rw [if_pos z3] at hat
      have hun := c_Ord_isUnder o k μ
      have hpr := u_priceOf hI z3
      have hvs := u_vis μ o
      obtain ⟨ra, rb, rt, rv, rc⟩ := RO.p hI.1.1 z3.1 z3.2
      obtain ⟨ia, ib, ip, idd, is, ir⟩ := IO_p hI.1.2.1 z3.1 z3.2
      have k1 := ra.1
      have k4 := (rb (by omega)).1
      have hi3 := c_Md_in 4 0 3
      simp only [show ¬ ((0 : Int) ≤ 4 ∧ (4 : Int) ≤ 3) by omega, if_false] at hi3
      by_cases hu : k = 0 ∨ k = gI μ 8 o 1 ∨ (k = 1 ∧ gI μ 8 o 1 = 2)
      · rw [if_pos hu] at hun
        have mpr := c_Md_pricedAs o hI.1.1 hI.1.2.1 z3.1 z3.2
        have mvs := c_Md_seen o hI.1.1 z3.1 z3.2
        have m1 : ev 192 0 [aR 25 0, aI s, aI k, aU, aU, aU] [] μ = ev 192 118 [aR 25 0, aI s, aI k, aI 1, aI (gI μ 8 o 1), aU] [] μ := by
          rw [m0]
          by_cases k0 : k = 0
          · simp (disch := omega) only [e_Md_says_22, e_Md_says_23, e_Md_says_26, e_Md_says_27, e_Md_says_28, e_Md_says_29, e_Md_says_32, e_Md_says_33, e_Md_says_36, e_Md_says_37, e_Md_says_38, e_Md_says_39, e_Md_says_42, e_Md_says_43, e_Md_says_46, e_Md_says_47, e_Md_says_48, e_Md_says_51, e_Md_says_52, e_Md_says_53, e_Md_says_54, e_Md_says_55, e_Md_says_58, e_Md_says_59, e_Md_says_61, e_Md_says_62, e_Md_says_65, e_Md_says_66, e_Md_says_67, e_Md_says_68, e_Md_says_69, e_Md_says_72, e_Md_says_75, e_Md_says_76, e_Md_says_79, e_Md_says_80, e_Md_says_83, e_Md_says_85, e_Md_says_86, e_Md_says_89, e_Md_says_90, e_Md_says_91, e_Md_says_94, e_Md_says_96, e_Md_says_97, e_Md_says_100, e_Md_says_101, e_Md_says_103, e_Md_says_106, e_Md_says_107, e_Md_says_108, e_Md_says_111, e_Md_says_112, e_Md_says_114, e_Md_says_117, z4, z5, wr_id, Int.zero_add, k1, hi3, evK_i, if_true, not_true_eq_false, not_false_eq_true, if_false, one_ne, k0]
          · by_cases ke : gI μ 8 o 1 = k
            · simp (disch := omega) only [e_Md_says_22, e_Md_says_23, e_Md_says_26, e_Md_says_27, e_Md_says_28, e_Md_says_29, e_Md_says_32, e_Md_says_33, e_Md_says_36, e_Md_says_37, e_Md_says_38, e_Md_says_39, e_Md_says_42, e_Md_says_43, e_Md_says_46, e_Md_says_47, e_Md_says_48, e_Md_says_51, e_Md_says_52, e_Md_says_53, e_Md_says_54, e_Md_says_55, e_Md_says_58, e_Md_says_59, e_Md_says_61, e_Md_says_62, e_Md_says_65, e_Md_says_66, e_Md_says_67, e_Md_says_68, e_Md_says_69, e_Md_says_72, e_Md_says_75, e_Md_says_76, e_Md_says_79, e_Md_says_80, e_Md_says_83, e_Md_says_85, e_Md_says_86, e_Md_says_89, e_Md_says_90, e_Md_says_91, e_Md_says_94, e_Md_says_96, e_Md_says_97, e_Md_says_100, e_Md_says_101, e_Md_says_103, e_Md_says_106, e_Md_says_107, e_Md_says_108, e_Md_says_111, e_Md_says_112, e_Md_says_114, e_Md_says_117, z4, z5, wr_id, Int.zero_add, k1, hi3, evK_i, if_true, not_true_eq_false, not_false_eq_true, if_false, one_ne, if_neg k0, if_pos ke]
            · have k11 : k = 1 ∧ gI μ 8 o 1 = 2 := by omega
              simp (disch := omega) only [e_Md_says_22, e_Md_says_23, e_Md_says_26, e_Md_says_27, e_Md_says_28, e_Md_says_29, e_Md_says_32, e_Md_says_33, e_Md_says_36, e_Md_says_37, e_Md_says_38, e_Md_says_39, e_Md_says_42, e_Md_says_43, e_Md_says_46, e_Md_says_47, e_Md_says_48, e_Md_says_51, e_Md_says_52, e_Md_says_53, e_Md_says_54, e_Md_says_55, e_Md_says_58, e_Md_says_59, e_Md_says_61, e_Md_says_62, e_Md_says_65, e_Md_says_66, e_Md_says_67, e_Md_says_68, e_Md_says_69, e_Md_says_72, e_Md_says_75, e_Md_says_76, e_Md_says_79, e_Md_says_80, e_Md_says_83, e_Md_says_85, e_Md_says_86, e_Md_says_89, e_Md_says_90, e_Md_says_91, e_Md_says_94, e_Md_says_96, e_Md_says_97, e_Md_says_100, e_Md_says_101, e_Md_says_103, e_Md_says_106, e_Md_says_107, e_Md_says_108, e_Md_says_111, e_Md_says_112, e_Md_says_114, e_Md_says_117, z4, z5, wr_id, Int.zero_add, k1, hi3, evK_i, if_true, not_true_eq_false, not_false_eq_true, if_false, one_ne, if_neg k0, k11.1, k11.2, show ¬ (2 : Int) = 1 by decide]
        refine PR_id (a := if k = 0 then gI μ 8 o 4 else if k = 2 then vsN μ o else prO μ o) hI ?_ ?_
        · show ev 84 0 [aR 0 0, aI s, aI k, aU] [] μ = _
          rw [u0]
          by_cases k0 : k = 0
          · rw [if_pos k0]
            simp (disch := omega) only [e_Ub_says_22, e_Ub_says_23, e_Ub_says_26, e_Ub_says_27, e_Ub_says_28, e_Ub_says_31, e_Ub_says_34, e_Ub_says_35, e_Ub_says_37, e_Ub_says_40, e_Ub_says_41, e_Ub_says_42, e_Ub_says_45, e_Ub_says_46, e_Ub_says_49, e_Ub_says_50, e_Ub_says_51, e_Ub_says_54, e_Ub_says_57, e_Ub_says_58, e_Ub_says_59, e_Ub_says_62, e_Ub_says_63, e_Ub_says_65, e_Ub_says_68, e_Ub_says_69, e_Ub_says_70, e_Ub_says_71, e_Ub_says_74, e_Ub_says_77, e_Ub_says_78, e_Ub_says_80, e_Ub_says_83, e_Ub_says_84, e_Ub_says_85, e_Ub_says_88, e_Ub_says_89, e_Ub_says_92, e_Ub_says_93, e_Ub_says_94, e_Ub_says_95, e_Ub_says_98, e_Ub_says_99, e_Ub_says_102, e_Ub_says_105, e_Ub_says_106, e_Ub_says_109, e_Ub_says_110, e_Ub_says_113, Int.zero_add, Int.mul_zero, hhr, evK_i, if_true, ← ho, hat, reduceCtorEq, not_false_eq_true, hun, one_ne, if_neg (show ¬ ¬ k = 0 from fun y => y k0)]
          · rw [if_neg k0]
            by_cases k2 : k = 2
            · rw [if_pos k2]
              simp (disch := omega) only [e_Ub_says_22, e_Ub_says_23, e_Ub_says_26, e_Ub_says_27, e_Ub_says_28, e_Ub_says_31, e_Ub_says_34, e_Ub_says_35, e_Ub_says_37, e_Ub_says_40, e_Ub_says_41, e_Ub_says_42, e_Ub_says_45, e_Ub_says_46, e_Ub_says_49, e_Ub_says_50, e_Ub_says_51, e_Ub_says_54, e_Ub_says_57, e_Ub_says_58, e_Ub_says_59, e_Ub_says_62, e_Ub_says_63, e_Ub_says_65, e_Ub_says_68, e_Ub_says_69, e_Ub_says_70, e_Ub_says_71, e_Ub_says_74, e_Ub_says_77, e_Ub_says_78, e_Ub_says_80, e_Ub_says_83, e_Ub_says_84, e_Ub_says_85, e_Ub_says_88, e_Ub_says_89, e_Ub_says_92, e_Ub_says_93, e_Ub_says_94, e_Ub_says_95, e_Ub_says_98, e_Ub_says_99, e_Ub_says_102, e_Ub_says_105, e_Ub_says_106, e_Ub_says_109, e_Ub_says_110, e_Ub_says_113, Int.zero_add, Int.mul_zero, hhr, evK_i, if_true, ← ho, hat, reduceCtorEq, not_false_eq_true, hun, one_ne, if_pos k0, if_neg (show ¬ ¬ k = 2 from fun y => y k2), hvs]
            · rw [if_neg k2]
              simp (disch := omega) only [e_Ub_says_22, e_Ub_says_23, e_Ub_says_26, e_Ub_says_27, e_Ub_says_28, e_Ub_says_31, e_Ub_says_34, e_Ub_says_35, e_Ub_says_37, e_Ub_says_40, e_Ub_says_41, e_Ub_says_42, e_Ub_says_45, e_Ub_says_46, e_Ub_says_49, e_Ub_says_50, e_Ub_says_51, e_Ub_says_54, e_Ub_says_57, e_Ub_says_58, e_Ub_says_59, e_Ub_says_62, e_Ub_says_63, e_Ub_says_65, e_Ub_says_68, e_Ub_says_69, e_Ub_says_70, e_Ub_says_71, e_Ub_says_74, e_Ub_says_77, e_Ub_says_78, e_Ub_says_80, e_Ub_says_83, e_Ub_says_84, e_Ub_says_85, e_Ub_says_88, e_Ub_says_89, e_Ub_says_92, e_Ub_says_93, e_Ub_says_94, e_Ub_says_95, e_Ub_says_98, e_Ub_says_99, e_Ub_says_102, e_Ub_says_105, e_Ub_says_106, e_Ub_says_109, e_Ub_says_110, e_Ub_says_113, Int.zero_add, Int.mul_zero, hhr, evK_i, if_true, ← ho, hat, reduceCtorEq, not_false_eq_true, hun, one_ne, if_pos k0, if_pos k2, hpr]
        · show ev 192 0 [aR 25 0, aI s, aI k, aU, aU, aU] [] μ = _
          rw [m1]
          by_cases k0 : k = 0
          · rw [if_pos k0]
            simp (disch := omega) only [e_Md_says_118, e_Md_says_119, e_Md_says_122, e_Md_says_123, e_Md_says_124, e_Md_says_126, e_Md_says_127, e_Md_says_130, e_Md_says_131, e_Md_says_134, e_Md_says_137, e_Md_says_139, e_Md_says_140, e_Md_says_141, e_Md_says_144, e_Md_says_145, e_Md_says_146, e_Md_says_149, e_Md_says_150, e_Md_says_152, e_Md_says_155, e_Md_says_158, e_Md_says_159, e_Md_says_161, e_Md_says_164, z5, wr_id, k0, not_true_eq_false, if_false, k4]
          · rw [if_neg k0]
            by_cases k2 : k = 2
            · rw [if_pos k2]
              simp (disch := omega) only [e_Md_says_118, e_Md_says_119, e_Md_says_122, e_Md_says_123, e_Md_says_124, e_Md_says_126, e_Md_says_127, e_Md_says_130, e_Md_says_131, e_Md_says_134, e_Md_says_137, e_Md_says_139, e_Md_says_140, e_Md_says_141, e_Md_says_144, e_Md_says_145, e_Md_says_146, e_Md_says_149, e_Md_says_150, e_Md_says_152, e_Md_says_155, e_Md_says_158, e_Md_says_159, e_Md_says_161, e_Md_says_164, z5, wr_id, if_pos k0, if_neg (show ¬ ¬ k = 2 from fun y => y k2), mvs, evK_i]
            · rw [if_neg k2]
              simp (disch := omega) only [e_Md_says_118, e_Md_says_119, e_Md_says_122, e_Md_says_123, e_Md_says_124, e_Md_says_126, e_Md_says_127, e_Md_says_130, e_Md_says_131, e_Md_says_134, e_Md_says_137, e_Md_says_139, e_Md_says_140, e_Md_says_141, e_Md_says_144, e_Md_says_145, e_Md_says_146, e_Md_says_149, e_Md_says_150, e_Md_says_152, e_Md_says_155, e_Md_says_158, e_Md_says_159, e_Md_says_161, e_Md_says_164, z5, wr_id, if_pos k0, if_pos k2, mpr, evK_i]
      · rw [if_neg hu] at hun
        refine PR_rfE (r := -2) hI (by omega) ?_ ?_
        · rw [c_Ub_refuse _ _ (by omega)]
          show ev 84 0 [aR 0 0, aI s, aI k, aU] [] μ = _
          rw [u0]
          simp (disch := omega) only [e_Ub_says_22, e_Ub_says_23, e_Ub_says_26, e_Ub_says_27, e_Ub_says_28, e_Ub_says_31, e_Ub_says_34, e_Ub_says_35, e_Ub_says_37, e_Ub_says_40, e_Ub_says_41, e_Ub_says_42, e_Ub_says_45, e_Ub_says_46, e_Ub_says_49, e_Ub_says_50, e_Ub_says_51, e_Ub_says_54, e_Ub_says_57, e_Ub_says_58, e_Ub_says_59, e_Ub_says_62, e_Ub_says_63, e_Ub_says_65, e_Ub_says_68, e_Ub_says_69, e_Ub_says_70, e_Ub_says_71, e_Ub_says_74, e_Ub_says_77, e_Ub_says_78, e_Ub_says_80, e_Ub_says_83, Int.zero_add, Int.mul_zero, hhr, evK_i, if_true, ← ho, hat, reduceCtorEq, not_false_eq_true, hun, not_true_eq_false, if_false, c_Ub_refuse]
        · rw [c_Md_refused _ _ (by omega)]
          have e29 : gI (rf4 μ (- -2)) 29 0 s = 4 := by rw [g_rf4 _ _ _ _ _ (by decide)]; exact z4
          have e30 : gI (rf4 μ (- -2)) 30 0 s = o := by rw [g_rf4 _ _ _ _ _ (by decide)]; exact z5
          have e26 : gI (rf4 μ (- -2)) 26 0 o = gI μ 8 o 1 := by rw [g_rf4 _ _ _ _ _ (by decide)]; exact k1
          show ev 192 0 [aR 25 0, aI s, aI k, aU, aU, aU] [] (rf4 μ (- -2)) = _
          rw [m0]
          by_cases k1' : k = 1
          · simp (disch := omega) only [e_Md_says_22, e_Md_says_23, e_Md_says_26, e_Md_says_27, e_Md_says_28, e_Md_says_29, e_Md_says_32, e_Md_says_33, e_Md_says_36, e_Md_says_37, e_Md_says_38, e_Md_says_39, e_Md_says_42, e_Md_says_43, e_Md_says_46, e_Md_says_47, e_Md_says_48, e_Md_says_51, e_Md_says_52, e_Md_says_53, e_Md_says_54, e_Md_says_55, e_Md_says_58, e_Md_says_59, e_Md_says_61, e_Md_says_62, e_Md_says_65, e_Md_says_66, e_Md_says_67, e_Md_says_68, e_Md_says_69, e_Md_says_72, e_Md_says_75, e_Md_says_76, e_Md_says_79, e_Md_says_80, e_Md_says_83, e_Md_says_85, e_Md_says_86, e_Md_says_89, e_Md_says_90, e_Md_says_91, e_Md_says_94, e_Md_says_96, e_Md_says_97, e_Md_says_100, e_Md_says_101, e_Md_says_103, e_Md_says_106, e29, e30, wr_id, Int.zero_add, e26, hi3, evK_i, if_true, not_true_eq_false, not_false_eq_true, if_false, one_ne, if_neg (show ¬ k = 0 by omega), if_neg (show ¬ gI μ 8 o 1 = k by omega), if_neg (show ¬ ¬ k = 1 from fun y => y k1'), if_neg (show ¬ gI μ 8 o 1 = 2 by omega), c_Md_refused]
          · simp (disch := omega) only [e_Md_says_22, e_Md_says_23, e_Md_says_26, e_Md_says_27, e_Md_says_28, e_Md_says_29, e_Md_says_32, e_Md_says_33, e_Md_says_36, e_Md_says_37, e_Md_says_38, e_Md_says_39, e_Md_says_42, e_Md_says_43, e_Md_says_46, e_Md_says_47, e_Md_says_48, e_Md_says_51, e_Md_says_52, e_Md_says_53, e_Md_says_54, e_Md_says_55, e_Md_says_58, e_Md_says_59, e_Md_says_61, e_Md_says_62, e_Md_says_65, e_Md_says_66, e_Md_says_67, e_Md_says_68, e_Md_says_69, e_Md_says_72, e_Md_says_75, e_Md_says_76, e_Md_says_79, e_Md_says_80, e_Md_says_83, e_Md_says_85, e_Md_says_86, e_Md_says_89, e_Md_says_90, e_Md_says_91, e_Md_says_94, e_Md_says_96, e_Md_says_97, e_Md_says_100, e_Md_says_101, e_Md_says_103, e_Md_says_106, e29, e30, wr_id, Int.zero_add, e26, hi3, evK_i, if_true, not_true_eq_false, not_false_eq_true, if_false, one_ne, if_neg (show ¬ k = 0 by omega), if_neg (show ¬ gI μ 8 o 1 = k by omega), if_pos k1', c_Md_refused]
  · refine PR_rfE (r := -1) hI (by omega) ?_ ?_
    · rw [c_Ub_refuse _ _ (by omega)]
      show ev 84 0 [aR 0 0, aI s, aI k, aU] [] μ = _
      by_cases h1 : 0 ≤ s ∧ s < 8
      · by_cases h2 : k < 0
        · simp (disch := omega) only [e_Ub_says_0, e_Ub_says_1, e_Ub_says_4, e_Ub_says_7, e_Ub_says_8, e_Ub_says_11, e_Ub_says_12, e_Ub_says_13, e_Ub_says_16, e_Ub_says_17, e_Ub_says_18, e_Ub_says_21, c_Ub_isShelf, evK_i, if_pos h1, one_ne, if_false, if_pos h2, c_Ub_refuse]
        · simp (disch := omega) only [e_Ub_says_0, e_Ub_says_1, e_Ub_says_4, e_Ub_says_7, e_Ub_says_8, e_Ub_says_11, e_Ub_says_12, e_Ub_says_13, e_Ub_says_16, e_Ub_says_17, e_Ub_says_18, e_Ub_says_21, c_Ub_isShelf, evK_i, if_pos h1, one_ne, if_false, if_neg h2, if_neg (show ¬ k ≤ 4 by omega), c_Ub_refuse]
      · simp (disch := omega) only [e_Ub_says_0, e_Ub_says_1, e_Ub_says_4, e_Ub_says_7, e_Ub_says_8, e_Ub_says_11, e_Ub_says_12, e_Ub_says_13, e_Ub_says_16, e_Ub_says_17, e_Ub_says_18, e_Ub_says_21, c_Ub_isShelf, evK_i, if_neg h1, if_true, c_Ub_refuse]
    · rw [c_Md_refused _ _ (by omega)]
      show ev 192 0 [aR 25 0, aI s, aI k, aU, aU, aU] [] (rf4 μ (- -1)) = _
      by_cases h1 : 0 ≤ s ∧ s < 8
      · have hin := c_Md_in k 0 4 (rf4 μ (- -1))
        rw [if_neg (fun y => h ⟨h1, y⟩)] at hin
        simp (disch := omega) only [e_Md_says_0, e_Md_says_1, e_Md_says_4, e_Md_says_7, e_Md_says_8, e_Md_says_9, e_Md_says_10, e_Md_says_13, e_Md_says_16, e_Md_says_17, e_Md_says_18, e_Md_says_21, c_Md_isShelf, hin, evK_i, if_pos h1, one_ne, if_false, not_true_eq_false, c_Md_refused]
      · simp (disch := omega) only [e_Md_says_0, e_Md_says_1, e_Md_says_4, e_Md_says_7, e_Md_says_8, e_Md_says_9, e_Md_says_10, e_Md_says_13, e_Md_says_16, e_Md_says_17, e_Md_says_18, e_Md_says_21, c_Md_isShelf, evK_i, if_neg h1, if_true, c_Md_refused]
