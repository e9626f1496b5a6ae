/-! items -/
theorem bd_94 (σ : aM) (s a b c d e : Int) (hf : ¬ gI σ 19 0 7 = -1) : ev 65 94 [aR 19 0, aR 2 s, aI a, aI b, aI c, aI d, aI e] [] σ = some (none, σ) := by
  simp (disch := omega) only [e_Tr_takeItem_94, e_Tr_takeItem_95, e_Tr_takeItem_98, e_Tr_takeItem_99, hf, not_false_eq_true, if_true, e_Tr_takeItem_174]
theorem bd_67 (σ : aM) (s a b c d : Int) (a6 : AV) (h : okT σ s) (hp : 0 ≤ gI σ 19 0 6 ∧ gI σ 19 0 6 ≤ 900) (hf : ¬ gI σ 19 0 7 = -1) : ev 65 67 [aR 19 0, aR 2 s, aI a, aI b, aI c, aI d, a6] [] σ = some (none, σ) := by
  have h1 := c_Tr_signAt σ s h hp.1
  have h2 := c_Tr_takeSign σ s 104 h (by omega)
  rw [kTb_bad _ _ _ hf] at h2
  obtain ⟨x, h3⟩ := c_Tr_takeNumber_bad σ s h hp hf
  have h4 := fun e => bd_94 σ s a b c d e hf
  by_cases c1 : lts σ s (gI σ 19 0 6) = 104
  · simp (disch := omega) only [e_Tr_takeItem_67, e_Tr_takeItem_68, e_Tr_takeItem_70, e_Tr_takeItem_71, e_Tr_takeItem_72, e_Tr_takeItem_75, e_Tr_takeItem_77, h1, evK_i, evK_v, c1, not_true_eq_false, if_false, e_Tr_takeItem_80, e_Tr_takeItem_81, e_Tr_takeItem_82, e_Tr_takeItem_84, e_Tr_takeItem_87, e_Tr_takeItem_88, e_Tr_takeItem_89, e_Tr_takeItem_92, h2, h3, h4]
  · simp (disch := omega) only [e_Tr_takeItem_67, e_Tr_takeItem_68, e_Tr_takeItem_70, e_Tr_takeItem_71, e_Tr_takeItem_72, e_Tr_takeItem_75, e_Tr_takeItem_77, h1, evK_i, c1, not_false_eq_true, if_true, h4]
theorem bd_53 (σ : aM) (s a b c : Int) (a5 a6 : AV) (h : okT σ s) (hp : 0 ≤ gI σ 19 0 6 ∧ gI σ 19 0 6 ≤ 900) (hf : ¬ gI σ 19 0 7 = -1) : ev 65 53 [aR 19 0, aR 2 s, aI a, aI b, aI c, a5, a6] [] σ = some (none, σ) := by
  have h2 := c_Tr_takeSign σ s 64 h (by omega)
  rw [kTb_bad _ _ _ hf] at h2
  obtain ⟨x, h3⟩ := c_Tr_takeNumber_bad σ s h hp hf
  have h4 := fun d => bd_67 σ s a b c d a6 h hp hf
  simp (disch := omega) only [e_Tr_takeItem_53, e_Tr_takeItem_54, e_Tr_takeItem_55, e_Tr_takeItem_57, e_Tr_takeItem_60, e_Tr_takeItem_61, e_Tr_takeItem_62, e_Tr_takeItem_65, h2, h3, h4, evK_i, evK_v]
theorem bd_46 (σ : aM) (s a b : Int) (a4 a5 a6 : AV) (h : okT σ s) (hp : 0 ≤ gI σ 19 0 6 ∧ gI σ 19 0 6 ≤ 900) (hf : ¬ gI σ 19 0 7 = -1) : ev 65 46 [aR 19 0, aR 2 s, aI a, aI b, a4, a5, a6] [] σ = some (none, σ) := by
  obtain ⟨x, h3⟩ := c_Tr_takeNumber_bad σ s h hp hf
  have h4 := fun c => bd_53 σ s a b c a5 a6 h hp hf
  simp (disch := omega) only [e_Tr_takeItem_46, e_Tr_takeItem_47, e_Tr_takeItem_48, e_Tr_takeItem_51, h3, h4, evK_i]
theorem bd_29 (σ : aM) (s a b : Int) (a4 a5 a6 : AV) (h : okT σ s) (hp : 0 ≤ gI σ 19 0 6 ∧ gI σ 19 0 6 ≤ 900) (hf : ¬ gI σ 19 0 7 = -1) : ev 65 29 [aR 19 0, aR 2 s, aI a, aI b, a4, a5, a6] [] σ = some (none, σ) := by
  have h2 := fun w => c_Tr_takeSign σ s w h (by omega)
  simp only [kTb_bad _ _ _ hf] at h2
  have h4 := bd_46 σ s a b a4 a5 a6 h hp hf
  by_cases c1 : b = 1
  · simp (disch := omega) only [e_Tr_takeItem_29, e_Tr_takeItem_30, e_Tr_takeItem_31, e_Tr_takeItem_32, e_Tr_takeItem_33, if_neg (fun q : ¬ b = 1 => q c1), e_Tr_takeItem_36, e_Tr_takeItem_38, e_Tr_takeItem_43, h2, h4, evK_v]
  · simp (disch := omega) only [e_Tr_takeItem_29, e_Tr_takeItem_30, e_Tr_takeItem_31, e_Tr_takeItem_32, e_Tr_takeItem_33, if_pos c1, e_Tr_takeItem_41, e_Tr_takeItem_43, h2, h4, evK_v]
theorem bd_13 (σ : aM) (s a : Int) (a3 a4 a5 a6 : AV) (h : okT σ s) (hp : 0 ≤ gI σ 19 0 6 ∧ gI σ 19 0 6 ≤ 900) (hf : ¬ gI σ 19 0 7 = -1) : ev 65 13 [aR 19 0, aR 2 s, aI a, a3, a4, a5, a6] [] σ = some (none, σ) := by
  have h1 := c_Tr_signAt σ s h hp.1
  have h4 := fun b => bd_29 σ s a b a4 a5 a6 h hp hf
  by_cases c1 : lts σ s (gI σ 19 0 6) = 45
  · simp (disch := omega) only [e_Tr_takeItem_13, e_Tr_takeItem_14, e_Tr_takeItem_15, e_Tr_takeItem_18, e_Tr_takeItem_20, h1, evK_i, c1, not_true_eq_false, if_false, e_Tr_takeItem_23, e_Tr_takeItem_24, e_Tr_takeItem_28, h4]
  · simp (disch := omega) only [e_Tr_takeItem_13, e_Tr_takeItem_14, e_Tr_takeItem_15, e_Tr_takeItem_18, e_Tr_takeItem_20, h1, evK_i, c1, not_false_eq_true, if_true, e_Tr_takeItem_27, e_Tr_takeItem_28, h4]
theorem c_Tr_takeItem_bad (σ : aM) (s : Int) (h : okT σ s) (hp : 0 ≤ gI σ 19 0 6 ∧ gI σ 19 0 6 ≤ 900) (hf : ¬ gI σ 19 0 7 = -1) : ev 65 0 [aR 19 0, aR 2 s, aU, aU, aU, aU, aU] [] σ = some (none, σ) := by
  have h1 := c_Tr_takeBetween σ s 97 104 h (by omega)
  rw [kTb_bad _ _ _ hf] at h1
  have h4 := fun a => bd_13 σ s a aU aU aU aU h hp hf
  simp (disch := omega) only [e_Tr_takeItem_0, e_Tr_takeItem_1, e_Tr_takeItem_2, e_Tr_takeItem_4, e_Tr_takeItem_6, e_Tr_takeItem_9, e_Tr_takeItem_11, e_Tr_takeItem_12, h1, evK_i, h4]
/-- an item is kept -/
def kIt (σ : aM) (it : aIt) : aM := uI (uI (uI (uI (uI (uI σ 20 0 (gI σ 19 0 5) it.1) 21 0 (gI σ 19 0 5) it.2.1) 22 0 (gI σ 19 0 5) it.2.2.1) 23 0 (gI σ 19 0 5) it.2.2.2.1) 24 0 (gI σ 19 0 5) it.2.2.2.2) 19 0 5 (gI σ 19 0 5 + 1)
theorem gd_94 (σ : aM) (s a b c d e : Int) (hf : gI σ 19 0 7 = -1) (hc : 0 ≤ gI σ 19 0 5 ∧ gI σ 19 0 5 < 27) : ev 65 94 [aR 19 0, aR 2 s, aI a, aI b, aI c, aI d, aI e] [] σ = some (none, kIt σ (a, b, c, d, e)) := by
  unfold kIt
  have h27 : ¬ 27 ≤ gI σ 19 0 5 := by omega
  have hf' : ¬ ¬ gI σ 19 0 7 = -1 := fun q => q hf
  simp (disch := omega) only [e_Tr_takeItem_1, e_Tr_takeItem_2, e_Tr_takeItem_4, e_Tr_takeItem_6, e_Tr_takeItem_9, e_Tr_takeItem_11, e_Tr_takeItem_12, e_Tr_takeItem_13, e_Tr_takeItem_14, e_Tr_takeItem_15, e_Tr_takeItem_18, e_Tr_takeItem_20, e_Tr_takeItem_23, e_Tr_takeItem_24, e_Tr_takeItem_27, e_Tr_takeItem_28, e_Tr_takeItem_29, e_Tr_takeItem_30, e_Tr_takeItem_31, e_Tr_takeItem_32, e_Tr_takeItem_33, e_Tr_takeItem_36, e_Tr_takeItem_38, e_Tr_takeItem_41, e_Tr_takeItem_43, e_Tr_takeItem_46, e_Tr_takeItem_47, e_Tr_takeItem_48, e_Tr_takeItem_51, e_Tr_takeItem_53, e_Tr_takeItem_54, e_Tr_takeItem_55, e_Tr_takeItem_57, e_Tr_takeItem_60, e_Tr_takeItem_61, e_Tr_takeItem_62, e_Tr_takeItem_65, e_Tr_takeItem_67, e_Tr_takeItem_68, e_Tr_takeItem_70, e_Tr_takeItem_71, e_Tr_takeItem_72, e_Tr_takeItem_75, e_Tr_takeItem_77, e_Tr_takeItem_80, e_Tr_takeItem_81, e_Tr_takeItem_82, e_Tr_takeItem_84, e_Tr_takeItem_87, e_Tr_takeItem_88, e_Tr_takeItem_89, e_Tr_takeItem_92, e_Tr_takeItem_94, e_Tr_takeItem_95, e_Tr_takeItem_98, e_Tr_takeItem_99, e_Tr_takeItem_102, e_Tr_takeItem_103, e_Tr_takeItem_106, e_Tr_takeItem_108, e_Tr_takeItem_111, e_Tr_takeItem_112, e_Tr_takeItem_115, e_Tr_takeItem_116, e_Tr_takeItem_119, e_Tr_takeItem_120, e_Tr_takeItem_121, e_Tr_takeItem_122, e_Tr_takeItem_125, e_Tr_takeItem_126, e_Tr_takeItem_129, e_Tr_takeItem_130, e_Tr_takeItem_131, e_Tr_takeItem_132, e_Tr_takeItem_135, e_Tr_takeItem_136, e_Tr_takeItem_139, e_Tr_takeItem_141, e_Tr_takeItem_142, e_Tr_takeItem_143, e_Tr_takeItem_146, e_Tr_takeItem_147, e_Tr_takeItem_150, e_Tr_takeItem_152, e_Tr_takeItem_153, e_Tr_takeItem_154, e_Tr_takeItem_157, e_Tr_takeItem_158, e_Tr_takeItem_161, e_Tr_takeItem_163, e_Tr_takeItem_164, e_Tr_takeItem_165, e_Tr_takeItem_166, e_Tr_takeItem_169, e_Tr_takeItem_170, e_Tr_takeItem_171, e_Tr_takeItem_174, if_neg hf', if_neg h27, gI_self, gI_nt, gI_nj, gL_uI, gR_uI, gI_uL, gR_uL, gI_uR, gL_uR, wr_id]
theorem gd_67 (σ : aM) (s a b c d p : Int) (h : okT σ s) (hp : gI σ 19 0 6 = p) (hpp : 0 ≤ p ∧ p ≤ 880) (hf : gI σ 19 0 7 = -1) (hc : 0 ≤ gI σ 19 0 5 ∧ gI σ 19 0 5 < 27) (a6 : AV) : (¬ lts σ s p = 104 → ev 65 67 [aR 19 0, aR 2 s, aI a, aI b, aI c, aI d, a6] [] σ = some (none, kIt σ (a, b, c, d, 0))) ∧ (∀ p3 sh, lts σ s p = 104 → pNm (lts σ s) (p + 1) = .inl (p3, sh) → ev 65 67 [aR 19 0, aR 2 s, aI a, aI b, aI c, aI d, a6] [] σ = some (none, kIt (uI σ 19 0 6 p3) (a, b, c, d, sh))) ∧ (∀ k, lts σ s p = 104 → pNm (lts σ s) (p + 1) = .inr k → ∃ τ, ev 65 67 [aR 19 0, aR 2 s, aI a, aI b, aI c, aI d, a6] [] σ = some (none, τ) ∧ FrP σ τ ∧ gI τ 19 0 7 = k ∧ 0 ≤ k ∧ (0 ≤ gI τ 19 0 6 ∧ gI τ 19 0 6 ≤ 900)) := by
  have h1 := c_Tr_signAt σ s h (by omega)
  rw [hp] at h1
  refine ⟨fun c1 => ?_, fun p3 sh c1 hn => ?_, fun k c1 hn => ?_⟩
  · have h4 := gd_94 σ s a b c d 0 hf hc
    simp (disch := omega) only [e_Tr_takeItem_67, e_Tr_takeItem_68, e_Tr_takeItem_70, e_Tr_takeItem_71, e_Tr_takeItem_72, e_Tr_takeItem_75, e_Tr_takeItem_77, h1, evK_i, c1, not_false_eq_true, if_true, h4]
  all_goals
    have h2 := c_Tr_takeSign σ s 104 h (by omega)
    rw [kTb_ok hf hp (by omega)] at h2
    have o1 := okT_u h 6 (p + 1) (by omega)
    have f1 : gI (uI σ 19 0 6 (p + 1)) 19 0 7 = -1 := by simp (disch := omega) only [gI_self, gI_nt, gI_nj, gL_uI, gR_uI, gI_uL, gR_uL, gI_uR, gL_uR, hf]
    have q1 : gI (uI σ 19 0 6 (p + 1)) 19 0 6 = p + 1 := gI_self _ _ _ _ _
    have g1 : lts (uI σ 19 0 6 (p + 1)) s = lts σ s := funext fun z => lts_u σ s z _ _ (by omega)
    have hn' := hn
    rw [← g1] at hn'
  · have h3 := c_Tr_takeNumber_ok _ s (p + 1) p3 sh o1 q1 (by omega) f1 hn'
    rw [uI_uI] at h3
    have h4 := gd_94 (uI σ 19 0 6 p3) s a b c d sh (by simp (disch := omega) only [gI_self, gI_nt, gI_nj, gL_uI, gR_uI, gI_uL, gR_uL, gI_uR, gL_uR, hf]) (by simp (disch := omega) only [gI_self, gI_nt, gI_nj, gL_uI, gR_uI, gI_uL, gR_uL, gI_uR, gL_uR]; exact hc)
    simp (disch := omega) only [e_Tr_takeItem_67, e_Tr_takeItem_68, e_Tr_takeItem_70, e_Tr_takeItem_71, e_Tr_takeItem_72, e_Tr_takeItem_75, e_Tr_takeItem_77, h1, evK_i, evK_v, c1, not_true_eq_false, if_false, e_Tr_takeItem_80, e_Tr_takeItem_81, e_Tr_takeItem_82, e_Tr_takeItem_84, e_Tr_takeItem_87, e_Tr_takeItem_88, e_Tr_takeItem_89, e_Tr_takeItem_92, h2, h3, h4]
  · obtain ⟨x, τ, h3, k1, k2, k3, k4⟩ := c_Tr_takeNumber_no _ s (p + 1) k o1 q1 (by omega) f1 hn'
    have h4 := bd_94 τ s a b c d x (by rw [k2]; omega)
    refine ⟨τ, ?_, ((FrP.rfl σ).u _ _ (by omega)).trans k1, k2, by omega, by omega⟩
    simp (disch := omega) only [e_Tr_takeItem_67, e_Tr_takeItem_68, e_Tr_takeItem_70, e_Tr_takeItem_71, e_Tr_takeItem_72, e_Tr_takeItem_75, e_Tr_takeItem_77, h1, evK_i, evK_v, c1, not_true_eq_false, if_false, e_Tr_takeItem_80, e_Tr_takeItem_81, e_Tr_takeItem_82, e_Tr_takeItem_84, e_Tr_takeItem_87, e_Tr_takeItem_88, e_Tr_takeItem_89, e_Tr_takeItem_92, h2, h3, h4]
