/-! orders come, are altered; the auction's opening -/
theorem kBg_CO {σ : aM} {B : Int} (h : CO σ B) (c kd ow sd q p d : Int) (ho : 0 ≤ ow ∧ ow < 8) : CO (kBg σ c kd ow sd q p d) B := by
  obtain ⟨h1, h2, h3, h4⟩ := h
  unfold kBg
  refine ⟨by simp (disch := omega) only [gI_self, gI_nt, gI_nj, gL_uI, gR_uI, gI_uL, gR_uL, gI_uR, gL_uR]; exact h1, fun i hi hj => ?_, by simp (disch := omega) only [gI_self, gI_nt, gI_nj, gL_uI, gR_uI, gI_uL, gR_uL, gI_uR, gL_uR]; exact h3, by simp (disch := omega) only [gI_self, gI_nt, gI_nj, gL_uI, gR_uI, gI_uL, gR_uL, gI_uR, gL_uR]; exact h4⟩
  simp (disch := omega) only [gI_self, gI_nt, gI_nj, gL_uI, gR_uI, gI_uL, gR_uL, gI_uR, gL_uR]
  rw [gI_uI]
  split
  · exact ho
  · simp (disch := omega) only [gI_self, gI_nt, gI_nj, gL_uI, gR_uI, gI_uL, gR_uL, gI_uR, gL_uR]
    exact h2 i hi hj
theorem cnt_CO {σ : aM} {B : Int} (h : CO σ B) (h60 : gI σ 6 0 2 < 60) : CO (uI σ 6 0 2 (wr (gI σ 6 0 2 + 1))) B := by
  obtain ⟨h1, h2, h3, h4⟩ := h
  refine ⟨by rw [gI_self, wr_id (by omega) (by omega)]; omega, fun i hi hj => ?_, by simp (disch := omega) only [gI_self, gI_nt, gI_nj, gL_uI, gR_uI, gI_uL, gR_uL, gI_uR, gL_uR]; exact h3, by simp (disch := omega) only [gI_self, gI_nt, gI_nj, gL_uI, gR_uI, gI_uL, gR_uL, gI_uR, gL_uR]; exact h4⟩
  simp (disch := omega) only [gI_self, gI_nt, gI_nj, gL_uI, gR_uI, gI_uL, gR_uL, gI_uR, gL_uR]
  exact h2 i hi hj
/-- a new one, begun -/
def kNw (σ : aM) (kd ow sd q p d : Int) : aM := kBg (uI σ 6 0 2 (wr (gI σ 6 0 2 + 1))) (gI σ 6 0 2) kd ow sd q p d
theorem kNw_RG {σ : aM} (h : RG σ) (h0 : 0 ≤ gI σ 6 0 2 ∧ gI σ 6 0 2 < 60) (kd ow sd q p d : Int) (hq : 0 ≤ q ∧ q ≤ 999) (hp : 0 ≤ p ∧ p ≤ 999) (hd : 0 ≤ d ∧ d ≤ 999) : RG (kNw σ kd ow sd q p d) := by
  intro i hi hj
  unfold kNw kBg at hj ⊢
  have w1 : wr (gI σ 6 0 2 + 1) = gI σ 6 0 2 + 1 := wr_id (by omega) (by omega)
  simp (disch := omega) only [gI_self, gI_nt, gI_nj, gL_uI, gR_uI, gI_uL, gR_uL, gI_uR, gL_uR, w1] at hj
  by_cases hc : i = gI σ 6 0 2
  · subst hc
    simp (disch := omega) only [gI_self, gI_nt, gI_nj, gL_uI, gR_uI, gI_uL, gR_uL, gI_uR, gL_uR]
    exact ⟨hq, hp, hd⟩
  · have := h i hi (by omega)
    simp (disch := omega) only [gI_self, gI_nt, gI_nj, gL_uI, gR_uI, gI_uL, gR_uL, gI_uR, gL_uR, gI_ni]
    exact this
def kCm (σ : aM) (c kd how : Int) : aM := if kd = 4 then uI σ 8 c 5 0 else if kd = 3 then kRs σ c else if how = 0 then kEn σ c else kTr σ c how
def kBr (σ : aM) (kd ow sd q p d how : Int) : aM := kWs (kCm (kNw σ kd ow sd q p d) (gI σ 6 0 2) kd how)
theorem kCm_fr (σ : aM) (c kd how : Int) : Fr σ (kCm σ c kd how) := by
  unfold kCm
  split
  · exact (Fr.rfl σ).u (by simp [chg])
  · split
    · exact kRs_fr _ _
    · split
      · exact kEn_fr _ _
      · exact kTr_fr _ _ _
theorem kCm_CO {σ : aM} {B : Int} (h : CO σ B) (hB : B + 1059 < 2147483647) (c kd how : Int) : CO (kCm σ c kd how) (B + 1059) := by
  unfold kCm
  split
  · exact (uI5_CO h c 0).mono (by omega)
  · split
    · exact (h.same (kRs_fr _ _) (kRs_T _ _)).mono (by omega)
    · split
      · exact kEn_CO h hB c
      · exact kTr_CO h hB c how
theorem kNw_CO {σ : aM} {B : Int} (h : CO σ B) (h60 : gI σ 6 0 2 < 60) (kd ow sd q p d : Int) (ho : 0 ≤ ow ∧ ow < 8) : CO (kNw σ kd ow sd q p d) B := kBg_CO (cnt_CO h h60) _ kd ow sd q p d ho
theorem kBr_CO {σ : aM} {B : Int} (h : CO σ B) (h60 : gI σ 6 0 2 < 60) (hB : B + 64599 < 2147483647) (kd ow sd q p d how : Int) (ho : 0 ≤ ow ∧ ow < 8) : CO (kBr σ kd ow sd q p d how) (B + 64599) :=
  (kWs_CO (kCm_CO (kNw_CO h h60 kd ow sd q p d ho) (by omega) _ kd how) (by omega)).mono (by omega)
theorem kNw_num (σ : aM) (kd ow sd q p d i : Int) : gI (kNw σ kd ow sd q p d) 8 i 0 = gI σ 8 i 0 := by
  unfold kNw kBg
  simp (disch := omega) only [gI_self, gI_nt, gI_nj, gL_uI, gR_uI, gI_uL, gR_uL, gI_uR, gL_uR]
theorem kBr_num (σ : aM) (kd ow sd q p d how i : Int) : gI (kBr σ kd ow sd q p d how) 8 i 0 = gI σ 8 i 0 := by
  unfold kBr
  rw [(kWs_fr _).g (by simp [chg]), (kCm_fr _ _ _ _).g (by simp [chg]), kNw_num]
theorem c_Dk_bring (kd ow sd q p d how B : Int) (σ : aM) (h : CO σ B) (hr : RG σ) (h60 : gI σ 6 0 2 < 60) (hB : B + 64599 < 2147483647) (ho : 0 ≤ ow ∧ ow < 8) (hq : 0 ≤ q ∧ q ≤ 999) (hp : 0 ≤ p ∧ p ≤ 999) (hd : 0 ≤ d ∧ d ≤ 999) : ev 14 0 [aR 5 0, aI kd, aI ow, aI sd, aI q, aI p, aI d, aI how, aU] [] σ = some (some (aI (gI σ 8 (gI σ 6 0 2) 0)), kBr σ kd ow sd q p d how) := by
  have hc := h.1
  have h1 : ¬ 60 ≤ gI σ 6 0 2 := by omega
  have hN := kNw_CO h h60 kd ow sd q p d ho
  have hR : RG (kNw σ kd ow sd q p d) := kNw_RG hr ⟨hc.1, h60⟩ kd ow sd q p d hq hp hd
  have hen := c_Dk_enter (gI σ 6 0 2) B _ hN (by omega) (by omega) (by omega)
  have htr := c_Dk_tryAtOnce (gI σ 6 0 2) how B _ hN hR (by omega) (by omega) (by omega)
  have hwk := c_Dk_wakeStops (B + 1059) _ (kCm_CO hN (by omega) (gI σ 6 0 2) kd how) (by omega)
  have hnum := kBr_num σ kd ow sd q p d how (gI σ 6 0 2)
  unfold kBr at hnum ⊢
  have hbg := c_Ord_begin (gI σ 6 0 2) kd ow sd q p d (uI σ 6 0 2 (wr (gI σ 6 0 2 + 1)))
  rw [show kBg (uI σ 6 0 2 (wr (gI σ 6 0 2 + 1))) (gI σ 6 0 2) kd ow sd q p d = kNw σ kd ow sd q p d from rfl] at hbg
  unfold kCm at hwk hnum ⊢
  by_cases k4 : kd = 4
  · subst k4
    rw [if_pos rfl] at hwk hnum ⊢
    simp (disch := omega) only [e_Dk_bring_0, e_Dk_bring_1, e_Dk_bring_4, e_Dk_bring_7, e_Dk_bring_9, e_Dk_bring_12, e_Dk_bring_13, e_Dk_bring_14, e_Dk_bring_15, e_Dk_bring_18, e_Dk_bring_21, e_Dk_bring_22, e_Dk_bring_25, e_Dk_bring_28, e_Dk_bring_29, e_Dk_bring_31, e_Dk_bring_32, e_Dk_bring_35, e_Dk_bring_36, e_Dk_bring_39, e_Dk_bring_40, e_Dk_bring_41, e_Dk_bring_44, e_Dk_bring_46, e_Dk_bring_47, e_Dk_bring_48, e_Dk_bring_49, e_Dk_bring_51, e_Dk_bring_53, e_Dk_bring_55, e_Dk_bring_58, e_Dk_bring_59, e_Dk_bring_60, e_Dk_bring_63, e_Dk_bring_65, e_Dk_bring_66, e_Dk_bring_69, e_Dk_bring_72, e_Dk_bring_73, e_Dk_bring_74, e_Dk_bring_77, e_Dk_bring_78, e_Dk_bring_81, e_Dk_bring_83, e_Dk_bring_86, e_Dk_bring_89, e_Dk_bring_91, e_Dk_bring_94, e_Dk_bring_95, e_Dk_bring_97, e_Dk_bring_100, e_Dk_bring_103, e_Dk_bring_104, e_Dk_bring_106, e_Dk_bring_108, e_Dk_bring_111, e_Dk_bring_112, e_Dk_bring_115, e_Dk_bring_117, e_Dk_bring_120, if_pos h60, Int.mul_zero, Int.zero_add, hbg, evK_v, evK_i, not_true_eq_false, if_false, hwk, hnum]
  · rw [if_neg k4] at hwk hnum ⊢
    by_cases k3 : kd = 3
    · subst k3
      rw [if_pos rfl] at hwk hnum ⊢
      simp (disch := omega) only [e_Dk_bring_0, e_Dk_bring_1, e_Dk_bring_4, e_Dk_bring_7, e_Dk_bring_9, e_Dk_bring_12, e_Dk_bring_13, e_Dk_bring_14, e_Dk_bring_15, e_Dk_bring_18, e_Dk_bring_21, e_Dk_bring_22, e_Dk_bring_25, e_Dk_bring_28, e_Dk_bring_29, e_Dk_bring_31, e_Dk_bring_32, e_Dk_bring_35, e_Dk_bring_36, e_Dk_bring_39, e_Dk_bring_40, e_Dk_bring_41, e_Dk_bring_44, e_Dk_bring_46, e_Dk_bring_47, e_Dk_bring_48, e_Dk_bring_49, e_Dk_bring_51, e_Dk_bring_53, e_Dk_bring_55, e_Dk_bring_58, e_Dk_bring_59, e_Dk_bring_60, e_Dk_bring_63, e_Dk_bring_65, e_Dk_bring_66, e_Dk_bring_69, e_Dk_bring_72, e_Dk_bring_73, e_Dk_bring_74, e_Dk_bring_77, e_Dk_bring_78, e_Dk_bring_81, e_Dk_bring_83, e_Dk_bring_86, e_Dk_bring_89, e_Dk_bring_91, e_Dk_bring_94, e_Dk_bring_95, e_Dk_bring_97, e_Dk_bring_100, e_Dk_bring_103, e_Dk_bring_104, e_Dk_bring_106, e_Dk_bring_108, e_Dk_bring_111, e_Dk_bring_112, e_Dk_bring_115, e_Dk_bring_117, e_Dk_bring_120, if_pos h60, Int.mul_zero, Int.zero_add, hbg, evK_v, evK_i, k4, not_true_eq_false, not_false_eq_true, if_true, if_false, c_Bk_rest, hwk, hnum]
    · rw [if_neg k3] at hwk hnum ⊢
      by_cases k0 : how = 0
      · rw [if_pos k0] at hwk hnum ⊢
        simp (disch := omega) only [e_Dk_bring_0, e_Dk_bring_1, e_Dk_bring_4, e_Dk_bring_7, e_Dk_bring_9, e_Dk_bring_12, e_Dk_bring_13, e_Dk_bring_14, e_Dk_bring_15, e_Dk_bring_18, e_Dk_bring_21, e_Dk_bring_22, e_Dk_bring_25, e_Dk_bring_28, e_Dk_bring_29, e_Dk_bring_31, e_Dk_bring_32, e_Dk_bring_35, e_Dk_bring_36, e_Dk_bring_39, e_Dk_bring_40, e_Dk_bring_41, e_Dk_bring_44, e_Dk_bring_46, e_Dk_bring_47, e_Dk_bring_48, e_Dk_bring_49, e_Dk_bring_51, e_Dk_bring_53, e_Dk_bring_55, e_Dk_bring_58, e_Dk_bring_59, e_Dk_bring_60, e_Dk_bring_63, e_Dk_bring_65, e_Dk_bring_66, e_Dk_bring_69, e_Dk_bring_72, e_Dk_bring_73, e_Dk_bring_74, e_Dk_bring_77, e_Dk_bring_78, e_Dk_bring_81, e_Dk_bring_83, e_Dk_bring_86, e_Dk_bring_89, e_Dk_bring_91, e_Dk_bring_94, e_Dk_bring_95, e_Dk_bring_97, e_Dk_bring_100, e_Dk_bring_103, e_Dk_bring_104, e_Dk_bring_106, e_Dk_bring_108, e_Dk_bring_111, e_Dk_bring_112, e_Dk_bring_115, e_Dk_bring_117, e_Dk_bring_120, if_pos h60, Int.mul_zero, Int.zero_add, hbg, evK_v, evK_i, k4, k3, k0, not_true_eq_false, not_false_eq_true, if_true, if_false, hen, hwk, hnum]
      · rw [if_neg k0] at hwk hnum ⊢
        simp (disch := omega) only [e_Dk_bring_0, e_Dk_bring_1, e_Dk_bring_4, e_Dk_bring_7, e_Dk_bring_9, e_Dk_bring_12, e_Dk_bring_13, e_Dk_bring_14, e_Dk_bring_15, e_Dk_bring_18, e_Dk_bring_21, e_Dk_bring_22, e_Dk_bring_25, e_Dk_bring_28, e_Dk_bring_29, e_Dk_bring_31, e_Dk_bring_32, e_Dk_bring_35, e_Dk_bring_36, e_Dk_bring_39, e_Dk_bring_40, e_Dk_bring_41, e_Dk_bring_44, e_Dk_bring_46, e_Dk_bring_47, e_Dk_bring_48, e_Dk_bring_49, e_Dk_bring_51, e_Dk_bring_53, e_Dk_bring_55, e_Dk_bring_58, e_Dk_bring_59, e_Dk_bring_60, e_Dk_bring_63, e_Dk_bring_65, e_Dk_bring_66, e_Dk_bring_69, e_Dk_bring_72, e_Dk_bring_73, e_Dk_bring_74, e_Dk_bring_77, e_Dk_bring_78, e_Dk_bring_81, e_Dk_bring_83, e_Dk_bring_86, e_Dk_bring_89, e_Dk_bring_91, e_Dk_bring_94, e_Dk_bring_95, e_Dk_bring_97, e_Dk_bring_100, e_Dk_bring_103, e_Dk_bring_104, e_Dk_bring_106, e_Dk_bring_108, e_Dk_bring_111, e_Dk_bring_112, e_Dk_bring_115, e_Dk_bring_117, e_Dk_bring_120, if_pos h60, Int.mul_zero, Int.zero_add, hbg, evK_v, evK_i, k4, k3, k0, not_true_eq_false, not_false_eq_true, if_true, if_false, htr, hwk, hnum]
theorem c_Dk_bring60 (kd ow sd q p d how : Int) (σ : aM) (h60 : 60 ≤ gI σ 6 0 2) : ev 14 0 [aR 5 0, aI kd, aI ow, aI sd, aI q, aI p, aI d, aI how, aU] [] σ = some (some (aI (-1)), σ) := by
  have h1 : ¬ gI σ 6 0 2 < 60 := by omega
  simp (disch := omega) only [e_Dk_bring_0, e_Dk_bring_1, e_Dk_bring_4, e_Dk_bring_7, e_Dk_bring_9, e_Dk_bring_12, e_Dk_bring_13, e_Dk_bring_14, e_Dk_bring_15, e_Dk_bring_18, e_Dk_bring_21, e_Dk_bring_22, e_Dk_bring_25, e_Dk_bring_28, e_Dk_bring_29, e_Dk_bring_31, e_Dk_bring_32, e_Dk_bring_35, e_Dk_bring_36, e_Dk_bring_39, e_Dk_bring_40, e_Dk_bring_41, e_Dk_bring_44, e_Dk_bring_46, e_Dk_bring_47, e_Dk_bring_48, e_Dk_bring_49, e_Dk_bring_51, e_Dk_bring_53, e_Dk_bring_55, e_Dk_bring_58, e_Dk_bring_59, e_Dk_bring_60, e_Dk_bring_63, e_Dk_bring_65, e_Dk_bring_66, e_Dk_bring_69, e_Dk_bring_72, e_Dk_bring_73, e_Dk_bring_74, e_Dk_bring_77, e_Dk_bring_78, e_Dk_bring_81, e_Dk_bring_83, e_Dk_bring_86, e_Dk_bring_89, e_Dk_bring_91, e_Dk_bring_94, e_Dk_bring_95, e_Dk_bring_97, e_Dk_bring_100, e_Dk_bring_103, e_Dk_bring_104, e_Dk_bring_106, e_Dk_bring_108, e_Dk_bring_111, e_Dk_bring_112, e_Dk_bring_115, e_Dk_bring_117, e_Dk_bring_120, if_neg h1]
def kP1 (σ : aM) (ow sd q : Int) : aM := kGo 1059 (kBg σ 120 0 ow sd q 0 0) 120 (if sd = 0 then 999 else 1)
def kPs (σ : aM) (ow sd q : Int) : aM := kWs (kP1 σ ow sd q)
theorem c_Dk_pass (ow sd q B : Int) (σ : aM) (h : CO σ B) (hB : B + 64599 < 2147483647) (ho : 0 ≤ ow ∧ ow < 8) : ev 15 0 [aR 5 0, aI ow, aI sd, aI q] [] σ = some (some (aI (gI (kPs σ ow sd q) 8 120 6)), kPs σ ow sd q) := by
  have hN := kBg_CO h 120 0 ow sd q 0 0 ho
  have hg := c_Dk_goIn 120 (if sd = 0 then 999 else 1) B _ hN (by omega) (by omega) (by omega)
  have hw := c_Dk_wakeStops (B + 1059) _ (kGo_CO 1059 _ 120 (if sd = 0 then 999 else 1) _ hN (by omega)) (by omega)
  unfold kPs kP1
  simp (disch := omega) only [e_Dk_pass_0, e_Dk_pass_1, e_Dk_pass_4, e_Dk_pass_5, e_Dk_pass_6, e_Dk_pass_7, e_Dk_pass_8, e_Dk_pass_9, e_Dk_pass_10, e_Dk_pass_13, e_Dk_pass_14, e_Dk_pass_15, e_Dk_pass_18, e_Dk_pass_19, e_Dk_pass_22, e_Dk_pass_25, e_Dk_pass_26, e_Dk_pass_29, e_Dk_pass_30, e_Dk_pass_33, e_Dk_pass_36, c_Ord_begin, c_Dk_noLimit, evK_v, evK_i, hg, hw]
theorem kPs_CO {σ : aM} {B : Int} (h : CO σ B) (hB : B + 64599 < 2147483647) (ow sd q : Int) (ho : 0 ≤ ow ∧ ow < 8) : CO (kPs σ ow sd q) (B + 64599) :=
  (kWs_CO (kGo_CO 1059 _ 120 _ _ (kBg_CO h 120 0 ow sd q 0 0 ho) (by omega)) (by omega)).mono (by omega)
def kA1 (σ : aM) (i q p : Int) : aM := if gI σ 8 i 1 = 4 then uI (uI σ 8 i 4 q) 8 i 7 p else if p = gI σ 8 i 7 ∧ q ≤ gI σ 8 i 4 then kLs σ i q else kEn (uI (uI (uI σ 8 i 4 q) 8 i 7 p) 8 i 5 4) i
def kAl (σ : aM) (i q p : Int) : aM := kWs (kA1 σ i q p)
theorem pr_CO {σ : aM} {B : Int} (h : CO σ B) (i q p : Int) : CO (uI (uI σ 8 i 4 q) 8 i 7 p) B := by
  obtain ⟨h1, h2, h3, h4⟩ := h
  refine ⟨by simp (disch := omega) only [gI_self, gI_nt, gI_nj, gL_uI, gR_uI, gI_uL, gR_uL, gI_uR, gL_uR]; exact h1, fun j hi hj => ?_, by simp (disch := omega) only [gI_self, gI_nt, gI_nj, gL_uI, gR_uI, gI_uL, gR_uL, gI_uR, gL_uR]; exact h3, by simp (disch := omega) only [gI_self, gI_nt, gI_nj, gL_uI, gR_uI, gI_uL, gR_uL, gI_uR, gL_uR]; exact h4⟩
  simp (disch := omega) only [gI_self, gI_nt, gI_nj, gL_uI, gR_uI, gI_uL, gR_uL, gI_uR, gL_uR]
  exact h2 j hi hj
theorem kA1_CO {σ : aM} {B : Int} (h : CO σ B) (hB : B + 1059 < 2147483647) (i q p : Int) : CO (kA1 σ i q p) (B + 1059) := by
  unfold kA1
  split
  · exact (pr_CO h i q p).mono (by omega)
  · split
    · exact (h.same (kLs_fr _ _ _) (kLs_T _ _ _)).mono (by omega)
    · exact kEn_CO (uI5_CO (pr_CO h i q p) i 4) hB i
theorem c_Dk_alter (i q p B : Int) (σ : aM) (h : CO σ B) (hB : B + 64599 < 2147483647) (hi0 : 0 ≤ i) (hi1 : i ≤ 120) : ev 16 0 [aR 5 0, aR 8 i, aI q, aI p] [] σ = some (none, kAl σ i q p) := by
  have hen := c_Dk_enter i B _ (uI5_CO (pr_CO h i q p) i 4) (by omega) hi0 hi1
  have hwk := c_Dk_wakeStops (B + 1059) _ (kA1_CO h (by omega) i q p) (by omega)
  unfold kAl
  unfold kA1 at hwk ⊢
  by_cases k4 : gI σ 8 i 1 = 4
  · rw [if_pos k4] at hwk ⊢
    simp (disch := omega) only [e_Dk_alter_0, e_Dk_alter_1, e_Dk_alter_4, e_Dk_alter_5, e_Dk_alter_8, e_Dk_alter_9, e_Dk_alter_10, e_Dk_alter_13, e_Dk_alter_14, e_Dk_alter_15, e_Dk_alter_18, e_Dk_alter_21, e_Dk_alter_22, e_Dk_alter_23, e_Dk_alter_26, e_Dk_alter_29, e_Dk_alter_30, e_Dk_alter_31, e_Dk_alter_34, e_Dk_alter_37, e_Dk_alter_38, e_Dk_alter_39, e_Dk_alter_42, e_Dk_alter_45, e_Dk_alter_46, e_Dk_alter_47, e_Dk_alter_50, e_Dk_alter_51, e_Dk_alter_52, e_Dk_alter_55, e_Dk_alter_56, e_Dk_alter_57, e_Dk_alter_60, e_Dk_alter_61, e_Dk_alter_62, e_Dk_alter_65, e_Dk_alter_66, e_Dk_alter_69, k4, not_true_eq_false, if_false, evK_v, hwk]
  · rw [if_neg k4] at hwk ⊢
    by_cases kp : p = gI σ 8 i 7
    · by_cases kq : q ≤ gI σ 8 i 4
      · rw [if_pos ⟨kp, kq⟩] at hwk ⊢
        have kq' : ¬ gI σ 8 i 4 < q := by omega
        simp (disch := omega) only [e_Dk_alter_0, e_Dk_alter_1, e_Dk_alter_4, e_Dk_alter_5, e_Dk_alter_8, e_Dk_alter_9, e_Dk_alter_10, e_Dk_alter_13, e_Dk_alter_14, e_Dk_alter_15, e_Dk_alter_18, e_Dk_alter_21, e_Dk_alter_22, e_Dk_alter_23, e_Dk_alter_26, e_Dk_alter_29, e_Dk_alter_30, e_Dk_alter_31, e_Dk_alter_34, e_Dk_alter_37, e_Dk_alter_38, e_Dk_alter_39, e_Dk_alter_42, e_Dk_alter_45, e_Dk_alter_46, e_Dk_alter_47, e_Dk_alter_50, e_Dk_alter_51, e_Dk_alter_52, e_Dk_alter_55, e_Dk_alter_56, e_Dk_alter_57, e_Dk_alter_60, e_Dk_alter_61, e_Dk_alter_62, e_Dk_alter_65, e_Dk_alter_66, e_Dk_alter_69, k4, ← kp, if_neg kq', not_true_eq_false, not_false_eq_true, if_true, if_false, evK_v, c_Ord_lessenTo, hwk]
      · rw [if_neg (fun z => kq z.2)] at hwk ⊢
        have kq' : gI σ 8 i 4 < q := by omega
        simp (disch := omega) only [e_Dk_alter_0, e_Dk_alter_1, e_Dk_alter_4, e_Dk_alter_5, e_Dk_alter_8, e_Dk_alter_9, e_Dk_alter_10, e_Dk_alter_13, e_Dk_alter_14, e_Dk_alter_15, e_Dk_alter_18, e_Dk_alter_21, e_Dk_alter_22, e_Dk_alter_23, e_Dk_alter_26, e_Dk_alter_29, e_Dk_alter_30, e_Dk_alter_31, e_Dk_alter_34, e_Dk_alter_37, e_Dk_alter_38, e_Dk_alter_39, e_Dk_alter_42, e_Dk_alter_45, e_Dk_alter_46, e_Dk_alter_47, e_Dk_alter_50, e_Dk_alter_51, e_Dk_alter_52, e_Dk_alter_55, e_Dk_alter_56, e_Dk_alter_57, e_Dk_alter_60, e_Dk_alter_61, e_Dk_alter_62, e_Dk_alter_65, e_Dk_alter_66, e_Dk_alter_69, k4, ← kp, if_pos kq', not_true_eq_false, not_false_eq_true, if_true, if_false, evK_v, hen, hwk]
    · rw [if_neg (fun z => kp z.1)] at hwk ⊢
      simp (disch := omega) only [e_Dk_alter_0, e_Dk_alter_1, e_Dk_alter_4, e_Dk_alter_5, e_Dk_alter_8, e_Dk_alter_9, e_Dk_alter_10, e_Dk_alter_13, e_Dk_alter_14, e_Dk_alter_15, e_Dk_alter_18, e_Dk_alter_21, e_Dk_alter_22, e_Dk_alter_23, e_Dk_alter_26, e_Dk_alter_29, e_Dk_alter_30, e_Dk_alter_31, e_Dk_alter_34, e_Dk_alter_37, e_Dk_alter_38, e_Dk_alter_39, e_Dk_alter_42, e_Dk_alter_45, e_Dk_alter_46, e_Dk_alter_47, e_Dk_alter_50, e_Dk_alter_51, e_Dk_alter_52, e_Dk_alter_55, e_Dk_alter_56, e_Dk_alter_57, e_Dk_alter_60, e_Dk_alter_61, e_Dk_alter_62, e_Dk_alter_65, e_Dk_alter_66, e_Dk_alter_69, k4, kp, not_true_eq_false, not_false_eq_true, if_true, if_false, evK_v, hen, hwk]
/-- one trade of the opening -/
def opQ (σ : aM) (u x z : Int) : Int := if (if gI σ 8 z 4 < gI σ 8 x 4 then gI σ 8 z 4 else gI σ 8 x 4) < u then (if gI σ 8 z 4 < gI σ 8 x 4 then gI σ 8 z 4 else gI σ 8 x 4) else u
def kO1 (σ : aM) (u p x z : Int) : aM := kSh (kSh (kTa σ x z p (opQ σ u x z)) x) z
def kOp : Nat → aM → Int → Int → aM
  | 0, σ, _, _ => σ
  | n + 1, σ, u, p => if u ≤ 0 then σ else match frs σ 0, frs σ 1 with
    | some x, some z => kOp n (kO1 σ u p x z) (wr (u - opQ σ u x z)) p
    | _, _ => σ
theorem kO1_fr (σ : aM) (u p x z : Int) : Fr σ (kO1 σ u p x z) := ((kTa_fr _ _ _ _ _).trans (kSh_fr _ _)).trans (kSh_fr _ _)
theorem kO1_T (σ : aM) (u p x z : Int) : gI (kO1 σ u p x z) 9 0 3 = wr (gI σ 9 0 3 + 1) := by
  unfold kO1
  rw [kSh_T, kSh_T, kTa_T]
theorem kO1_CO {σ : aM} {B : Int} (h : CO σ B) (hB : B < 2147483647) (u p x z : Int) : CO (kO1 σ u p x z) (B + 1) := by
  have hT := h.2.2
  have e : gI (kO1 σ u p x z) 9 0 3 = gI σ 9 0 3 + 1 := by rw [kO1_T, wr_id (by omega) (by omega)]
  exact h.to (kO1_fr _ _ _ _ _) (by omega) (by omega)
theorem kOp_fr : ∀ (n : Nat) (σ : aM) (u p : Int), Fr σ (kOp n σ u p) := by
  intro n
  induction n with
  | zero => intro σ u p; exact Fr.rfl σ
  | succ n ih =>
    intro σ u p
    rw [kOp]
    split
    · exact Fr.rfl σ
    · split
      · exact (kO1_fr _ _ _ _ _).trans (ih _ _ _)
      · exact Fr.rfl σ
theorem kOp_CO : ∀ (n : Nat) (σ : aM) (u p B : Int), CO σ B → B + n < 2147483647 → CO (kOp n σ u p) (B + n) := by
  intro n
  induction n with
  | zero => intro σ u p B h _; exact h.mono (by omega)
  | succ n ih =>
    intro σ u p B h hB
    rw [kOp]
    split
    · exact h.mono (by omega)
    · split
      · rename_i x z _ _
        exact (ih _ _ p (B + 1) (kO1_CO h (by omega) u p x z) (by omega)).mono (by omega)
      · exact h.mono (by omega)
def kOn (σ : aM) (p v : Int) : aM := kWs (uI (kOp 60 σ v p) 6 0 3 1)
theorem ph_CO {σ : aM} {B : Int} (h : CO σ B) (v : Int) : CO (uI σ 6 0 3 v) B := by
  obtain ⟨h1, h2, h3, h4⟩ := h
  refine ⟨by simp (disch := omega) only [gI_self, gI_nt, gI_nj, gL_uI, gR_uI, gI_uL, gR_uL, gI_uR, gL_uR]; exact h1, fun j hi hj => ?_, by simp (disch := omega) only [gI_self, gI_nt, gI_nj, gL_uI, gR_uI, gI_uL, gR_uL, gI_uR, gL_uR]; exact h3, by simp (disch := omega) only [gI_self, gI_nt, gI_nj, gL_uI, gR_uI, gI_uL, gR_uL, gI_uR, gL_uR]; exact h4⟩
  simp (disch := omega) only [gI_self, gI_nt, gI_nj, gL_uI, gR_uI, gI_uL, gR_uL, gI_uR, gL_uR]
  exact h2 j hi hj
theorem l_Dk_open (p v : Int) : ∀ (n : Nat) (σ : aM) (u i B : Int) (a5 a6 a7 : AV), CO σ B → B + n + 63540 < 2147483647 → 0 ≤ i → i + n = 60 → ev 17 5 [aR 5 0, aI p, aI v, aI u, aI i, a5, a6, a7] [] σ = some (none, kWs (uI (kOp n σ u p) 6 0 3 1)) := by
  intro n
  induction n with
  | zero =>
    intro σ u i B a5 a6 a7 h hB h0 h1
    have hle : 60 ≤ i := by omega
    have hw := c_Dk_wakeStops B _ (ph_CO h 1) (by omega)
    rw [e_Dk_open_5]
    simp (disch := omega) only [e_Dk_open_0, e_Dk_open_1, e_Dk_open_2, e_Dk_open_3, e_Dk_open_7, e_Dk_open_9, e_Dk_open_12, e_Dk_open_13, e_Dk_open_16, e_Dk_open_17, e_Dk_open_20, e_Dk_open_21, e_Dk_open_24, e_Dk_open_26, e_Dk_open_27, e_Dk_open_30, e_Dk_open_31, e_Dk_open_34, e_Dk_open_36, e_Dk_open_38, e_Dk_open_41, e_Dk_open_43, e_Dk_open_46, e_Dk_open_49, e_Dk_open_50, e_Dk_open_52, e_Dk_open_55, e_Dk_open_57, e_Dk_open_60, e_Dk_open_63, e_Dk_open_66, e_Dk_open_68, e_Dk_open_69, e_Dk_open_71, e_Dk_open_73, e_Dk_open_74, e_Dk_open_76, e_Dk_open_79, e_Dk_open_81, e_Dk_open_84, e_Dk_open_86, e_Dk_open_89, e_Dk_open_90, e_Dk_open_92, e_Dk_open_93, e_Dk_open_94, e_Dk_open_97, e_Dk_open_100, e_Dk_open_101, e_Dk_open_104, e_Dk_open_105, e_Dk_open_108, e_Dk_open_109, e_Dk_open_112, if_pos hle, hw, evK_v]
    rfl
  | succ n ih =>
    intro σ u i B a5 a6 a7 h hB h0 h1
    have hle : ¬ 60 ≤ i := by omega
    have hc := h.1
    have hT := h.2.2.1
    have hw := c_Dk_wakeStops B _ (ph_CO h 1) (by omega)
    rw [e_Dk_open_5, kOp]
    by_cases hu : u ≤ 0
    · rw [if_pos hu]
      simp (disch := omega) only [e_Dk_open_0, e_Dk_open_1, e_Dk_open_2, e_Dk_open_3, e_Dk_open_7, e_Dk_open_9, e_Dk_open_12, e_Dk_open_13, e_Dk_open_16, e_Dk_open_17, e_Dk_open_20, e_Dk_open_21, e_Dk_open_24, e_Dk_open_26, e_Dk_open_27, e_Dk_open_30, e_Dk_open_31, e_Dk_open_34, e_Dk_open_36, e_Dk_open_38, e_Dk_open_41, e_Dk_open_43, e_Dk_open_46, e_Dk_open_49, e_Dk_open_50, e_Dk_open_52, e_Dk_open_55, e_Dk_open_57, e_Dk_open_60, e_Dk_open_63, e_Dk_open_66, e_Dk_open_68, e_Dk_open_69, e_Dk_open_71, e_Dk_open_73, e_Dk_open_74, e_Dk_open_76, e_Dk_open_79, e_Dk_open_81, e_Dk_open_84, e_Dk_open_86, e_Dk_open_89, e_Dk_open_90, e_Dk_open_92, e_Dk_open_93, e_Dk_open_94, e_Dk_open_97, e_Dk_open_100, e_Dk_open_101, e_Dk_open_104, e_Dk_open_105, e_Dk_open_108, e_Dk_open_109, e_Dk_open_112, if_neg hle, if_pos hu, hw, evK_v]
    · rw [if_neg hu]
      cases hx : frs σ 0 with
      | none =>
        cases hz : frs σ 1 with
        | none => simp (disch := omega) only [e_Dk_open_0, e_Dk_open_1, e_Dk_open_2, e_Dk_open_3, e_Dk_open_7, e_Dk_open_9, e_Dk_open_12, e_Dk_open_13, e_Dk_open_16, e_Dk_open_17, e_Dk_open_20, e_Dk_open_21, e_Dk_open_24, e_Dk_open_26, e_Dk_open_27, e_Dk_open_30, e_Dk_open_31, e_Dk_open_34, e_Dk_open_36, e_Dk_open_38, e_Dk_open_41, e_Dk_open_43, e_Dk_open_46, e_Dk_open_49, e_Dk_open_50, e_Dk_open_52, e_Dk_open_55, e_Dk_open_57, e_Dk_open_60, e_Dk_open_63, e_Dk_open_66, e_Dk_open_68, e_Dk_open_69, e_Dk_open_71, e_Dk_open_73, e_Dk_open_74, e_Dk_open_76, e_Dk_open_79, e_Dk_open_81, e_Dk_open_84, e_Dk_open_86, e_Dk_open_89, e_Dk_open_90, e_Dk_open_92, e_Dk_open_93, e_Dk_open_94, e_Dk_open_97, e_Dk_open_100, e_Dk_open_101, e_Dk_open_104, e_Dk_open_105, e_Dk_open_108, e_Dk_open_109, e_Dk_open_112, if_neg hle, if_neg hu, c_Bk_firstOn, evK_i, evK_v, hx, hz, Option.map_none, if_true, hw]
        | some z => simp (disch := omega) only [e_Dk_open_0, e_Dk_open_1, e_Dk_open_2, e_Dk_open_3, e_Dk_open_7, e_Dk_open_9, e_Dk_open_12, e_Dk_open_13, e_Dk_open_16, e_Dk_open_17, e_Dk_open_20, e_Dk_open_21, e_Dk_open_24, e_Dk_open_26, e_Dk_open_27, e_Dk_open_30, e_Dk_open_31, e_Dk_open_34, e_Dk_open_36, e_Dk_open_38, e_Dk_open_41, e_Dk_open_43, e_Dk_open_46, e_Dk_open_49, e_Dk_open_50, e_Dk_open_52, e_Dk_open_55, e_Dk_open_57, e_Dk_open_60, e_Dk_open_63, e_Dk_open_66, e_Dk_open_68, e_Dk_open_69, e_Dk_open_71, e_Dk_open_73, e_Dk_open_74, e_Dk_open_76, e_Dk_open_79, e_Dk_open_81, e_Dk_open_84, e_Dk_open_86, e_Dk_open_89, e_Dk_open_90, e_Dk_open_92, e_Dk_open_93, e_Dk_open_94, e_Dk_open_97, e_Dk_open_100, e_Dk_open_101, e_Dk_open_104, e_Dk_open_105, e_Dk_open_108, e_Dk_open_109, e_Dk_open_112, if_neg hle, if_neg hu, c_Bk_firstOn, evK_i, evK_v, hx, hz, Option.map_none, if_true, hw]
      | some x =>
        cases hz : frs σ 1 with
        | none => simp (disch := omega) only [e_Dk_open_0, e_Dk_open_1, e_Dk_open_2, e_Dk_open_3, e_Dk_open_7, e_Dk_open_9, e_Dk_open_12, e_Dk_open_13, e_Dk_open_16, e_Dk_open_17, e_Dk_open_20, e_Dk_open_21, e_Dk_open_24, e_Dk_open_26, e_Dk_open_27, e_Dk_open_30, e_Dk_open_31, e_Dk_open_34, e_Dk_open_36, e_Dk_open_38, e_Dk_open_41, e_Dk_open_43, e_Dk_open_46, e_Dk_open_49, e_Dk_open_50, e_Dk_open_52, e_Dk_open_55, e_Dk_open_57, e_Dk_open_60, e_Dk_open_63, e_Dk_open_66, e_Dk_open_68, e_Dk_open_69, e_Dk_open_71, e_Dk_open_73, e_Dk_open_74, e_Dk_open_76, e_Dk_open_79, e_Dk_open_81, e_Dk_open_84, e_Dk_open_86, e_Dk_open_89, e_Dk_open_90, e_Dk_open_92, e_Dk_open_93, e_Dk_open_94, e_Dk_open_97, e_Dk_open_100, e_Dk_open_101, e_Dk_open_104, e_Dk_open_105, e_Dk_open_108, e_Dk_open_109, e_Dk_open_112, if_neg hle, if_neg hu, c_Bk_firstOn, evK_i, evK_v, hx, hz, Option.map_none, Option.map_some, reduceCtorEq, not_true_eq_false, if_true, if_false, hw]
        | some z =>
          have hxi := frs_in hc.1 hx
          have hzi := frs_in hc.1 hz
          have hox := h.2.1 x (by omega) (by omega)
          have hoz := h.2.1 z (by omega) (by omega)
          have ih' := fun a5 a6 a7 => ih (kO1 σ u p x z) (wr (u - opQ σ u x z)) (i + 1) (B + 1) a5 a6 a7 (kO1_CO h (by omega) u p x z) (by omega) (by omega) (by omega)
          unfold kO1 opQ at ih'
          simp (disch := omega) only [e_Dk_open_0, e_Dk_open_1, e_Dk_open_2, e_Dk_open_3, e_Dk_open_7, e_Dk_open_9, e_Dk_open_12, e_Dk_open_13, e_Dk_open_16, e_Dk_open_17, e_Dk_open_20, e_Dk_open_21, e_Dk_open_24, e_Dk_open_26, e_Dk_open_27, e_Dk_open_30, e_Dk_open_31, e_Dk_open_34, e_Dk_open_36, e_Dk_open_38, e_Dk_open_41, e_Dk_open_43, e_Dk_open_46, e_Dk_open_49, e_Dk_open_50, e_Dk_open_52, e_Dk_open_55, e_Dk_open_57, e_Dk_open_60, e_Dk_open_63, e_Dk_open_66, e_Dk_open_68, e_Dk_open_69, e_Dk_open_71, e_Dk_open_73, e_Dk_open_74, e_Dk_open_76, e_Dk_open_79, e_Dk_open_81, e_Dk_open_84, e_Dk_open_86, e_Dk_open_89, e_Dk_open_90, e_Dk_open_92, e_Dk_open_93, e_Dk_open_94, e_Dk_open_97, e_Dk_open_100, e_Dk_open_101, e_Dk_open_104, e_Dk_open_105, e_Dk_open_108, e_Dk_open_109, e_Dk_open_112, if_neg hle, if_neg hu, c_Bk_firstOn, evK_i, evK_v, hx, hz, Option.map_some, reduceCtorEq, not_false_eq_true, if_true, if_false, c_Dk_tradeAway, c_Ord_showAnew, wr_id, ih']
          rfl
theorem c_Dk_open (p v B : Int) (σ : aM) (h : CO σ B) (hB : B + 63600 < 2147483647) : ev 17 0 [aR 5 0, aI p, aI v, aU, aU, aU, aU, aU] [] σ = some (none, kOn σ p v) := by
  have hl := fun a5 a6 a7 => l_Dk_open p v 60 σ v 0 B a5 a6 a7 h (by omega) (by omega) (by omega)
  unfold kOn
  simp (disch := omega) only [e_Dk_open_0, e_Dk_open_1, e_Dk_open_2, e_Dk_open_3, e_Dk_open_7, e_Dk_open_9, e_Dk_open_12, e_Dk_open_13, e_Dk_open_16, e_Dk_open_17, e_Dk_open_20, e_Dk_open_21, e_Dk_open_24, e_Dk_open_26, e_Dk_open_27, e_Dk_open_30, e_Dk_open_31, e_Dk_open_34, e_Dk_open_36, e_Dk_open_38, e_Dk_open_41, e_Dk_open_43, e_Dk_open_46, e_Dk_open_49, e_Dk_open_50, e_Dk_open_52, e_Dk_open_55, e_Dk_open_57, e_Dk_open_60, e_Dk_open_63, e_Dk_open_66, e_Dk_open_68, e_Dk_open_69, e_Dk_open_71, e_Dk_open_73, e_Dk_open_74, e_Dk_open_76, e_Dk_open_79, e_Dk_open_81, e_Dk_open_84, e_Dk_open_86, e_Dk_open_89, e_Dk_open_90, e_Dk_open_92, e_Dk_open_93, e_Dk_open_94, e_Dk_open_97, e_Dk_open_100, e_Dk_open_101, e_Dk_open_104, e_Dk_open_105, e_Dk_open_108, e_Dk_open_109, e_Dk_open_112, hl]
