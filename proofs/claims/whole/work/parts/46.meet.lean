/-! own orders meet; the reference's losses -/
theorem g_kLb (σ : aM) (x q : Int) (t : Nat) (i j : Int) : gI (kLb σ x q) t i j = if t = 8 ∧ i = x ∧ j = 4 then wr (gI σ 8 x 4 - q) else if t = 8 ∧ i = x ∧ j = 9 then (if wr (gI σ 8 x 4 - q) < gI σ 8 x 9 then wr (gI σ 8 x 4 - q) else gI σ 8 x 9) else if t = 8 ∧ i = x ∧ j = 5 ∧ wr (gI σ 8 x 4 - q) = 0 then 3 else gI σ t i j := by
  unfold kLb kLs
  by_cases c : wr (gI σ 8 x 4 - q) = 0
  · rw [if_pos c]
    by_cases h : t = 8 ∧ i = x
    · obtain ⟨h1, h2⟩ := h
      subst h1; subst h2
      by_cases j4 : j = 4
      · subst j4; simp (disch := omega) only [gI_self, gI_nt, gI_nj, gL_uI, gR_uI, gI_uL, gR_uL, gI_uR, gL_uR]; simp
      · by_cases j9 : j = 9
        · subst j9; simp (disch := omega) only [gI_self, gI_nt, gI_nj, gL_uI, gR_uI, gI_uL, gR_uL, gI_uR, gL_uR]; simp
        · by_cases j5 : j = 5
          · subst j5; simp (disch := omega) only [gI_self, gI_nt, gI_nj, gL_uI, gR_uI, gI_uL, gR_uL, gI_uR, gL_uR]; simp [c]
          · simp (disch := omega) only [gI_nj]; simp [j4, j9, j5]
    · rw [gI_uI, if_neg (fun q => h ⟨q.1, q.2.1⟩), gI_uI, if_neg (fun q => h ⟨q.1, q.2.1⟩), gI_uI, if_neg (fun q => h ⟨q.1, q.2.1⟩), if_neg (fun q => h ⟨q.1, q.2.1⟩), if_neg (fun q => h ⟨q.1, q.2.1⟩), if_neg (fun q => h ⟨q.1, q.2.1⟩)]
  · rw [if_neg c]
    by_cases h : t = 8 ∧ i = x
    · obtain ⟨h1, h2⟩ := h
      subst h1; subst h2
      by_cases j4 : j = 4
      · subst j4; simp (disch := omega) only [gI_self, gI_nt, gI_nj, gL_uI, gR_uI, gI_uL, gR_uL, gI_uR, gL_uR]; simp
      · by_cases j9 : j = 9
        · subst j9; simp (disch := omega) only [gI_self, gI_nt, gI_nj, gL_uI, gR_uI, gI_uL, gR_uL, gI_uR, gL_uR]; simp
        · simp (disch := omega) only [gI_nj]; simp [j4, j9, c]
    · rw [gI_uI, if_neg (fun q => h ⟨q.1, q.2.1⟩), gI_uI, if_neg (fun q => h ⟨q.1, q.2.1⟩), if_neg (fun q => h ⟨q.1, q.2.1⟩), if_neg (fun q => h ⟨q.1, q.2.1⟩), if_neg (fun q => h ⟨q.1, q.2.1⟩)]
def mMe1 (σ : aM) (o l : Int) : aM := uI (uI (uI σ 25 0 11 (wr (gI σ 25 0 11 - l))) 25 0 14 1) 26 0 (180 + o) (wr (gI σ 26 0 (180 + o) - l))
def mMe2 (σ : aM) (o : Int) : aM := if gI σ 26 0 (180 + o) = 0 then uI σ 26 0 (240 + o) 3 else σ
def mMe3 (σ : aM) (o : Int) : aM := if gI σ 26 0 o = 2 ∧ gI σ 26 0 (180 + o) < gI σ 26 0 (420 + o) then uI σ 26 0 (420 + o) (gI σ 26 0 (180 + o)) else σ
def mMe (σ : aM) (o : Int) : aM := if gI σ 26 0 602 = 1 then uI σ 25 0 13 1 else if gI σ 26 0 602 = 2 then uI σ 26 0 (240 + o) 3 else mMe3 (mMe2 (mMe1 σ o (if gI σ 25 0 11 < gI σ 26 0 (180 + o) then gI σ 25 0 11 else gI σ 26 0 (180 + o))) o) o
theorem c_Md_meets (o : Int) (σ : aM) (h : 0 ≤ o ∧ o < 60) : ev 155 0 [aR 25 0, aI o, aU] [] σ = some (none, mMe σ o) := by
  have s3 : ∀ (σ : aM) (a2 : AV), ev 155 134 [aR 25 0, aI o, a2] [] σ = some (none, mMe3 σ o) := fun σ a2 => by
    unfold mMe3
    simp (disch := omega) only [e_Md_meets_134, e_Md_meets_135, e_Md_meets_138, e_Md_meets_139, e_Md_meets_140, e_Md_meets_141, e_Md_meets_142, e_Md_meets_143, e_Md_meets_146, e_Md_meets_147, e_Md_meets_150, e_Md_meets_153, e_Md_meets_154, e_Md_meets_155, e_Md_meets_156, e_Md_meets_157, e_Md_meets_160, e_Md_meets_163, e_Md_meets_164, e_Md_meets_165, e_Md_meets_166, e_Md_meets_169, e_Md_meets_170, e_Md_meets_173, e_Md_meets_176, e_Md_meets_177, e_Md_meets_178, e_Md_meets_179, e_Md_meets_182, e_Md_meets_185, e_Md_meets_186, e_Md_meets_187, e_Md_meets_188, e_Md_meets_189, wr_id, Int.zero_add]
    by_cases c1 : gI σ 26 0 o = 2
    · by_cases c2 : gI σ 26 0 (420 + o) ≤ gI σ 26 0 (180 + o)
      · rw [if_neg (fun q => q c1), if_pos c2, if_neg (fun q => by omega)]
      · rw [if_neg (fun q => q c1), if_neg c2, if_pos ⟨c1, by omega⟩]
    · rw [if_pos c1, if_neg (fun q => c1 q.1)]
  have s2 : ∀ (σ : aM) (a2 : AV), ev 155 110 [aR 25 0, aI o, a2] [] σ = some (none, mMe3 (mMe2 σ o) o) := fun σ a2 => by
    unfold mMe2
    by_cases c1 : gI σ 26 0 (180 + o) = 0
    · rw [if_pos c1]
      simp (disch := omega) only [e_Md_meets_110, e_Md_meets_111, e_Md_meets_114, e_Md_meets_117, e_Md_meets_118, e_Md_meets_119, e_Md_meets_120, e_Md_meets_123, e_Md_meets_124, e_Md_meets_127, e_Md_meets_130, e_Md_meets_131, e_Md_meets_132, e_Md_meets_133, wr_id, c1, not_true_eq_false, if_false, s3]
    · rw [if_neg c1]
      simp (disch := omega) only [e_Md_meets_110, e_Md_meets_111, e_Md_meets_114, e_Md_meets_117, e_Md_meets_118, e_Md_meets_119, e_Md_meets_120, e_Md_meets_123, e_Md_meets_124, e_Md_meets_127, e_Md_meets_130, e_Md_meets_131, e_Md_meets_132, e_Md_meets_133, wr_id, c1, not_false_eq_true, if_true, s3]
  have s1 : ∀ (σ : aM) (l : Int), ev 155 81 [aR 25 0, aI o, aI l] [] σ = some (none, mMe3 (mMe2 (mMe1 σ o l) o) o) := fun σ l => by
    unfold mMe1
    simp (disch := omega) only [e_Md_meets_81, e_Md_meets_82, e_Md_meets_83, e_Md_meets_86, e_Md_meets_87, e_Md_meets_88, e_Md_meets_91, e_Md_meets_92, e_Md_meets_93, e_Md_meets_96, e_Md_meets_97, e_Md_meets_100, e_Md_meets_103, e_Md_meets_104, e_Md_meets_105, e_Md_meets_106, e_Md_meets_107, e_Md_meets_108, e_Md_meets_109, wr_id, gI_self, gI_nt, gI_nj, gL_uI, gR_uI, gI_uL, gR_uL, gI_uR, gL_uR, s2]
  unfold mMe
  by_cases c1 : gI σ 26 0 602 = 1
  · rw [if_pos c1]
    simp (disch := omega) only [e_Md_meets_0, e_Md_meets_1, e_Md_meets_4, e_Md_meets_7, e_Md_meets_8, e_Md_meets_9, e_Md_meets_12, e_Md_meets_13, e_Md_meets_14, e_Md_meets_17, e_Md_meets_189, c1, not_true_eq_false, if_false]
  · rw [if_neg c1]
    by_cases c2 : gI σ 26 0 602 = 2
    · rw [if_pos c2]
      simp (disch := omega) only [e_Md_meets_0, e_Md_meets_1, e_Md_meets_4, e_Md_meets_7, e_Md_meets_8, e_Md_meets_9, e_Md_meets_12, e_Md_meets_13, e_Md_meets_14, e_Md_meets_17, e_Md_meets_20, e_Md_meets_21, e_Md_meets_24, e_Md_meets_27, e_Md_meets_28, e_Md_meets_29, e_Md_meets_32, e_Md_meets_33, e_Md_meets_36, e_Md_meets_39, e_Md_meets_40, e_Md_meets_41, e_Md_meets_42, e_Md_meets_43, e_Md_meets_189, c1, c2, not_true_eq_false, if_false, not_false_eq_true, if_true, wr_id]
      simp
    · rw [if_neg c2]
      by_cases c3 : gI σ 25 0 11 < gI σ 26 0 (180 + o)
      · rw [if_pos c3]
        simp (disch := omega) only [e_Md_meets_0, e_Md_meets_1, e_Md_meets_4, e_Md_meets_7, e_Md_meets_8, e_Md_meets_9, e_Md_meets_12, e_Md_meets_13, e_Md_meets_14, e_Md_meets_17, e_Md_meets_20, e_Md_meets_21, e_Md_meets_24, e_Md_meets_27, e_Md_meets_28, e_Md_meets_29, e_Md_meets_32, e_Md_meets_33, e_Md_meets_36, e_Md_meets_39, e_Md_meets_40, e_Md_meets_41, e_Md_meets_42, e_Md_meets_43, e_Md_meets_46, e_Md_meets_47, e_Md_meets_50, e_Md_meets_51, e_Md_meets_54, e_Md_meets_57, e_Md_meets_58, e_Md_meets_59, e_Md_meets_60, e_Md_meets_63, e_Md_meets_64, e_Md_meets_67, e_Md_meets_70, e_Md_meets_71, e_Md_meets_74, e_Md_meets_77, e_Md_meets_78, e_Md_meets_79, e_Md_meets_80, c1, c2, not_true_eq_false, if_false, not_false_eq_true, if_true, wr_id, if_neg (show ¬ gI σ 26 0 (180 + o) ≤ gI σ 25 0 11 by omega), s1]
      · rw [if_neg c3]
        simp (disch := omega) only [e_Md_meets_0, e_Md_meets_1, e_Md_meets_4, e_Md_meets_7, e_Md_meets_8, e_Md_meets_9, e_Md_meets_12, e_Md_meets_13, e_Md_meets_14, e_Md_meets_17, e_Md_meets_20, e_Md_meets_21, e_Md_meets_24, e_Md_meets_27, e_Md_meets_28, e_Md_meets_29, e_Md_meets_32, e_Md_meets_33, e_Md_meets_36, e_Md_meets_39, e_Md_meets_40, e_Md_meets_41, e_Md_meets_42, e_Md_meets_43, e_Md_meets_46, e_Md_meets_47, e_Md_meets_50, e_Md_meets_51, e_Md_meets_54, e_Md_meets_57, e_Md_meets_58, e_Md_meets_59, e_Md_meets_60, e_Md_meets_63, e_Md_meets_64, e_Md_meets_67, e_Md_meets_70, e_Md_meets_71, e_Md_meets_74, e_Md_meets_77, e_Md_meets_78, e_Md_meets_79, e_Md_meets_80, c1, c2, not_true_eq_false, if_false, not_false_eq_true, if_true, wr_id, if_pos (show gI σ 26 0 (180 + o) ≤ gI σ 25 0 11 by omega), s1]
def mLo1 (σ : aM) (o q : Int) : aM := uI (uI σ 26 0 (180 + o) (wr (gI σ 26 0 (180 + o) - q))) 26 0 (540 + o) (wr (gI σ 26 0 (540 + o) + q))
def mLo2 (σ : aM) (o : Int) : aM := if gI σ 26 0 (180 + o) = 0 then uI σ 26 0 (240 + o) 2 else σ
def mLo4 (σ : aM) (o : Int) : aM := if 0 < gI σ 26 0 (180 + o) ∧ gI σ 26 0 (420 + o) = 0 then mTm (mFs σ o) o else σ
def mLo3 (σ : aM) (o q : Int) : aM := if gI σ 26 0 o = 2 then mLo4 (uI σ 26 0 (420 + o) (wr (gI σ 26 0 (420 + o) - q))) o else σ
theorem c_Md_loses (o q : Int) (σ : aM) (h : 0 ≤ o ∧ o < 60) : ev 154 0 [aR 25 0, aI o, aI q] [] σ = some (none, mLo3 (mLo2 (mLo1 σ o q) o) o q) := by
  have s4 : ∀ (σ : aM), ev 154 78 [aR 25 0, aI o, aI q] [] σ = some (none, mLo4 σ o) := fun σ => by
    unfold mLo4
    by_cases c1 : 0 < gI σ 26 0 (180 + o)
    · by_cases c2 : gI σ 26 0 (420 + o) = 0
      · rw [if_pos ⟨c1, c2⟩]
        unfold mTm
        simp (disch := omega) only [e_Md_loses_78, e_Md_loses_79, e_Md_loses_82, e_Md_loses_85, e_Md_loses_86, e_Md_loses_87, e_Md_loses_88, e_Md_loses_91, e_Md_loses_92, e_Md_loses_95, e_Md_loses_98, e_Md_loses_99, e_Md_loses_100, e_Md_loses_101, e_Md_loses_104, e_Md_loses_105, e_Md_loses_106, e_Md_loses_109, e_Md_loses_110, e_Md_loses_113, e_Md_loses_116, e_Md_loses_117, e_Md_loses_118, e_Md_loses_119, e_Md_loses_122, e_Md_loses_123, wr_id, if_neg (show ¬ gI σ 26 0 (180 + o) ≤ 0 by omega), c2, not_true_eq_false, if_false, c_Md_fresh, c_Md_nextTime, evK_i, evK_v]
      · rw [if_neg (fun y => c2 y.2)]
        simp (disch := omega) only [e_Md_loses_78, e_Md_loses_79, e_Md_loses_82, e_Md_loses_85, e_Md_loses_86, e_Md_loses_87, e_Md_loses_88, e_Md_loses_91, e_Md_loses_92, e_Md_loses_95, e_Md_loses_98, e_Md_loses_99, e_Md_loses_100, e_Md_loses_101, e_Md_loses_104, e_Md_loses_105, e_Md_loses_106, e_Md_loses_109, e_Md_loses_110, e_Md_loses_113, e_Md_loses_116, e_Md_loses_117, e_Md_loses_118, e_Md_loses_119, e_Md_loses_122, e_Md_loses_123, wr_id, if_neg (show ¬ gI σ 26 0 (180 + o) ≤ 0 by omega), c2, not_false_eq_true, if_true]
    · rw [if_neg (fun y => c1 y.1)]
      simp (disch := omega) only [e_Md_loses_78, e_Md_loses_79, e_Md_loses_82, e_Md_loses_85, e_Md_loses_86, e_Md_loses_87, e_Md_loses_88, e_Md_loses_91, e_Md_loses_92, e_Md_loses_95, e_Md_loses_98, e_Md_loses_99, e_Md_loses_100, e_Md_loses_101, e_Md_loses_104, e_Md_loses_105, e_Md_loses_106, e_Md_loses_109, e_Md_loses_110, e_Md_loses_113, e_Md_loses_116, e_Md_loses_117, e_Md_loses_118, e_Md_loses_119, e_Md_loses_122, e_Md_loses_123, wr_id, if_pos (show gI σ 26 0 (180 + o) ≤ 0 by omega)]
  have s3 : ∀ (σ : aM), ev 154 52 [aR 25 0, aI o, aI q] [] σ = some (none, mLo3 σ o q) := fun σ => by
    unfold mLo3
    by_cases c1 : gI σ 26 0 o = 2
    · rw [if_pos c1]
      simp (disch := omega) only [e_Md_loses_52, e_Md_loses_53, e_Md_loses_56, e_Md_loses_57, e_Md_loses_58, e_Md_loses_59, e_Md_loses_60, e_Md_loses_61, e_Md_loses_64, e_Md_loses_65, e_Md_loses_68, e_Md_loses_71, e_Md_loses_72, e_Md_loses_73, e_Md_loses_74, e_Md_loses_75, e_Md_loses_76, e_Md_loses_77, wr_id, Int.zero_add, c1, not_true_eq_false, if_false, s4]
    · rw [if_neg c1]
      simp (disch := omega) only [e_Md_loses_52, e_Md_loses_53, e_Md_loses_56, e_Md_loses_57, e_Md_loses_58, e_Md_loses_59, e_Md_loses_60, e_Md_loses_61, e_Md_loses_123, wr_id, Int.zero_add, c1, not_false_eq_true, if_true]
  have s2 : ∀ (σ : aM), ev 154 28 [aR 25 0, aI o, aI q] [] σ = some (none, mLo3 (mLo2 σ o) o q) := fun σ => by
    unfold mLo2
    by_cases c1 : gI σ 26 0 (180 + o) = 0
    · rw [if_pos c1]
      simp (disch := omega) only [e_Md_loses_28, e_Md_loses_29, e_Md_loses_32, e_Md_loses_35, e_Md_loses_36, e_Md_loses_37, e_Md_loses_38, e_Md_loses_41, e_Md_loses_42, e_Md_loses_45, e_Md_loses_48, e_Md_loses_49, e_Md_loses_50, e_Md_loses_51, wr_id, c1, not_true_eq_false, if_false, s3]
    · rw [if_neg c1]
      simp (disch := omega) only [e_Md_loses_28, e_Md_loses_29, e_Md_loses_32, e_Md_loses_35, e_Md_loses_36, e_Md_loses_37, e_Md_loses_38, e_Md_loses_41, e_Md_loses_42, e_Md_loses_45, e_Md_loses_48, e_Md_loses_49, e_Md_loses_50, e_Md_loses_51, wr_id, c1, not_false_eq_true, if_true, s3]
  have e : mLo1 σ o q = mLo1 σ o q := rfl
  conv at e => lhs; unfold mLo1
  simp (disch := omega) only [e_Md_loses_0, e_Md_loses_1, e_Md_loses_4, e_Md_loses_7, e_Md_loses_8, e_Md_loses_9, e_Md_loses_10, e_Md_loses_11, e_Md_loses_12, e_Md_loses_13, e_Md_loses_14, e_Md_loses_15, e_Md_loses_18, e_Md_loses_21, e_Md_loses_22, e_Md_loses_23, e_Md_loses_24, e_Md_loses_25, e_Md_loses_26, e_Md_loses_27, wr_id, gI_self, gI_nt, gI_nj, gL_uI, gR_uI, gI_uL, gR_uL, gI_uR, gL_uR, e, s2]
