/-! told trades are judged -/
theorem quo_eq {x n : Int} (hx : 0 ≤ x ∧ x ≤ 65535) (hn : 1 ≤ n ∧ n ≤ 100) : quo x n = x / n := by
  unfold quo
  have hx1 : (Int32.ofInt x).toInt = x := wr_id (by omega) (by omega)
  have hn1 : (Int32.ofInt n).toInt = n := wr_id (by omega) (by omega)
  rw [Int32.toInt_div, hx1, hn1, Int.tdiv_eq_ediv_of_nonneg hx.1]
  have h1 : 0 ≤ x / n := Int.ediv_nonneg hx.1 (by omega)
  have h2 : x / n ≤ x := Int.ediv_le_self _ hx.1
  exact Int.bmod_eq_of_le (by omega) (by omega)
def jdF (μ : aM) (s : Int) : Nat → Int → Int
  | 0, _ => -1
  | n + 1, k => if tdA μ s k then jdF μ s n (k + 1) else k
theorem l_Ub_judge (μ : aM) (s n r : Int) (hs : 0 ≤ s ∧ s < 8) (ho : okT μ s) (hn : n ≤ 40) : ∀ (m : Nat) (k : Int), 0 ≤ k → k + m = n → ev 107 65 [aR 0 0, aI s, aI n, aI r, aI k] [] μ = some (some (aI (jdF μ s m k)), μ) := by
  intro m
  induction m with
  | zero =>
    intro k h0 h1
    rw [e_Ub_judge_65]
    simp (disch := omega) only [e_Ub_judge_67, e_Ub_judge_68, e_Ub_judge_101, e_Ub_judge_102, if_pos (show n ≤ k by omega), jdF]
  | succ m ih =>
    intro k h0 h1
    have ht := c_Lg_isToldBy μ s k ho (by omega)
    rw [e_Ub_judge_65, jdF]
    by_cases z : tdA μ s k
    · rw [if_pos z] at ht ⊢
      simp (disch := omega) only [e_Ub_judge_67, e_Ub_judge_68, e_Ub_judge_71, e_Ub_judge_72, e_Ub_judge_75, e_Ub_judge_78, e_Ub_judge_79, e_Ub_judge_82, e_Ub_judge_83, e_Ub_judge_84, e_Ub_judge_86, e_Ub_judge_89, e_Ub_judge_92, e_Ub_judge_94, e_Ub_judge_95, e_Ub_judge_98, if_neg (show ¬ n ≤ k by omega), Int.zero_add, Int.mul_zero, ht, evK_i, one_ne, not_false_eq_true, if_true, wr_id, ih]
    · rw [if_neg z] at ht ⊢
      simp (disch := omega) only [e_Ub_judge_67, e_Ub_judge_68, e_Ub_judge_71, e_Ub_judge_72, e_Ub_judge_75, e_Ub_judge_78, e_Ub_judge_79, e_Ub_judge_82, e_Ub_judge_83, e_Ub_judge_84, e_Ub_judge_86, e_Ub_judge_89, e_Ub_judge_92, e_Ub_judge_94, e_Ub_judge_95, e_Ub_judge_98, if_neg (show ¬ n ≤ k by omega), Int.zero_add, Int.mul_zero, ht, evK_i, not_true_eq_false, if_false]
/-- one element of a told four is the trade's -/
abbrev mtQE (μ : aM) (s k q : Int) : Prop := toi (gL μ 31 0 (160 * s + 4 * k + q)) = gI μ 26 0 (623 + 4 * k + q)
theorem m_jq (μ : aM) (s n r k q : Int) (hs : 0 ≤ s ∧ s < 8) (hk : 0 ≤ k ∧ k < 40) (hq : 0 ≤ q ∧ q < 4) : ev 204 91 [aR 25 0, aI s, aI n, aI r, aI k, aI 1, aI q] [] μ = ev 204 91 [aR 25 0, aI s, aI n, aI r, aI k, aI (if mtQE μ s k q then 1 else 0), aI (q + 1)] [] μ := by
  rw [e_Md_judge_91]
  by_cases z : mtQE μ s k q
  · rw [if_pos z]
    simp (disch := omega) only [e_Md_judge_93, e_Md_judge_94, e_Md_judge_97, e_Md_judge_99, e_Md_judge_102, e_Md_judge_103, e_Md_judge_106, e_Md_judge_109, e_Md_judge_110, e_Md_judge_111, e_Md_judge_112, e_Md_judge_114, e_Md_judge_115, e_Md_judge_116, e_Md_judge_118, e_Md_judge_119, e_Md_judge_120, e_Md_judge_121, e_Md_judge_122, e_Md_judge_125, e_Md_judge_128, e_Md_judge_129, e_Md_judge_131, e_Md_judge_132, e_Md_judge_133, e_Md_judge_135, e_Md_judge_136, e_Md_judge_137, e_Md_judge_140, e_Md_judge_141, e_Md_judge_144, e_Md_judge_145, e_Md_judge_147, e_Md_judge_150, if_neg (show ¬ 4 ≤ q by omega), one_ne, if_false, wr_id, if_neg (show ¬ ¬ toi (gL μ 31 0 (160 * s + 4 * k + q)) = gI μ 26 0 (623 + 4 * k + q) from fun y => y z)]
  · rw [if_neg z]
    simp (disch := omega) only [e_Md_judge_93, e_Md_judge_94, e_Md_judge_97, e_Md_judge_99, e_Md_judge_102, e_Md_judge_103, e_Md_judge_106, e_Md_judge_109, e_Md_judge_110, e_Md_judge_111, e_Md_judge_112, e_Md_judge_114, e_Md_judge_115, e_Md_judge_116, e_Md_judge_118, e_Md_judge_119, e_Md_judge_120, e_Md_judge_121, e_Md_judge_122, e_Md_judge_125, e_Md_judge_128, e_Md_judge_129, e_Md_judge_131, e_Md_judge_132, e_Md_judge_133, e_Md_judge_135, e_Md_judge_136, e_Md_judge_137, e_Md_judge_140, e_Md_judge_141, e_Md_judge_144, e_Md_judge_145, e_Md_judge_147, e_Md_judge_150, if_neg (show ¬ 4 ≤ q by omega), one_ne, if_false, wr_id, if_pos (show ¬ toi (gL μ 31 0 (160 * s + 4 * k + q)) = gI μ 26 0 (623 + 4 * k + q) from z)]
theorem m_j0 (μ : aM) (s n r k q : Int) : ev 204 91 [aR 25 0, aI s, aI n, aI r, aI k, aI 0, aI q] [] μ = some (some (aI k), μ) := by
  rw [e_Md_judge_91]
  by_cases z : 4 ≤ q
  · simp (disch := omega) only [e_Md_judge_93, e_Md_judge_94, e_Md_judge_153, e_Md_judge_155, e_Md_judge_158, e_Md_judge_160, if_pos z, not_true_eq_false, if_false]
  · simp (disch := omega) only [e_Md_judge_93, e_Md_judge_94, e_Md_judge_97, e_Md_judge_99, e_Md_judge_153, e_Md_judge_155, e_Md_judge_158, e_Md_judge_160, if_neg z, if_true, not_true_eq_false, if_false]
theorem m_j4 (μ : aM) (s n r k : Int) (hk : 0 ≤ k ∧ k < 40) : ev 204 91 [aR 25 0, aI s, aI n, aI r, aI k, aI 1, aI 4] [] μ = ev 204 66 [aR 25 0, aI s, aI n, aI r, aI (k + 1), aI 1, aI 4] [] μ := by
  rw [e_Md_judge_91]
  simp (disch := omega) only [e_Md_judge_93, e_Md_judge_94, e_Md_judge_153, e_Md_judge_155, e_Md_judge_158, e_Md_judge_160, e_Md_judge_161, e_Md_judge_164, if_pos (Int.le_refl 4), one_ne, not_false_eq_true, if_true, wr_id]
theorem l_Md_judge {μ : aM} {B : Int} (hI : Inv μ B) (s n r : Int) (hs : 0 ≤ s ∧ s < 8) (hz : (0 ≤ gI μ 2 s 1 ∧ gI μ 2 s 1 ≤ 160) ∧ ∀ j, 0 ≤ j → j < gI μ 2 s 1 → gL μ 31 0 (160 * s + j) = gL μ 3 s j) (hn : n ≤ 40) (hn4 : 4 * n ≤ gI μ 2 s 1) : ∀ (m : Nat) (k : Int) (a5 a6 : AV), 0 ≤ k → k + m = n → ev 204 66 [aR 25 0, aI s, aI n, aI r, aI k, a5, a6] [] μ = some (some (aI (jdF μ s m k)), μ) := by
  have h606 := hI.1.2.2.2.1.1.2.2.2.2.2
  have hf := hI.1.2.2.2.1.2.2
  intro m
  induction m with
  | zero =>
    intro k a5 a6 h0 h1
    rw [e_Md_judge_66]
    simp (disch := omega) only [e_Md_judge_68, e_Md_judge_69, e_Md_judge_167, e_Md_judge_168, if_pos (show n ≤ k by omega), jdF]
  | succ m ih =>
    intro k a5 a6 h0 h1
    have hkp := c_Md_kept μ
    rw [h606] at hkp
    obtain ⟨K, hK⟩ : ∃ K, K = (if gI μ 9 0 3 < 200 then gI μ 9 0 3 else 200) := ⟨_, rfl⟩
    have hK2 : (gI μ 9 0 3 < 200 ∧ K = gI μ 9 0 3) ∨ (200 ≤ gI μ 9 0 3 ∧ K = 200) := by
      rw [hK]
      split <;> omega
    rw [← hK] at hkp
    rw [e_Md_judge_66, jdF]
    have hq : ∀ q, 0 ≤ q → q < 4 → (mtQE μ s k q ↔ tdQ μ s k q) := fun q q0 q1 => by
      unfold mtQE tdQ
      have e1 := hz.2 (4 * k + q) (by omega) (by omega)
      have e2 := hf (4 * k + q) (by omega) (by omega)
      rw [show 160 * s + 4 * k + q = 160 * s + (4 * k + q) by omega, e1, show 623 + 4 * k + q = 623 + (4 * k + q) by omega, e2, if_pos (by omega), show k * 4 + q = 4 * k + q by omega]
    by_cases c : k < K
    · have s0 : ev 204 68 [aR 25 0, aI s, aI n, aI r, aI k, a5, a6] [aI k] μ = ev 204 91 [aR 25 0, aI s, aI n, aI r, aI k, aI 1, aI 0] [] μ := by
        simp (disch := omega) only [e_Md_judge_68, e_Md_judge_69, e_Md_judge_72, e_Md_judge_74, e_Md_judge_75, e_Md_judge_78, e_Md_judge_81, e_Md_judge_82, e_Md_judge_85, e_Md_judge_86, e_Md_judge_88, e_Md_judge_89, if_neg (show ¬ n ≤ k by omega), hkp, evK_i, if_neg (show ¬ K ≤ k by omega)]
      have j0 := m_jq μ s n r k 0 hs (by omega) (by omega)
      have j1 := m_jq μ s n r k 1 hs (by omega) (by omega)
      have j2 := m_jq μ s n r k 2 hs (by omega) (by omega)
      have j3 := m_jq μ s n r k 3 hs (by omega) (by omega)
      rw [show (0 : Int) + 1 = 1 by decide] at j0
      rw [show (1 : Int) + 1 = 2 by decide] at j1
      rw [show (2 : Int) + 1 = 3 by decide] at j2
      rw [show (3 : Int) + 1 = 4 by decide] at j3
      rw [s0, j0]
      by_cases w0 : tdQ μ s k 0
      · rw [if_pos ((hq 0 (by omega) (by omega)).mpr w0), j1]
        by_cases w1 : tdQ μ s k 1
        · rw [if_pos ((hq 1 (by omega) (by omega)).mpr w1), j2]
          by_cases w2 : tdQ μ s k 2
          · rw [if_pos ((hq 2 (by omega) (by omega)).mpr w2), j3]
            by_cases w3 : tdQ μ s k 3
            · rw [if_pos ((hq 3 (by omega) (by omega)).mpr w3), m_j4 _ _ _ _ _ (by omega), if_pos (show tdA μ s k from ⟨by omega, w0, w1, w2, w3⟩)]
              exact ih (k + 1) _ _ (by omega) (by omega)
            · rw [if_neg (fun y => w3 ((hq 3 (by omega) (by omega)).mp y)), m_j0, if_neg (show ¬ tdA μ s k from fun y => w3 y.2.2.2.2)]
          · rw [if_neg (fun y => w2 ((hq 2 (by omega) (by omega)).mp y)), m_j0, if_neg (show ¬ tdA μ s k from fun y => w2 y.2.2.2.1)]
        · rw [if_neg (fun y => w1 ((hq 1 (by omega) (by omega)).mp y)), m_j0, if_neg (show ¬ tdA μ s k from fun y => w1 y.2.2.1)]
      · rw [if_neg (fun y => w0 ((hq 0 (by omega) (by omega)).mp y)), m_j0, if_neg (show ¬ tdA μ s k from fun y => w0 y.2.1)]
    · rw [if_neg (show ¬ tdA μ s k from fun y => c (by have := y.1; omega))]
      simp (disch := omega) only [e_Md_judge_68, e_Md_judge_69, e_Md_judge_72, e_Md_judge_74, e_Md_judge_75, e_Md_judge_78, e_Md_judge_81, e_Md_judge_82, e_Md_judge_85, e_Md_judge_86, e_Md_judge_88, e_Md_judge_89, if_neg (show ¬ n ≤ k by omega), hkp, evK_i, if_pos (show K ≤ k by omega), m_j0]
theorem PR_judge {μ : aM} {B : Int} (hI : Inv μ B) (s n : Int) : PR B μ (fun σ => ev 107 0 [aR 0 0, aI s, aI n, aU, aU] [] σ) (fun σ => ev 204 0 [aR 25 0, aI s, aI n, aU, aU, aU, aU] [] σ) := by
  have hu := c_Ub_reasonR s μ
  rcases rsn_rg μ s with hr | hr
  · obtain ⟨hs, z1, z2, z3, z4, z5, z6⟩ := rsn_0 hI hr
    rw [hr] at hu
    have hq := quo_eq (x := gI μ 2 s 1) (n := 4) (by omega) (by omega)
    have mw : ∀ σ, (∀ j, gI σ 29 0 j = gI μ 29 0 j) → ev 132 0 [aR 25 0, aI s] [] σ = some (some (aI 0), σ) := fun σ h => by
      rw [c_Md_wanted, wnt_rsn (σ := σ) hI h, hr]
    by_cases h1 : 0 ≤ n
    · by_cases h2 : n ≤ gI μ 2 s 1 / 4
      · by_cases h3 : n ≤ 40
        · have lu := l_Ub_judge μ s n 0 hs z3 h3 n.toNat 0 (by omega) (by omega)
          have lm := l_Md_judge hI s n 0 hs ⟨z3, z6⟩ h3 (by omega) n.toNat 0 aU aU (by omega) (by omega)
          refine PR_id (a := jdF μ s n.toNat 0) hI ?_ ?_
          · show ev 107 0 [aR 0 0, aI s, aI n, aU, aU] [] μ = _
            simp (disch := omega) only [e_Ub_judge_0, e_Ub_judge_1, e_Ub_judge_2, e_Ub_judge_5, e_Ub_judge_6, e_Ub_judge_7, e_Ub_judge_10, e_Ub_judge_11, e_Ub_judge_12, e_Ub_judge_15, e_Ub_judge_16, e_Ub_judge_17, e_Ub_judge_20, e_Ub_judge_21, e_Ub_judge_23, e_Ub_judge_26, e_Ub_judge_27, e_Ub_judge_28, e_Ub_judge_29, e_Ub_judge_32, e_Ub_judge_33, e_Ub_judge_34, e_Ub_judge_37, e_Ub_judge_38, e_Ub_judge_39, e_Ub_judge_42, e_Ub_judge_43, e_Ub_judge_45, e_Ub_judge_48, e_Ub_judge_49, e_Ub_judge_50, e_Ub_judge_52, e_Ub_judge_55, e_Ub_judge_56, e_Ub_judge_58, e_Ub_judge_61, e_Ub_judge_62, e_Ub_judge_63, hu, evK_i, if_true, if_pos h1, Int.zero_add, Int.mul_zero, hq, if_pos h2, if_pos h3, lu]
          · show ev 204 0 [aR 25 0, aI s, aI n, aU, aU, aU, aU] [] μ = _
            simp (disch := omega) only [e_Md_judge_0, e_Md_judge_1, e_Md_judge_2, e_Md_judge_5, e_Md_judge_6, e_Md_judge_7, e_Md_judge_10, e_Md_judge_11, e_Md_judge_14, e_Md_judge_15, e_Md_judge_18, e_Md_judge_20, e_Md_judge_23, e_Md_judge_24, e_Md_judge_25, e_Md_judge_28, e_Md_judge_29, e_Md_judge_30, e_Md_judge_31, e_Md_judge_32, e_Md_judge_35, e_Md_judge_37, e_Md_judge_40, e_Md_judge_41, e_Md_judge_43, e_Md_judge_46, e_Md_judge_48, e_Md_judge_51, e_Md_judge_52, e_Md_judge_53, e_Md_judge_54, e_Md_judge_57, e_Md_judge_58, e_Md_judge_59, e_Md_judge_62, e_Md_judge_63, e_Md_judge_64, mw μ (fun _ => rfl), evK_i, if_true, if_pos h1, z5, hq, if_pos h2, if_pos h3, lm]
        · refine PR_rfA (r := -6) hI (by omega) ?_ ?_
          · rw [c_Ub_refuseApart _ _ (by omega)]
            show ev 107 0 [aR 0 0, aI s, aI n, aU, aU] [] μ = _
            simp (disch := omega) only [e_Ub_judge_0, e_Ub_judge_1, e_Ub_judge_2, e_Ub_judge_5, e_Ub_judge_6, e_Ub_judge_7, e_Ub_judge_10, e_Ub_judge_11, e_Ub_judge_12, e_Ub_judge_15, e_Ub_judge_16, e_Ub_judge_17, e_Ub_judge_20, e_Ub_judge_21, e_Ub_judge_23, e_Ub_judge_26, e_Ub_judge_27, e_Ub_judge_28, e_Ub_judge_29, e_Ub_judge_32, e_Ub_judge_33, e_Ub_judge_34, e_Ub_judge_37, e_Ub_judge_38, e_Ub_judge_39, e_Ub_judge_42, e_Ub_judge_43, e_Ub_judge_45, e_Ub_judge_48, e_Ub_judge_49, e_Ub_judge_50, e_Ub_judge_52, e_Ub_judge_55, e_Ub_judge_56, e_Ub_judge_58, e_Ub_judge_61, hu, evK_i, if_true, if_pos h1, Int.zero_add, Int.mul_zero, hq, if_pos h2, if_neg h3, c_Ub_refuseApart]
          · rw [c_Md_refusedBelow _ _ (by omega)]
            have e30 : gI (rf4 μ (- -6)) 30 0 s = gI μ 2 s 1 := by rw [g_rf4 _ _ _ _ _ (by decide)]; exact z5
            show ev 204 0 [aR 25 0, aI s, aI n, aU, aU, aU, aU] [] (rf4 μ (- -6)) = _
            simp (disch := omega) only [e_Md_judge_0, e_Md_judge_1, e_Md_judge_2, e_Md_judge_5, e_Md_judge_6, e_Md_judge_7, e_Md_judge_10, e_Md_judge_11, e_Md_judge_14, e_Md_judge_15, e_Md_judge_18, e_Md_judge_20, e_Md_judge_23, e_Md_judge_24, e_Md_judge_25, e_Md_judge_28, e_Md_judge_29, e_Md_judge_30, e_Md_judge_31, e_Md_judge_32, e_Md_judge_35, e_Md_judge_37, e_Md_judge_40, e_Md_judge_41, e_Md_judge_43, e_Md_judge_46, e_Md_judge_48, e_Md_judge_51, e_Md_judge_52, e_Md_judge_53, e_Md_judge_54, e_Md_judge_57, e_Md_judge_58, e_Md_judge_59, e_Md_judge_62, mw (rf4 μ (- -6)) (fun j => g_rf4 _ _ _ _ _ (by decide)), evK_i, if_true, if_pos h1, e30, hq, if_pos h2, if_neg h3, if_neg (show ¬ (-6 : Int) = 0 by decide), c_Md_refusedBelow]
      · refine PR_rfA (r := -5) hI (by omega) ?_ ?_
        · rw [c_Ub_refuseApart _ _ (by omega)]
          show ev 107 0 [aR 0 0, aI s, aI n, aU, aU] [] μ = _
          simp (disch := omega) only [e_Ub_judge_0, e_Ub_judge_1, e_Ub_judge_2, e_Ub_judge_5, e_Ub_judge_6, e_Ub_judge_7, e_Ub_judge_10, e_Ub_judge_11, e_Ub_judge_12, e_Ub_judge_15, e_Ub_judge_16, e_Ub_judge_17, e_Ub_judge_20, e_Ub_judge_21, e_Ub_judge_23, e_Ub_judge_26, e_Ub_judge_27, e_Ub_judge_28, e_Ub_judge_29, e_Ub_judge_32, e_Ub_judge_33, e_Ub_judge_34, e_Ub_judge_37, e_Ub_judge_38, e_Ub_judge_39, e_Ub_judge_42, e_Ub_judge_43, e_Ub_judge_45, e_Ub_judge_48, e_Ub_judge_49, e_Ub_judge_50, e_Ub_judge_52, e_Ub_judge_55, e_Ub_judge_56, e_Ub_judge_58, e_Ub_judge_61, hu, evK_i, if_true, if_pos h1, Int.zero_add, Int.mul_zero, hq, if_neg h2, c_Ub_refuseApart]
        · rw [c_Md_refusedBelow _ _ (by omega)]
          have e30 : gI (rf4 μ (- -5)) 30 0 s = gI μ 2 s 1 := by rw [g_rf4 _ _ _ _ _ (by decide)]; exact z5
          show ev 204 0 [aR 25 0, aI s, aI n, aU, aU, aU, aU] [] (rf4 μ (- -5)) = _
          simp (disch := omega) only [e_Md_judge_0, e_Md_judge_1, e_Md_judge_2, e_Md_judge_5, e_Md_judge_6, e_Md_judge_7, e_Md_judge_10, e_Md_judge_11, e_Md_judge_14, e_Md_judge_15, e_Md_judge_18, e_Md_judge_20, e_Md_judge_23, e_Md_judge_24, e_Md_judge_25, e_Md_judge_28, e_Md_judge_29, e_Md_judge_30, e_Md_judge_31, e_Md_judge_32, e_Md_judge_35, e_Md_judge_37, e_Md_judge_40, e_Md_judge_41, e_Md_judge_43, e_Md_judge_46, e_Md_judge_48, e_Md_judge_51, e_Md_judge_52, e_Md_judge_53, e_Md_judge_54, e_Md_judge_57, e_Md_judge_58, e_Md_judge_59, e_Md_judge_62, mw (rf4 μ (- -5)) (fun j => g_rf4 _ _ _ _ _ (by decide)), evK_i, if_true, if_pos h1, e30, hq, if_neg h2, if_neg (show ¬ (-5 : Int) = 0 by decide), c_Md_refusedBelow]
    · refine PR_rfA (r := -4) hI (by omega) ?_ ?_
      · rw [c_Ub_refuseApart _ _ (by omega)]
        show ev 107 0 [aR 0 0, aI s, aI n, aU, aU] [] μ = _
        simp (disch := omega) only [e_Ub_judge_0, e_Ub_judge_1, e_Ub_judge_2, e_Ub_judge_5, e_Ub_judge_6, e_Ub_judge_7, e_Ub_judge_10, e_Ub_judge_11, e_Ub_judge_12, e_Ub_judge_15, e_Ub_judge_16, e_Ub_judge_17, e_Ub_judge_20, e_Ub_judge_21, e_Ub_judge_23, e_Ub_judge_26, e_Ub_judge_27, e_Ub_judge_28, e_Ub_judge_29, e_Ub_judge_32, e_Ub_judge_33, e_Ub_judge_34, e_Ub_judge_37, e_Ub_judge_38, e_Ub_judge_39, e_Ub_judge_42, e_Ub_judge_43, e_Ub_judge_45, e_Ub_judge_48, e_Ub_judge_49, e_Ub_judge_50, e_Ub_judge_52, e_Ub_judge_55, e_Ub_judge_56, e_Ub_judge_58, e_Ub_judge_61, hu, evK_i, if_true, if_neg h1, c_Ub_refuseApart]
      · rw [c_Md_refusedBelow _ _ (by omega)]
        show ev 204 0 [aR 25 0, aI s, aI n, aU, aU, aU, aU] [] (rf4 μ (- -4)) = _
        simp (disch := omega) only [e_Md_judge_0, e_Md_judge_1, e_Md_judge_2, e_Md_judge_5, e_Md_judge_6, e_Md_judge_7, e_Md_judge_10, e_Md_judge_11, e_Md_judge_14, e_Md_judge_15, e_Md_judge_18, e_Md_judge_20, e_Md_judge_23, e_Md_judge_24, e_Md_judge_25, e_Md_judge_28, e_Md_judge_29, e_Md_judge_30, e_Md_judge_31, e_Md_judge_32, e_Md_judge_35, e_Md_judge_37, e_Md_judge_40, e_Md_judge_41, e_Md_judge_43, e_Md_judge_46, e_Md_judge_48, e_Md_judge_51, e_Md_judge_52, e_Md_judge_53, e_Md_judge_54, e_Md_judge_57, e_Md_judge_58, e_Md_judge_59, e_Md_judge_62, mw (rf4 μ (- -4)) (fun j => g_rf4 _ _ _ _ _ (by decide)), evK_i, if_true, if_neg h1, if_neg (show ¬ (-4 : Int) = 0 by decide), c_Md_refusedBelow]
  · refine PR_rfA (r := rsn μ s) hI hr ?_ ?_
    · rw [c_Ub_refuseApart _ _ hr]
      show ev 107 0 [aR 0 0, aI s, aI n, aU, aU] [] μ = _
      simp (disch := omega) only [e_Ub_judge_0, e_Ub_judge_1, e_Ub_judge_2, e_Ub_judge_5, e_Ub_judge_6, e_Ub_judge_7, e_Ub_judge_10, e_Ub_judge_11, e_Ub_judge_12, e_Ub_judge_15, e_Ub_judge_16, e_Ub_judge_17, e_Ub_judge_20, e_Ub_judge_21, e_Ub_judge_23, e_Ub_judge_26, e_Ub_judge_27, e_Ub_judge_28, e_Ub_judge_29, e_Ub_judge_32, e_Ub_judge_33, e_Ub_judge_34, e_Ub_judge_37, e_Ub_judge_38, e_Ub_judge_39, e_Ub_judge_42, e_Ub_judge_43, e_Ub_judge_45, e_Ub_judge_48, e_Ub_judge_49, e_Ub_judge_50, e_Ub_judge_52, e_Ub_judge_55, e_Ub_judge_56, e_Ub_judge_58, e_Ub_judge_61, hu, evK_i, if_neg (show ¬ rsn μ s = 0 by omega), c_Ub_refuseApart]
    · rw [c_Md_refusedBelow _ _ hr]
      have hw := c_Md_wanted s (rf4 μ (-(rsn μ s)))
      rw [wnt_rsn hI (fun j => g_rf4 _ _ _ _ _ (by decide))] at hw
      show ev 204 0 [aR 25 0, aI s, aI n, aU, aU, aU, aU] [] (rf4 μ (-(rsn μ s))) = _
      simp (disch := omega) only [e_Md_judge_0, e_Md_judge_1, e_Md_judge_2, e_Md_judge_5, e_Md_judge_6, e_Md_judge_7, e_Md_judge_10, e_Md_judge_11, e_Md_judge_14, e_Md_judge_15, e_Md_judge_18, e_Md_judge_20, e_Md_judge_23, e_Md_judge_24, e_Md_judge_25, e_Md_judge_28, e_Md_judge_29, e_Md_judge_30, e_Md_judge_31, e_Md_judge_32, e_Md_judge_35, e_Md_judge_37, e_Md_judge_40, e_Md_judge_41, e_Md_judge_43, e_Md_judge_46, e_Md_judge_48, e_Md_judge_51, e_Md_judge_52, e_Md_judge_53, e_Md_judge_54, e_Md_judge_57, e_Md_judge_58, e_Md_judge_59, e_Md_judge_62, hw, evK_i, if_neg (show ¬ rsn μ s = 0 by omega), c_Md_refusedBelow]
