/-! copy -/
theorem toj_toInt {a : Int} (h1 : -2147483648 ≤ a) (h2 : a < 2147483648) : (toj a).toInt = a := by
  unfold toj
  rw [Int32.toInt_toInt64]
  exact wr_id h1 h2
theorem toj_add {a b : Int} (ha : 0 ≤ a ∧ a < 2147483648) (hb : 0 ≤ b ∧ b < 2147483648) : (toj a + toj b).toInt = a + b := by
  rw [Int64.toInt_add, toj_toInt (by omega) ha.2, toj_toInt (by omega) hb.2]
  exact Int.bmod_eq_of_le (by omega) (by omega)
theorem gt_toj {a b c : Int} (ha : 0 ≤ a ∧ a < 2147483648) (hb : 0 ≤ b ∧ b < 2147483648) (hc : 0 ≤ c ∧ c < 2147483648) : (0 < (lg_cmp (toj a + toj b) (toj c)).toInt) = (c < a + b) := by
  have h := lg_cmp_gt (toj a + toj b) (toj c)
  rw [Int32.lt_iff_toInt_lt, Int64.lt_iff_toInt_lt, toj_add ha hb, toj_toInt (by omega) hc.2] at h
  exact propext h
theorem le_toj {a b c : Int} (ha : 0 ≤ a ∧ a < 2147483648) (hb : 0 ≤ b ∧ b < 2147483648) (hc : 0 ≤ c ∧ c < 2147483648) : ((lg_cmp (toj a + toj b) (toj c)).toInt ≤ 0) = (a + b ≤ c) := by
  have h := gt_toj ha hb hc
  refine propext ⟨fun z => ?_, fun z => ?_⟩
  · exact Int.not_lt.mp (fun y => by rw [← h] at y; omega)
  · exact Int.not_lt.mp (fun y => by rw [h] at y; omega)
theorem gL_kL' (σ : aM) (t : Nat) (i a : Int) (t2 : Nat) (i2 b n : Int) (t' : Nat) (i' j' : Int) : gL (kL σ t i a t2 i2 b n) t' i' j' = if t' = t2 ∧ i' = i2 ∧ b ≤ j' ∧ j' < b + n then gL σ t i (j' - b + a) else gL σ t' i' j' := rfl
theorem kL_0 (σ : aM) (t : Nat) (i a : Int) (t2 : Nat) (i2 b : Int) : kL σ t i a t2 i2 b 0 = σ := aM_ext (fun _ _ _ => rfl) (fun t' i' j' => by rw [gL_kL', if_neg (fun q => by omega)]) (fun _ => rfl)
theorem kL_s (σ : aM) (t : Nat) (i a : Int) (t2 : Nat) (i2 b : Int) {k : Int} (h : 0 ≤ k) : uL (kL σ t i a t2 i2 b k) t2 i2 (b + k) (gL σ t i (a + k)) = kL σ t i a t2 i2 b (k + 1) := aM_ext (fun _ _ _ => rfl) (fun t' i' j' => by
  rw [gL_uL, gL_kL', gL_kL']
  by_cases z : t' = t2 ∧ i' = i2 ∧ j' = b + k
  · rw [if_pos z, if_pos ⟨z.1, z.2.1, by omega⟩, show j' - b + a = a + k by omega]
  · rw [if_neg z]
    by_cases y : t' = t2 ∧ i' = i2 ∧ b ≤ j' ∧ j' < b + k
    · rw [if_pos y, if_pos ⟨y.1, y.2.1, by omega⟩]
    · rw [if_neg y, if_neg (fun q => by
        by_cases w : j' = b + k
        · exact z ⟨q.1, q.2.1, w⟩
        · exact y ⟨q.1, q.2.1, q.2.2.1, by omega⟩)]) (fun _ => rfl)
theorem l_Md_copy1 (p q i j n : Int) (hp : 0 ≤ p ∧ p < 8) (hi : 0 ≤ i) (hn : i + n ≤ 160) : ∀ (m : Nat) (k : Int) (σ : aM) (a6 : Int), 0 ≤ k → k + m = n → ev 134 187 [aR 25 0, aI p, aI q, aI i, aI j, aI n, aI a6, aI k] [] (kL σ 31 0 (160 * p + i) 32 0 0 k) = ev 134 222 [aR 25 0, aI p, aI q, aI i, aI j, aI n, aI a6, aI n] [] (kL σ 31 0 (160 * p + i) 32 0 0 n) := by
  intro m
  induction m with
  | zero =>
    intro k σ a6 h0 h1
    have e : k = n := by omega
    subst e
    rw [e_Md_copy_187]
    simp (disch := omega) only [e_Md_copy_189, e_Md_copy_191, if_pos (Int.le_refl k)]
  | succ m ih =>
    intro k σ a6 h0 h1
    have e1 : gL (kL σ 31 0 (160 * p + i) 32 0 0 k) 31 0 (160 * p + i + k) = gL σ 31 0 (160 * p + i + k) := by rw [gL_kL', if_neg (by omega)]
    have e2 := kL_s σ 31 0 (160 * p + i) 32 0 0 h0
    rw [Int.zero_add] at e2
    rw [e_Md_copy_187]
    simp (disch := omega) only [e_Md_copy_189, e_Md_copy_191, e_Md_copy_194, e_Md_copy_195, e_Md_copy_198, e_Md_copy_200, e_Md_copy_201, e_Md_copy_204, e_Md_copy_207, e_Md_copy_208, e_Md_copy_209, e_Md_copy_210, e_Md_copy_211, e_Md_copy_213, e_Md_copy_214, e_Md_copy_215, e_Md_copy_216, e_Md_copy_219, if_neg (show ¬ n ≤ k by omega), wr_id, e1, e2, ih]
theorem l_Md_copy2 (p q i j n : Int) (hq : 0 ≤ q ∧ q < 8) (hj : 0 ≤ j) (hn : j + n ≤ 160) : ∀ (m : Nat) (k : Int) (σ : aM) (a6 : Int), 0 ≤ k → k + m = n → ev 134 225 [aR 25 0, aI p, aI q, aI i, aI j, aI n, aI a6, aI k] [] (kL σ 32 0 0 31 0 (160 * q + j) k) = some (some (aI 1), kL σ 32 0 0 31 0 (160 * q + j) n) := by
  intro m
  induction m with
  | zero =>
    intro k σ a6 h0 h1
    have e : k = n := by omega
    subst e
    rw [e_Md_copy_225]
    simp (disch := omega) only [e_Md_copy_227, e_Md_copy_229, e_Md_copy_261, e_Md_copy_262, if_pos (Int.le_refl k)]
  | succ m ih =>
    intro k σ a6 h0 h1
    have e1 : gL (kL σ 32 0 0 31 0 (160 * q + j) k) 32 0 k = gL σ 32 0 k := by rw [gL_kL', if_neg (by omega)]
    have e2 := kL_s σ 32 0 0 31 0 (160 * q + j) h0
    rw [Int.zero_add] at e2
    rw [e_Md_copy_225]
    simp (disch := omega) only [e_Md_copy_227, e_Md_copy_229, e_Md_copy_232, e_Md_copy_233, e_Md_copy_236, e_Md_copy_239, e_Md_copy_240, e_Md_copy_241, e_Md_copy_243, e_Md_copy_244, e_Md_copy_246, e_Md_copy_247, e_Md_copy_248, e_Md_copy_251, e_Md_copy_253, e_Md_copy_254, e_Md_copy_255, e_Md_copy_258, if_neg (show ¬ n ≤ k by omega), wr_id, e1, e2, ih]
theorem PR_copy {μ : aM} {B : Int} (hI : Inv μ B) (p q i j n : Int) (hii : -2147483648 ≤ i ∧ i < 2147483648) (hjj : -2147483648 ≤ j ∧ j < 2147483648) (hnn : -2147483648 ≤ n ∧ n < 2147483648) : PR B μ (fun σ => ev 80 0 [aR 0 0, aI p, aI q, aI i, aI j, aI n, aU, aU] [] σ) (fun σ => ev 134 0 [aR 25 0, aI p, aI q, aI i, aI j, aI n, aU, aU] [] σ) := by
  by_cases h : (0 ≤ p ∧ p < 8) ∧ (0 ≤ q ∧ q < 8)
  · have u0 : ev 80 0 [aR 0 0, aI p, aI q, aI i, aI j, aI n, aU, aU] [] μ = ev 80 36 [aR 0 0, aI p, aI q, aI i, aI j, aI n, aR 2 p, aR 2 q] [] μ := by
      simp (disch := omega) only [e_Ub_copy_0, e_Ub_copy_1, e_Ub_copy_4, e_Ub_copy_7, e_Ub_copy_8, e_Ub_copy_11, e_Ub_copy_14, e_Ub_copy_15, e_Ub_copy_16, e_Ub_copy_19, e_Ub_copy_20, e_Ub_copy_21, e_Ub_copy_24, e_Ub_copy_25, e_Ub_copy_26, e_Ub_copy_28, e_Ub_copy_29, e_Ub_copy_32, e_Ub_copy_33, e_Ub_copy_34, c_Ub_isShelf, evK_i, if_pos h.1, if_pos h.2, one_ne, if_false, not_false_eq_true, if_true]
    have m0 : ∀ σ, ev 134 0 [aR 25 0, aI p, aI q, aI i, aI j, aI n, aU, aU] [] σ = ev 134 20 [aR 25 0, aI p, aI q, aI i, aI j, aI n, aU, aU] [] σ := fun σ => by
      simp (disch := omega) only [e_Md_copy_0, e_Md_copy_1, e_Md_copy_4, e_Md_copy_7, e_Md_copy_8, e_Md_copy_11, e_Md_copy_14, e_Md_copy_15, e_Md_copy_16, c_Md_isShelf, evK_i, if_pos h.1, if_pos h.2, one_ne, if_false, not_false_eq_true, if_true]
    have o1 := c_Sh_holdsOrder p μ
    have o2 := c_Sh_holdsOrder q μ
    have r1 := c_Sh_holdsRow p μ
    have r2 := c_Sh_holdsRow q μ
    have sp := hI.2.2.1 p h.1.1 h.1.2
    have sq := hI.2.2.1 q h.2.1 h.2.2
    have a1 : (¬ gI μ 2 p 3 = -1) = (gI μ 29 0 p = 4) := propext (by rcases sp with z | z | z <;> omega)
    have a2 : (¬ gI μ 2 q 3 = -1) = (gI μ 29 0 q = 4) := propext (by rcases sq with z | z | z <;> omega)
    have b1 : ¬ gI μ 29 0 p = 4 → gI μ 2 p 2 = gI μ 29 0 p := fun y => by rcases sp with z | z | z <;> omega
    have b2 : ¬ gI μ 29 0 q = 4 → gI μ 2 q 2 = gI μ 29 0 q := fun y => by rcases sq with z | z | z <;> omega
    simp only [a1] at o1
    simp only [a2] at o2
    have mo : ∀ σ, (∀ k, gI σ 29 0 k = gI μ 29 0 k) → (gI μ 29 0 p = 4 ∨ gI μ 29 0 q = 4 ∨ (¬ gI μ 29 0 p = -1 ∧ ¬ gI μ 29 0 q = -1 ∧ ¬ gI μ 29 0 p = gI μ 29 0 q)) → ev 134 20 [aR 25 0, aI p, aI q, aI i, aI j, aI n, aU, aU] [] σ = ev 124 0 [aR 25 0, aI (-2)] [] σ := fun σ h29 hh => by
      rw [c_Md_refused _ _ (by omega)]
      by_cases y1 : gI μ 29 0 p = 4
      · simp (disch := omega) only [e_Md_copy_20, e_Md_copy_21, e_Md_copy_24, e_Md_copy_25, e_Md_copy_26, e_Md_copy_27, e_Md_copy_30, e_Md_copy_31, e_Md_copy_34, e_Md_copy_35, e_Md_copy_36, e_Md_copy_37, e_Md_copy_40, e_Md_copy_41, e_Md_copy_44, e_Md_copy_45, e_Md_copy_46, e_Md_copy_47, e_Md_copy_50, e_Md_copy_51, e_Md_copy_54, e_Md_copy_55, e_Md_copy_56, e_Md_copy_57, e_Md_copy_60, e_Md_copy_61, e_Md_copy_64, e_Md_copy_65, e_Md_copy_66, e_Md_copy_67, e_Md_copy_70, e_Md_copy_71, e_Md_copy_72, e_Md_copy_75, e_Md_copy_76, e_Md_copy_79, e_Md_copy_80, e_Md_copy_82, e_Md_copy_84, e_Md_copy_87, e_Md_copy_88, e_Md_copy_90, e_Md_copy_93, h29, if_pos y1, one_ne, if_false, evK_i, c_Md_refused]
      · by_cases y2 : gI μ 29 0 q = 4
        · simp (disch := omega) only [e_Md_copy_20, e_Md_copy_21, e_Md_copy_24, e_Md_copy_25, e_Md_copy_26, e_Md_copy_27, e_Md_copy_30, e_Md_copy_31, e_Md_copy_34, e_Md_copy_35, e_Md_copy_36, e_Md_copy_37, e_Md_copy_40, e_Md_copy_41, e_Md_copy_44, e_Md_copy_45, e_Md_copy_46, e_Md_copy_47, e_Md_copy_50, e_Md_copy_51, e_Md_copy_54, e_Md_copy_55, e_Md_copy_56, e_Md_copy_57, e_Md_copy_60, e_Md_copy_61, e_Md_copy_64, e_Md_copy_65, e_Md_copy_66, e_Md_copy_67, e_Md_copy_70, e_Md_copy_71, e_Md_copy_72, e_Md_copy_75, e_Md_copy_76, e_Md_copy_79, e_Md_copy_80, e_Md_copy_82, e_Md_copy_84, e_Md_copy_87, e_Md_copy_88, e_Md_copy_90, e_Md_copy_93, h29, if_neg y1, if_pos y2, one_ne, if_false, evK_i, c_Md_refused]
        · have y3 : ¬ gI μ 29 0 p = -1 ∧ ¬ gI μ 29 0 q = -1 ∧ ¬ gI μ 29 0 p = gI μ 29 0 q := by omega
          simp (disch := omega) only [e_Md_copy_20, e_Md_copy_21, e_Md_copy_24, e_Md_copy_25, e_Md_copy_26, e_Md_copy_27, e_Md_copy_30, e_Md_copy_31, e_Md_copy_34, e_Md_copy_35, e_Md_copy_36, e_Md_copy_37, e_Md_copy_40, e_Md_copy_41, e_Md_copy_44, e_Md_copy_45, e_Md_copy_46, e_Md_copy_47, e_Md_copy_50, e_Md_copy_51, e_Md_copy_54, e_Md_copy_55, e_Md_copy_56, e_Md_copy_57, e_Md_copy_60, e_Md_copy_61, e_Md_copy_64, e_Md_copy_65, e_Md_copy_66, e_Md_copy_67, e_Md_copy_70, e_Md_copy_71, e_Md_copy_72, e_Md_copy_75, e_Md_copy_76, e_Md_copy_79, e_Md_copy_80, e_Md_copy_82, e_Md_copy_84, e_Md_copy_87, e_Md_copy_88, e_Md_copy_90, e_Md_copy_93, h29, if_neg y1, if_neg y2, if_neg y3.1, if_neg y3.2.1, if_neg y3.2.2, one_ne, if_false, evK_i, c_Md_refused]
    have mn : ∀ σ, (∀ k, gI σ 29 0 k = gI μ 29 0 k) → ¬ (gI μ 29 0 p = 4 ∨ gI μ 29 0 q = 4 ∨ (¬ gI μ 29 0 p = -1 ∧ ¬ gI μ 29 0 q = -1 ∧ ¬ gI μ 29 0 p = gI μ 29 0 q)) → ev 134 20 [aR 25 0, aI p, aI q, aI i, aI j, aI n, aU, aU] [] σ = ev 134 94 [aR 25 0, aI p, aI q, aI i, aI j, aI n, aI 0, aU] [] σ := fun σ h29 hh => by
      by_cases y3 : gI μ 29 0 p = -1
      · simp (disch := omega) only [e_Md_copy_20, e_Md_copy_21, e_Md_copy_24, e_Md_copy_25, e_Md_copy_26, e_Md_copy_27, e_Md_copy_30, e_Md_copy_31, e_Md_copy_34, e_Md_copy_35, e_Md_copy_36, e_Md_copy_37, e_Md_copy_40, e_Md_copy_41, e_Md_copy_44, e_Md_copy_45, e_Md_copy_46, e_Md_copy_47, e_Md_copy_50, e_Md_copy_51, e_Md_copy_54, e_Md_copy_55, e_Md_copy_56, e_Md_copy_57, e_Md_copy_60, e_Md_copy_61, e_Md_copy_64, e_Md_copy_65, e_Md_copy_66, e_Md_copy_67, e_Md_copy_70, e_Md_copy_71, e_Md_copy_72, e_Md_copy_75, e_Md_copy_76, e_Md_copy_79, e_Md_copy_80, e_Md_copy_82, e_Md_copy_84, h29, if_neg (show ¬ gI μ 29 0 p = 4 by omega), if_neg (show ¬ gI μ 29 0 q = 4 by omega), if_pos y3, if_true]
      · by_cases y4 : gI μ 29 0 q = -1
        · simp (disch := omega) only [e_Md_copy_20, e_Md_copy_21, e_Md_copy_24, e_Md_copy_25, e_Md_copy_26, e_Md_copy_27, e_Md_copy_30, e_Md_copy_31, e_Md_copy_34, e_Md_copy_35, e_Md_copy_36, e_Md_copy_37, e_Md_copy_40, e_Md_copy_41, e_Md_copy_44, e_Md_copy_45, e_Md_copy_46, e_Md_copy_47, e_Md_copy_50, e_Md_copy_51, e_Md_copy_54, e_Md_copy_55, e_Md_copy_56, e_Md_copy_57, e_Md_copy_60, e_Md_copy_61, e_Md_copy_64, e_Md_copy_65, e_Md_copy_66, e_Md_copy_67, e_Md_copy_70, e_Md_copy_71, e_Md_copy_72, e_Md_copy_75, e_Md_copy_76, e_Md_copy_79, e_Md_copy_80, e_Md_copy_82, e_Md_copy_84, h29, if_neg (show ¬ gI μ 29 0 p = 4 by omega), if_neg (show ¬ gI μ 29 0 q = 4 by omega), if_neg y3, if_pos y4, if_true]
        · simp (disch := omega) only [e_Md_copy_20, e_Md_copy_21, e_Md_copy_24, e_Md_copy_25, e_Md_copy_26, e_Md_copy_27, e_Md_copy_30, e_Md_copy_31, e_Md_copy_34, e_Md_copy_35, e_Md_copy_36, e_Md_copy_37, e_Md_copy_40, e_Md_copy_41, e_Md_copy_44, e_Md_copy_45, e_Md_copy_46, e_Md_copy_47, e_Md_copy_50, e_Md_copy_51, e_Md_copy_54, e_Md_copy_55, e_Md_copy_56, e_Md_copy_57, e_Md_copy_60, e_Md_copy_61, e_Md_copy_64, e_Md_copy_65, e_Md_copy_66, e_Md_copy_67, e_Md_copy_70, e_Md_copy_71, e_Md_copy_72, e_Md_copy_75, e_Md_copy_76, e_Md_copy_79, e_Md_copy_80, e_Md_copy_82, e_Md_copy_84, h29, if_neg (show ¬ gI μ 29 0 p = 4 by omega), if_neg (show ¬ gI μ 29 0 q = 4 by omega), if_neg y3, if_neg y4, if_pos (show gI μ 29 0 p = gI μ 29 0 q by omega), if_true]
    by_cases hh : gI μ 29 0 p = 4 ∨ gI μ 29 0 q = 4 ∨ (¬ gI μ 29 0 p = -1 ∧ ¬ gI μ 29 0 q = -1 ∧ ¬ gI μ 29 0 p = gI μ 29 0 q)
    · refine PR_rfE (r := -2) hI (by omega) ?_ ?_
      · show ev 80 0 [aR 0 0, aI p, aI q, aI i, aI j, aI n, aU, aU] [] μ = _
        rw [u0, c_Ub_refuse _ _ (by omega)]
        by_cases y1 : gI μ 29 0 p = 4
        · rw [if_pos y1] at o1
          simp (disch := omega) only [e_Ub_copy_36, e_Ub_copy_38, e_Ub_copy_41, e_Ub_copy_44, e_Ub_copy_46, e_Ub_copy_49, e_Ub_copy_52, e_Ub_copy_53, e_Ub_copy_55, e_Ub_copy_58, e_Ub_copy_59, e_Ub_copy_61, e_Ub_copy_64, e_Ub_copy_67, e_Ub_copy_69, e_Ub_copy_72, e_Ub_copy_75, e_Ub_copy_77, e_Ub_copy_80, e_Ub_copy_82, e_Ub_copy_85, e_Ub_copy_88, e_Ub_copy_89, e_Ub_copy_91, e_Ub_copy_94, o1, evK_i, one_ne, not_false_eq_true, if_true, c_Ub_refuse]
        · rw [if_neg y1] at o1
          by_cases y2 : gI μ 29 0 q = 4
          · rw [if_pos y2] at o2
            simp (disch := omega) only [e_Ub_copy_36, e_Ub_copy_38, e_Ub_copy_41, e_Ub_copy_44, e_Ub_copy_46, e_Ub_copy_49, e_Ub_copy_52, e_Ub_copy_53, e_Ub_copy_55, e_Ub_copy_58, e_Ub_copy_59, e_Ub_copy_61, e_Ub_copy_64, e_Ub_copy_67, e_Ub_copy_69, e_Ub_copy_72, e_Ub_copy_75, e_Ub_copy_77, e_Ub_copy_80, e_Ub_copy_82, e_Ub_copy_85, e_Ub_copy_88, e_Ub_copy_89, e_Ub_copy_91, e_Ub_copy_94, o1, o2, evK_i, one_ne, not_true_eq_false, if_false, c_Ub_refuse]
          · rw [if_neg y2] at o2
            rw [b1 y1, if_pos (by omega)] at r1
            rw [b2 y2, if_pos (by omega)] at r2
            simp (disch := omega) only [e_Ub_copy_36, e_Ub_copy_38, e_Ub_copy_41, e_Ub_copy_44, e_Ub_copy_46, e_Ub_copy_49, e_Ub_copy_52, e_Ub_copy_53, e_Ub_copy_55, e_Ub_copy_58, e_Ub_copy_59, e_Ub_copy_61, e_Ub_copy_64, e_Ub_copy_67, e_Ub_copy_69, e_Ub_copy_72, e_Ub_copy_75, e_Ub_copy_77, e_Ub_copy_80, e_Ub_copy_82, e_Ub_copy_85, e_Ub_copy_88, e_Ub_copy_89, e_Ub_copy_91, e_Ub_copy_94, o1, o2, r1, r2, evK_i, one_ne, not_true_eq_false, if_false, if_true, b1 y1, b2 y2, if_neg (show ¬ gI μ 29 0 p = gI μ 29 0 q by omega), c_Ub_refuse]
      · show ev 134 0 [aR 25 0, aI p, aI q, aI i, aI j, aI n, aU, aU] [] (rf4 μ (- -2)) = _
        rw [m0, mo _ (fun k => g_rf4 _ _ _ _ _ (by decide)) hh]
    · have y1 : ¬ gI μ 29 0 p = 4 := by omega
      have y2 : ¬ gI μ 29 0 q = 4 := by omega
      rw [if_neg y1] at o1
      rw [if_neg y2] at o2
      rw [b1 y1] at r1
      rw [b2 y2] at r2
      by_cases g : gI μ 29 0 p = -1 ∨ gI μ 29 0 q = -1
      · refine PR_rfE (r := -3) hI (by omega) ?_ ?_
        · show ev 80 0 [aR 0 0, aI p, aI q, aI i, aI j, aI n, aU, aU] [] μ = _
          rw [u0, c_Ub_refuse _ _ (by omega)]
          by_cases y3 : gI μ 29 0 p = -1
          · rw [if_neg (by omega)] at r1
            simp (disch := omega) only [e_Ub_copy_36, e_Ub_copy_38, e_Ub_copy_41, e_Ub_copy_44, e_Ub_copy_46, e_Ub_copy_49, e_Ub_copy_52, e_Ub_copy_53, e_Ub_copy_55, e_Ub_copy_58, e_Ub_copy_59, e_Ub_copy_61, e_Ub_copy_64, e_Ub_copy_67, e_Ub_copy_69, e_Ub_copy_72, e_Ub_copy_75, e_Ub_copy_77, e_Ub_copy_80, e_Ub_copy_82, e_Ub_copy_85, e_Ub_copy_88, e_Ub_copy_89, e_Ub_copy_91, e_Ub_copy_94, e_Ub_copy_95, e_Ub_copy_97, e_Ub_copy_100, e_Ub_copy_103, e_Ub_copy_105, e_Ub_copy_108, e_Ub_copy_111, e_Ub_copy_112, e_Ub_copy_114, e_Ub_copy_117, o1, o2, r1, evK_i, not_true_eq_false, if_false, if_true, c_Ub_refuse]
          · rw [if_pos y3] at r1
            rw [if_neg (by omega)] at r2
            simp (disch := omega) only [e_Ub_copy_36, e_Ub_copy_38, e_Ub_copy_41, e_Ub_copy_44, e_Ub_copy_46, e_Ub_copy_49, e_Ub_copy_52, e_Ub_copy_53, e_Ub_copy_55, e_Ub_copy_58, e_Ub_copy_59, e_Ub_copy_61, e_Ub_copy_64, e_Ub_copy_67, e_Ub_copy_69, e_Ub_copy_72, e_Ub_copy_75, e_Ub_copy_77, e_Ub_copy_80, e_Ub_copy_82, e_Ub_copy_85, e_Ub_copy_88, e_Ub_copy_89, e_Ub_copy_91, e_Ub_copy_94, e_Ub_copy_95, e_Ub_copy_97, e_Ub_copy_100, e_Ub_copy_103, e_Ub_copy_105, e_Ub_copy_108, e_Ub_copy_111, e_Ub_copy_112, e_Ub_copy_114, e_Ub_copy_117, o1, o2, r1, r2, evK_i, one_ne, not_true_eq_false, if_false, if_true, c_Ub_refuse]
        · show ev 134 0 [aR 25 0, aI p, aI q, aI i, aI j, aI n, aU, aU] [] (rf4 μ (- -3)) = _
          have h29 : ∀ k, gI (rf4 μ (- -3)) 29 0 k = gI μ 29 0 k := fun k => g_rf4 _ _ _ _ _ (by decide)
          rw [m0, mn _ h29 hh, c_Md_refused _ _ (by omega)]
          by_cases y3 : gI μ 29 0 p = -1
          · simp (disch := omega) only [e_Md_copy_94, e_Md_copy_95, e_Md_copy_98, e_Md_copy_99, e_Md_copy_100, e_Md_copy_101, e_Md_copy_104, e_Md_copy_105, e_Md_copy_108, e_Md_copy_109, e_Md_copy_110, e_Md_copy_111, e_Md_copy_114, e_Md_copy_115, e_Md_copy_117, e_Md_copy_120, h29, if_pos y3, evK_i, c_Md_refused]
          · simp (disch := omega) only [e_Md_copy_94, e_Md_copy_95, e_Md_copy_98, e_Md_copy_99, e_Md_copy_100, e_Md_copy_101, e_Md_copy_104, e_Md_copy_105, e_Md_copy_108, e_Md_copy_109, e_Md_copy_110, e_Md_copy_111, e_Md_copy_114, e_Md_copy_115, e_Md_copy_117, e_Md_copy_120, h29, if_neg y3, if_neg (show ¬ ¬ gI μ 29 0 q = -1 by omega), evK_i, c_Md_refused]
      · have y3 : ¬ gI μ 29 0 p = -1 := by omega
        have y4 : ¬ gI μ 29 0 q = -1 := by omega
        have ye : gI μ 29 0 p = gI μ 29 0 q := by omega
        rw [if_pos y3] at r1
        rw [if_pos y4] at r2
        obtain ⟨p1, p2, p3, p4, p5, p6⟩ : (0 ≤ gI μ 2 p 2 ∧ gI μ 2 p 2 ≤ 3) ∧ gI μ 2 p 3 = -1 ∧ (0 ≤ gI μ 2 p 1 ∧ gI μ 2 p 1 ≤ 160) ∧ gI μ 29 0 p = gI μ 2 p 2 ∧ gI μ 30 0 p = gI μ 2 p 1 ∧ ∀ j, 0 ≤ j → j < gI μ 2 p 1 → gL μ 31 0 (160 * p + j) = gL μ 3 p j := by
          rcases sp with z | z | z
          · omega
          · exact z
          · omega
        obtain ⟨q1, q2, q3, q4, q5, q6⟩ : (0 ≤ gI μ 2 q 2 ∧ gI μ 2 q 2 ≤ 3) ∧ gI μ 2 q 3 = -1 ∧ (0 ≤ gI μ 2 q 1 ∧ gI μ 2 q 1 ≤ 160) ∧ gI μ 29 0 q = gI μ 2 q 2 ∧ gI μ 30 0 q = gI μ 2 q 1 ∧ ∀ j, 0 ≤ j → j < gI μ 2 q 1 → gL μ 31 0 (160 * q + j) = gL μ 3 q j := by
          rcases sq with z | z | z
          · omega
          · exact z
          · omega
        have u1 : ev 80 36 [aR 0 0, aI p, aI q, aI i, aI j, aI n, aR 2 p, aR 2 q] [] μ = ev 80 118 [aR 0 0, aI p, aI q, aI i, aI j, aI n, aR 2 p, aR 2 q] [] μ := by
          simp (disch := omega) only [e_Ub_copy_36, e_Ub_copy_38, e_Ub_copy_41, e_Ub_copy_44, e_Ub_copy_46, e_Ub_copy_49, e_Ub_copy_52, e_Ub_copy_53, e_Ub_copy_55, e_Ub_copy_58, e_Ub_copy_59, e_Ub_copy_61, e_Ub_copy_64, e_Ub_copy_67, e_Ub_copy_69, e_Ub_copy_72, e_Ub_copy_75, e_Ub_copy_77, e_Ub_copy_80, e_Ub_copy_82, e_Ub_copy_85, e_Ub_copy_88, e_Ub_copy_89, e_Ub_copy_91, e_Ub_copy_94, e_Ub_copy_95, e_Ub_copy_97, e_Ub_copy_100, e_Ub_copy_103, e_Ub_copy_105, e_Ub_copy_108, o1, o2, r1, r2, evK_i, one_ne, not_true_eq_false, not_false_eq_true, if_false, if_true, b1 y1, b2 y2, if_pos ye]
        have m1 : ∀ σ, (∀ k, gI σ 29 0 k = gI μ 29 0 k) → ev 134 94 [aR 25 0, aI p, aI q, aI i, aI j, aI n, aI 0, aU] [] σ = ev 134 121 [aR 25 0, aI p, aI q, aI i, aI j, aI n, aI 0, aU] [] σ := fun σ h29 => by
          simp (disch := omega) only [e_Md_copy_94, e_Md_copy_95, e_Md_copy_98, e_Md_copy_99, e_Md_copy_100, e_Md_copy_101, e_Md_copy_104, e_Md_copy_105, e_Md_copy_108, e_Md_copy_109, e_Md_copy_110, e_Md_copy_111, h29, if_neg y3, if_pos y4]
        by_cases hn : 0 ≤ n
        · have s1 := c_Sh_hasSpan p i n μ ⟨p3.1, by omega, hnn.2⟩
          have s2 := c_Sh_hasSpan q j n μ ⟨q3.1, by omega, hnn.2⟩
          have u2 : ev 80 118 [aR 0 0, aI p, aI q, aI i, aI j, aI n, aR 2 p, aR 2 q] [] μ = ev 80 130 [aR 0 0, aI p, aI q, aI i, aI j, aI n, aR 2 p, aR 2 q] [] μ := by
            simp (disch := omega) only [e_Ub_copy_118, e_Ub_copy_120, if_pos hn]
          have m2 : ∀ σ, ev 134 121 [aR 25 0, aI p, aI q, aI i, aI j, aI n, aI 0, aU] [] σ = ev 134 133 [aR 25 0, aI p, aI q, aI i, aI j, aI n, aI 0, aU] [] σ := fun σ => by
            simp (disch := omega) only [e_Md_copy_121, e_Md_copy_123, if_pos hn]
          by_cases hb : (0 ≤ i ∧ i + n ≤ gI μ 2 p 1) ∧ (0 ≤ j ∧ j + n ≤ gI μ 2 q 1)
          · rw [if_pos ⟨hb.1.1, hn, hb.1.2⟩] at s1
            rw [if_pos ⟨hb.2.1, hn, hb.2.2⟩] at s2
            refine ⟨1, kL μ 3 p i 3 q j n, kL (kL (kL μ 3 p i 3 q j n) 31 0 (160 * p + i) 32 0 0 n) 32 0 0 31 0 (160 * q + j) n, ?_, ?_, Inv_mono (Inv_sh (s := q) hI (fun t i j z => rfl) (fun t i' j' z => ?_) ?_) (by omega)⟩
            · show ev 80 0 [aR 0 0, aI p, aI q, aI i, aI j, aI n, aU, aU] [] μ = _
              rw [u0, u1, u2]
              simp (disch := omega) only [e_Ub_copy_130, e_Ub_copy_132, e_Ub_copy_133, e_Ub_copy_135, e_Ub_copy_138, e_Ub_copy_141, e_Ub_copy_143, e_Ub_copy_145, e_Ub_copy_147, e_Ub_copy_150, e_Ub_copy_153, e_Ub_copy_154, e_Ub_copy_156, e_Ub_copy_159, e_Ub_copy_160, e_Ub_copy_162, e_Ub_copy_165, e_Ub_copy_166, e_Ub_copy_168, e_Ub_copy_171, e_Ub_copy_173, e_Ub_copy_175, e_Ub_copy_178, e_Ub_copy_179, s1, s2, evK_i, one_ne, if_false, not_false_eq_true, if_true]
            · show ev 134 0 [aR 25 0, aI p, aI q, aI i, aI j, aI n, aU, aU] [] (kL μ 3 p i 3 q j n) = _
              have h29 : ∀ k, gI (kL μ 3 p i 3 q j n) 29 0 k = gI μ 29 0 k := fun k => rfl
              have h30p : gI (kL μ 3 p i 3 q j n) 30 0 p = gI μ 2 p 1 := p5
              have h30q : gI (kL μ 3 p i 3 q j n) 30 0 q = gI μ 2 q 1 := q5
              have c1 := l_Md_copy1 p q i j n h.1 hb.1.1 (by omega) n.toNat 0 (kL μ 3 p i 3 q j n) 0 (by omega) (by omega)
              have c2 := l_Md_copy2 p q i j n h.2 hb.2.1 (by omega) n.toNat 0 (kL (kL μ 3 p i 3 q j n) 31 0 (160 * p + i) 32 0 0 n) 0 (by omega) (by omega)
              rw [kL_0] at c1 c2
              rw [m0, mn _ h29 hh, m1 _ h29, m2]
              simp (disch := omega) only [e_Md_copy_133, e_Md_copy_134, e_Md_copy_137, e_Md_copy_139, e_Md_copy_142, e_Md_copy_143, e_Md_copy_144, e_Md_copy_146, e_Md_copy_147, e_Md_copy_148, e_Md_copy_149, e_Md_copy_152, e_Md_copy_153, e_Md_copy_154, e_Md_copy_155, e_Md_copy_156, e_Md_copy_159, e_Md_copy_161, e_Md_copy_162, e_Md_copy_164, e_Md_copy_165, e_Md_copy_166, e_Md_copy_167, e_Md_copy_170, e_Md_copy_171, e_Md_copy_172, e_Md_copy_173, e_Md_copy_174, e_Md_copy_177, e_Md_copy_178, e_Md_copy_180, e_Md_copy_183, e_Md_copy_184, e_Md_copy_185, if_neg (show ¬ i < 0 by omega), if_neg (show ¬ j < 0 by omega), h30p, h30q, gt_toj, le_toj, if_neg (show ¬ gI μ 2 p 1 < i + n by omega), if_pos hb.2.2, c1]
              simp (disch := omega) only [e_Md_copy_222, e_Md_copy_223, c2]
            · rw [gL_kL', if_neg (by omega), gL_kL', if_neg (by omega), gL_kL', if_neg (by omega)]
            · refine Or.inr (Or.inl ⟨q1, q2, q3, q4, q5, fun x x0 x1 => ?_⟩)
              have x1 : x < gI μ 2 q 1 := x1
              rw [gL_kL', gL_kL' (kL (kL μ 3 p i 3 q j n) 31 0 (160 * p + i) 32 0 0 n) 32 0 0 31 0 (160 * q + j) n 3, if_neg (show ¬ (3 = 31 ∧ q = 0 ∧ 160 * q + j ≤ x ∧ x < 160 * q + j + n) by omega)]
              by_cases w : j ≤ x ∧ x < j + n
              · rw [if_pos (by omega), gL_kL', if_pos (by omega), gL_kL', if_neg (by omega), gL_kL', if_neg (by omega), gL_kL', if_pos (by omega)]
                have := p6 (i + (x - j)) (by omega) (by omega)
                rw [show 160 * q + x - (160 * q + j) + 0 - 0 + (160 * p + i) = 160 * p + (i + (x - j)) by omega, this]
                congr 1
                omega
              · rw [if_neg (by omega), gL_kL', if_neg (by omega), gL_kL', if_neg (by omega), gL_kL', if_neg (by omega), gL_kL', if_neg (by omega)]
                exact q6 x x0 x1
          · refine PR_rfE (r := -5) hI (by omega) ?_ ?_
            · show ev 80 0 [aR 0 0, aI p, aI q, aI i, aI j, aI n, aU, aU] [] μ = _
              rw [u0, u1, u2, c_Ub_refuse _ _ (by omega)]
              by_cases w : 0 ≤ i ∧ 0 ≤ n ∧ i + n ≤ gI μ 2 p 1
              · rw [if_pos w] at s1
                rw [if_neg (by omega)] at s2
                simp (disch := omega) only [e_Ub_copy_130, e_Ub_copy_132, e_Ub_copy_133, e_Ub_copy_135, e_Ub_copy_138, e_Ub_copy_141, e_Ub_copy_143, e_Ub_copy_145, e_Ub_copy_147, e_Ub_copy_150, e_Ub_copy_153, e_Ub_copy_154, e_Ub_copy_156, e_Ub_copy_159, s1, s2, evK_i, one_ne, if_false, not_true_eq_false, c_Ub_refuse]
              · rw [if_neg w] at s1
                simp (disch := omega) only [e_Ub_copy_130, e_Ub_copy_132, e_Ub_copy_133, e_Ub_copy_135, e_Ub_copy_138, e_Ub_copy_141, e_Ub_copy_143, e_Ub_copy_145, e_Ub_copy_147, e_Ub_copy_150, e_Ub_copy_153, e_Ub_copy_154, e_Ub_copy_156, e_Ub_copy_159, s1, evK_i, if_true, c_Ub_refuse]
            · show ev 134 0 [aR 25 0, aI p, aI q, aI i, aI j, aI n, aU, aU] [] (rf4 μ (- -5)) = _
              have h29 : ∀ k, gI (rf4 μ (- -5)) 29 0 k = gI μ 29 0 k := fun k => g_rf4 _ _ _ _ _ (by decide)
              have h30p : gI (rf4 μ (- -5)) 30 0 p = gI μ 2 p 1 := by rw [g_rf4 _ _ _ _ _ (by decide)]; exact p5
              have h30q : gI (rf4 μ (- -5)) 30 0 q = gI μ 2 q 1 := by rw [g_rf4 _ _ _ _ _ (by decide)]; exact q5
              rw [m0, mn _ h29 hh, m1 _ h29, m2, c_Md_refused _ _ (by omega)]
              by_cases w1 : i < 0
              · simp (disch := omega) only [e_Md_copy_133, e_Md_copy_134, e_Md_copy_137, e_Md_copy_139, e_Md_copy_142, e_Md_copy_143, e_Md_copy_144, e_Md_copy_146, e_Md_copy_147, e_Md_copy_148, e_Md_copy_149, e_Md_copy_152, e_Md_copy_153, e_Md_copy_154, e_Md_copy_155, e_Md_copy_156, e_Md_copy_159, e_Md_copy_161, e_Md_copy_162, e_Md_copy_164, e_Md_copy_165, e_Md_copy_166, e_Md_copy_167, e_Md_copy_170, e_Md_copy_171, e_Md_copy_172, e_Md_copy_173, e_Md_copy_174, e_Md_copy_177, e_Md_copy_178, e_Md_copy_180, e_Md_copy_183, if_pos w1, evK_i, c_Md_refused]
              · by_cases w2 : j < 0
                · simp (disch := omega) only [e_Md_copy_133, e_Md_copy_134, e_Md_copy_137, e_Md_copy_139, e_Md_copy_142, e_Md_copy_143, e_Md_copy_144, e_Md_copy_146, e_Md_copy_147, e_Md_copy_148, e_Md_copy_149, e_Md_copy_152, e_Md_copy_153, e_Md_copy_154, e_Md_copy_155, e_Md_copy_156, e_Md_copy_159, e_Md_copy_161, e_Md_copy_162, e_Md_copy_164, e_Md_copy_165, e_Md_copy_166, e_Md_copy_167, e_Md_copy_170, e_Md_copy_171, e_Md_copy_172, e_Md_copy_173, e_Md_copy_174, e_Md_copy_177, e_Md_copy_178, e_Md_copy_180, e_Md_copy_183, if_neg w1, if_pos w2, evK_i, c_Md_refused]
                · by_cases w3 : gI μ 2 p 1 < i + n
                  · simp (disch := omega) only [e_Md_copy_133, e_Md_copy_134, e_Md_copy_137, e_Md_copy_139, e_Md_copy_142, e_Md_copy_143, e_Md_copy_144, e_Md_copy_146, e_Md_copy_147, e_Md_copy_148, e_Md_copy_149, e_Md_copy_152, e_Md_copy_153, e_Md_copy_154, e_Md_copy_155, e_Md_copy_156, e_Md_copy_159, e_Md_copy_161, e_Md_copy_162, e_Md_copy_164, e_Md_copy_165, e_Md_copy_166, e_Md_copy_167, e_Md_copy_170, e_Md_copy_171, e_Md_copy_172, e_Md_copy_173, e_Md_copy_174, e_Md_copy_177, e_Md_copy_178, e_Md_copy_180, e_Md_copy_183, if_neg w1, if_neg w2, h30p, gt_toj, if_pos w3, evK_i, c_Md_refused]
                  · simp (disch := omega) only [e_Md_copy_133, e_Md_copy_134, e_Md_copy_137, e_Md_copy_139, e_Md_copy_142, e_Md_copy_143, e_Md_copy_144, e_Md_copy_146, e_Md_copy_147, e_Md_copy_148, e_Md_copy_149, e_Md_copy_152, e_Md_copy_153, e_Md_copy_154, e_Md_copy_155, e_Md_copy_156, e_Md_copy_159, e_Md_copy_161, e_Md_copy_162, e_Md_copy_164, e_Md_copy_165, e_Md_copy_166, e_Md_copy_167, e_Md_copy_170, e_Md_copy_171, e_Md_copy_172, e_Md_copy_173, e_Md_copy_174, e_Md_copy_177, e_Md_copy_178, e_Md_copy_180, e_Md_copy_183, if_neg w1, if_neg w2, h30p, h30q, gt_toj, le_toj, if_neg w3, if_neg (show ¬ j + n ≤ gI μ 2 q 1 by omega), evK_i, c_Md_refused]
        · refine PR_rfE (r := -4) hI (by omega) ?_ ?_
          · show ev 80 0 [aR 0 0, aI p, aI q, aI i, aI j, aI n, aU, aU] [] μ = _
            rw [u0, u1, c_Ub_refuse _ _ (by omega)]
            simp (disch := omega) only [e_Ub_copy_118, e_Ub_copy_120, e_Ub_copy_123, e_Ub_copy_124, e_Ub_copy_126, e_Ub_copy_129, if_neg hn, evK_i, c_Ub_refuse]
          · show ev 134 0 [aR 25 0, aI p, aI q, aI i, aI j, aI n, aU, aU] [] (rf4 μ (- -4)) = _
            have h29 : ∀ k, gI (rf4 μ (- -4)) 29 0 k = gI μ 29 0 k := fun k => g_rf4 _ _ _ _ _ (by decide)
            rw [m0, mn _ h29 hh, m1 _ h29, c_Md_refused _ _ (by omega)]
            simp (disch := omega) only [e_Md_copy_121, e_Md_copy_123, e_Md_copy_126, e_Md_copy_127, e_Md_copy_129, e_Md_copy_132, if_neg hn, evK_i, c_Md_refused]
  · refine PR_rfE (r := -1) hI (by omega) ?_ ?_
    · show ev 80 0 [aR 0 0, aI p, aI q, aI i, aI j, aI n, aU, aU] [] μ = _
      rw [c_Ub_refuse _ _ (by omega)]
      by_cases h1 : 0 ≤ p ∧ p < 8
      · simp (disch := omega) only [e_Ub_copy_0, e_Ub_copy_1, e_Ub_copy_4, e_Ub_copy_7, e_Ub_copy_8, e_Ub_copy_11, e_Ub_copy_14, e_Ub_copy_15, e_Ub_copy_16, e_Ub_copy_19, c_Ub_isShelf, evK_i, if_pos h1, if_neg (show ¬ (0 ≤ q ∧ q < 8) from fun z => h ⟨h1, z⟩), one_ne, if_false, not_true_eq_false, c_Ub_refuse]
      · simp (disch := omega) only [e_Ub_copy_0, e_Ub_copy_1, e_Ub_copy_4, e_Ub_copy_7, e_Ub_copy_8, e_Ub_copy_11, e_Ub_copy_14, e_Ub_copy_15, e_Ub_copy_16, e_Ub_copy_19, c_Ub_isShelf, evK_i, if_neg h1, if_true, c_Ub_refuse]
    · show ev 134 0 [aR 25 0, aI p, aI q, aI i, aI j, aI n, aU, aU] [] (rf4 μ (- -1)) = _
      rw [c_Md_refused _ _ (by omega)]
      by_cases h1 : 0 ≤ p ∧ p < 8
      · simp (disch := omega) only [e_Md_copy_0, e_Md_copy_1, e_Md_copy_4, e_Md_copy_7, e_Md_copy_8, e_Md_copy_11, e_Md_copy_14, e_Md_copy_15, e_Md_copy_16, e_Md_copy_19, c_Md_isShelf, evK_i, if_pos h1, if_neg (show ¬ (0 ≤ q ∧ q < 8) from fun z => h ⟨h1, z⟩), one_ne, if_false, not_true_eq_false, evK_i, c_Md_refused]
      · simp (disch := omega) only [e_Md_copy_0, e_Md_copy_1, e_Md_copy_4, e_Md_copy_7, e_Md_copy_8, e_Md_copy_11, e_Md_copy_14, e_Md_copy_15, e_Md_copy_16, e_Md_copy_19, c_Md_isShelf, evK_i, if_neg h1, if_true, evK_i, c_Md_refused]
