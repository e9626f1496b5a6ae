/-! the auction's price, in the reference's words -/
theorem c_Md_far (a b : Int) (σ : aM) (ha : 0 ≤ a ∧ a ≤ 100000) (hb : 0 ≤ b ∧ b ≤ 100000) : ev 183 0 [aI a, aI b] [] σ = some (some (aI (abI (a - b))), σ) := by
  unfold abI
  by_cases z : b ≤ a
  · rw [if_pos (show 0 ≤ a - b by omega)]
    simp (disch := omega) only [e_Md_far_0, e_Md_far_1, e_Md_far_2, e_Md_far_5, e_Md_far_6, e_Md_far_7, e_Md_far_8, e_Md_far_11, e_Md_far_12, e_Md_far_13, e_Md_far_14, if_pos z, wr_id]
  · rw [if_neg (show ¬ 0 ≤ a - b by omega)]
    simp (disch := omega) only [e_Md_far_0, e_Md_far_1, e_Md_far_2, e_Md_far_5, e_Md_far_6, e_Md_far_7, e_Md_far_8, e_Md_far_11, e_Md_far_12, e_Md_far_13, e_Md_far_14, if_neg z, wr_id]
    rw [show 0 - (a - b) = b - a by omega]
/-- memories that differ in the reference's notes on the auction alone -/
def FrV (σ τ : aM) : Prop := τ.2 = σ.2 ∧ ∀ t i j, ¬ (t = 25 ∧ 19 ≤ j ∧ j ≤ 21) → gI τ t i j = gI σ t i j
theorem FrV.rfl (σ : aM) : FrV σ σ := ⟨Eq.refl _, fun _ _ _ _ => Eq.refl _⟩
theorem FrV.u {σ τ : aM} (h : FrV σ τ) (i j v : Int) (hj : 19 ≤ j ∧ j ≤ 21) : FrV σ (uI τ 25 i j v) := ⟨h.1, fun t' i' j' h1 => by
  rw [gI_uI, if_neg (fun q => h1 (by obtain ⟨q1, _, q3⟩ := q; exact ⟨q1, by omega, by omega⟩))]
  exact h.2 t' i' j' h1⟩
theorem FrV.k {σ τ : aM} (h : FrV σ τ) (k : Int) : gI τ 26 0 k = gI σ 26 0 k := h.2 _ _ _ (by omega)
theorem vA_b (σ : aM) (i p b e sd pr lf : Int) (hi : 0 ≤ i ∧ i < 60) (h3 : gI σ 26 0 (120 + i) = sd) (h7 : gI σ 26 0 (300 + i) = pr) (h4 : gI σ 26 0 (180 + i) = lf) (hb : gI σ 25 0 19 = b) (hr : (0 ≤ b ∧ b ≤ 100000) ∧ (0 ≤ lf ∧ lf ≤ 999)) : ev 182 46 [aR 25 0, aI p, aI i, aI e] [] σ = ev 182 99 [aR 25 0, aI p, aI i, aI e] [] (uI σ 25 0 19 (b + if ¬ e = 0 ∧ sd = 0 ∧ p ≤ pr then lf else 0)) := by
  by_cases z1 : e = 0
  · rw [if_neg (fun y => y.1 z1)]
    simp (disch := omega) only [e_Md_volumeAt_46, e_Md_volumeAt_47, e_Md_volumeAt_48, e_Md_volumeAt_51, e_Md_volumeAt_52, e_Md_volumeAt_55, e_Md_volumeAt_56, e_Md_volumeAt_59, e_Md_volumeAt_61, e_Md_volumeAt_62, e_Md_volumeAt_63, e_Md_volumeAt_64, e_Md_volumeAt_67, e_Md_volumeAt_68, e_Md_volumeAt_71, e_Md_volumeAt_74, e_Md_volumeAt_75, e_Md_volumeAt_76, e_Md_volumeAt_77, e_Md_volumeAt_78, e_Md_volumeAt_81, e_Md_volumeAt_82, e_Md_volumeAt_85, e_Md_volumeAt_88, e_Md_volumeAt_89, e_Md_volumeAt_90, e_Md_volumeAt_91, e_Md_volumeAt_94, e_Md_volumeAt_95, e_Md_volumeAt_96, hb, if_pos z1, wr_id]
  · by_cases z2 : sd = 0
    · by_cases z3 : p ≤ pr
      · rw [if_pos ⟨z1, z2, z3⟩]
        simp (disch := omega) only [e_Md_volumeAt_46, e_Md_volumeAt_47, e_Md_volumeAt_48, e_Md_volumeAt_51, e_Md_volumeAt_52, e_Md_volumeAt_55, e_Md_volumeAt_56, e_Md_volumeAt_59, e_Md_volumeAt_61, e_Md_volumeAt_62, e_Md_volumeAt_63, e_Md_volumeAt_64, e_Md_volumeAt_67, e_Md_volumeAt_68, e_Md_volumeAt_71, e_Md_volumeAt_74, e_Md_volumeAt_75, e_Md_volumeAt_76, e_Md_volumeAt_77, e_Md_volumeAt_78, e_Md_volumeAt_81, e_Md_volumeAt_82, e_Md_volumeAt_85, e_Md_volumeAt_88, e_Md_volumeAt_89, e_Md_volumeAt_90, e_Md_volumeAt_91, e_Md_volumeAt_94, e_Md_volumeAt_95, e_Md_volumeAt_96, hb, if_neg z1, wr_id, h3, h7, h4, if_neg (show ¬ ¬ sd = 0 from fun y => y z2), if_neg (show ¬ pr < p by omega)]
      · rw [if_neg (fun y => z3 y.2.2)]
        simp (disch := omega) only [e_Md_volumeAt_46, e_Md_volumeAt_47, e_Md_volumeAt_48, e_Md_volumeAt_51, e_Md_volumeAt_52, e_Md_volumeAt_55, e_Md_volumeAt_56, e_Md_volumeAt_59, e_Md_volumeAt_61, e_Md_volumeAt_62, e_Md_volumeAt_63, e_Md_volumeAt_64, e_Md_volumeAt_67, e_Md_volumeAt_68, e_Md_volumeAt_71, e_Md_volumeAt_74, e_Md_volumeAt_75, e_Md_volumeAt_76, e_Md_volumeAt_77, e_Md_volumeAt_78, e_Md_volumeAt_81, e_Md_volumeAt_82, e_Md_volumeAt_85, e_Md_volumeAt_88, e_Md_volumeAt_89, e_Md_volumeAt_90, e_Md_volumeAt_91, e_Md_volumeAt_94, e_Md_volumeAt_95, e_Md_volumeAt_96, hb, if_neg z1, wr_id, h3, h7, h4, if_neg (show ¬ ¬ sd = 0 from fun y => y z2), if_pos (show pr < p by omega)]
    · rw [if_neg (fun y => z2 y.2.1)]
      simp (disch := omega) only [e_Md_volumeAt_46, e_Md_volumeAt_47, e_Md_volumeAt_48, e_Md_volumeAt_51, e_Md_volumeAt_52, e_Md_volumeAt_55, e_Md_volumeAt_56, e_Md_volumeAt_59, e_Md_volumeAt_61, e_Md_volumeAt_62, e_Md_volumeAt_63, e_Md_volumeAt_64, e_Md_volumeAt_67, e_Md_volumeAt_68, e_Md_volumeAt_71, e_Md_volumeAt_74, e_Md_volumeAt_75, e_Md_volumeAt_76, e_Md_volumeAt_77, e_Md_volumeAt_78, e_Md_volumeAt_81, e_Md_volumeAt_82, e_Md_volumeAt_85, e_Md_volumeAt_88, e_Md_volumeAt_89, e_Md_volumeAt_90, e_Md_volumeAt_91, e_Md_volumeAt_94, e_Md_volumeAt_95, e_Md_volumeAt_96, hb, if_neg z1, wr_id, h3, h7, h4, if_pos z2]
theorem vA_s (σ : aM) (i p s e sd pr lf : Int) (hi : 0 ≤ i ∧ i < 60) (h3 : gI σ 26 0 (120 + i) = sd) (h7 : gI σ 26 0 (300 + i) = pr) (h4 : gI σ 26 0 (180 + i) = lf) (hb : gI σ 25 0 20 = s) (hr : (0 ≤ s ∧ s ≤ 100000) ∧ (0 ≤ lf ∧ lf ≤ 999)) : ev 182 99 [aR 25 0, aI p, aI i, aI e] [] σ = ev 182 12 [aR 25 0, aI p, aI (i + 1), aI e] [] (uI σ 25 0 20 (s + if ¬ e = 0 ∧ sd = 1 ∧ pr ≤ p then lf else 0)) := by
  by_cases z1 : e = 0
  · rw [if_neg (fun y => y.1 z1)]
    simp (disch := omega) only [e_Md_volumeAt_99, e_Md_volumeAt_100, e_Md_volumeAt_101, e_Md_volumeAt_104, e_Md_volumeAt_105, e_Md_volumeAt_108, e_Md_volumeAt_109, e_Md_volumeAt_112, e_Md_volumeAt_114, e_Md_volumeAt_115, e_Md_volumeAt_116, e_Md_volumeAt_117, e_Md_volumeAt_118, e_Md_volumeAt_121, e_Md_volumeAt_122, e_Md_volumeAt_125, e_Md_volumeAt_128, e_Md_volumeAt_129, e_Md_volumeAt_130, e_Md_volumeAt_131, e_Md_volumeAt_132, e_Md_volumeAt_135, e_Md_volumeAt_136, e_Md_volumeAt_139, e_Md_volumeAt_142, e_Md_volumeAt_143, e_Md_volumeAt_144, e_Md_volumeAt_145, e_Md_volumeAt_148, e_Md_volumeAt_149, e_Md_volumeAt_150, e_Md_volumeAt_153, e_Md_volumeAt_156, hb, if_pos z1, wr_id]
  · by_cases z2 : sd = 1
    · by_cases z3 : pr ≤ p
      · rw [if_pos ⟨z1, z2, z3⟩]
        simp (disch := omega) only [e_Md_volumeAt_99, e_Md_volumeAt_100, e_Md_volumeAt_101, e_Md_volumeAt_104, e_Md_volumeAt_105, e_Md_volumeAt_108, e_Md_volumeAt_109, e_Md_volumeAt_112, e_Md_volumeAt_114, e_Md_volumeAt_115, e_Md_volumeAt_116, e_Md_volumeAt_117, e_Md_volumeAt_118, e_Md_volumeAt_121, e_Md_volumeAt_122, e_Md_volumeAt_125, e_Md_volumeAt_128, e_Md_volumeAt_129, e_Md_volumeAt_130, e_Md_volumeAt_131, e_Md_volumeAt_132, e_Md_volumeAt_135, e_Md_volumeAt_136, e_Md_volumeAt_139, e_Md_volumeAt_142, e_Md_volumeAt_143, e_Md_volumeAt_144, e_Md_volumeAt_145, e_Md_volumeAt_148, e_Md_volumeAt_149, e_Md_volumeAt_150, e_Md_volumeAt_153, e_Md_volumeAt_156, hb, if_neg z1, wr_id, h3, h7, h4, if_neg (show ¬ ¬ sd = 1 from fun y => y z2), if_neg (show ¬ p < pr by omega)]
      · rw [if_neg (fun y => z3 y.2.2)]
        simp (disch := omega) only [e_Md_volumeAt_99, e_Md_volumeAt_100, e_Md_volumeAt_101, e_Md_volumeAt_104, e_Md_volumeAt_105, e_Md_volumeAt_108, e_Md_volumeAt_109, e_Md_volumeAt_112, e_Md_volumeAt_114, e_Md_volumeAt_115, e_Md_volumeAt_116, e_Md_volumeAt_117, e_Md_volumeAt_118, e_Md_volumeAt_121, e_Md_volumeAt_122, e_Md_volumeAt_125, e_Md_volumeAt_128, e_Md_volumeAt_129, e_Md_volumeAt_130, e_Md_volumeAt_131, e_Md_volumeAt_132, e_Md_volumeAt_135, e_Md_volumeAt_136, e_Md_volumeAt_139, e_Md_volumeAt_142, e_Md_volumeAt_143, e_Md_volumeAt_144, e_Md_volumeAt_145, e_Md_volumeAt_148, e_Md_volumeAt_149, e_Md_volumeAt_150, e_Md_volumeAt_153, e_Md_volumeAt_156, hb, if_neg z1, wr_id, h3, h7, h4, if_neg (show ¬ ¬ sd = 1 from fun y => y z2), if_pos (show p < pr by omega)]
    · rw [if_neg (fun y => z2 y.2.1)]
      simp (disch := omega) only [e_Md_volumeAt_99, e_Md_volumeAt_100, e_Md_volumeAt_101, e_Md_volumeAt_104, e_Md_volumeAt_105, e_Md_volumeAt_108, e_Md_volumeAt_109, e_Md_volumeAt_112, e_Md_volumeAt_114, e_Md_volumeAt_115, e_Md_volumeAt_116, e_Md_volumeAt_117, e_Md_volumeAt_118, e_Md_volumeAt_121, e_Md_volumeAt_122, e_Md_volumeAt_125, e_Md_volumeAt_128, e_Md_volumeAt_129, e_Md_volumeAt_130, e_Md_volumeAt_131, e_Md_volumeAt_132, e_Md_volumeAt_135, e_Md_volumeAt_136, e_Md_volumeAt_139, e_Md_volumeAt_142, e_Md_volumeAt_143, e_Md_volumeAt_144, e_Md_volumeAt_145, e_Md_volumeAt_148, e_Md_volumeAt_149, e_Md_volumeAt_150, e_Md_volumeAt_153, e_Md_volumeAt_156, hb, if_neg z1, wr_id, h3, h7, h4, if_pos z2]
theorem if3_10 (E A D : Prop) [Decidable E] [Decidable A] [Decidable D] (x : Int) : (if ¬ (if E then (1 : Int) else 0) = 0 ∧ A ∧ D then x else 0) = if E ∧ A ∧ D then x else 0 := by
  by_cases z : E
  · simp [z]
  · simp [z]
theorem l_Md_volumeAt {τ σ0 : aM} (h : RO τ σ0 (-1)) (hI : IO τ (-1)) (p : Int) : ∀ (n : Nat) (i b s : Int) (σ : aM) (a3 : AV), FrV σ0 σ → 0 ≤ i → i + n = gI τ 6 0 2 → gI σ 25 0 19 = b → gI σ 25 0 20 = s → (0 ≤ b ∧ b ≤ 999 * i) → (0 ≤ s ∧ s ≤ 999 * i) →
    ∃ σ', ev 182 12 [aR 25 0, aI p, aI i, a3] [] σ = some (some (aI (mnI (b + suF (bV1 τ p) n i) (s + suF (sV1 τ p) n i))), σ') ∧ FrV σ0 σ' ∧ gI σ' 25 0 19 = b + suF (bV1 τ p) n i ∧ gI σ' 25 0 20 = s + suF (sV1 τ p) n i ∧ gI σ' 25 0 21 = gI σ 25 0 21 := by
  intro n
  have hc6 := h.1.2
  have h600 := h.1.1
  induction n with
  | zero =>
    intro i b s σ a3 hF h0 h1 hb hs rb rs
    refine ⟨σ, ?_, hF, by rw [hb, suF, Int.add_zero], by rw [hs, suF, Int.add_zero], rfl⟩
    rw [suF, suF, Int.add_zero, Int.add_zero, e_Md_volumeAt_12]
    have e6 : gI σ 26 0 600 = gI τ 6 0 2 := by rw [hF.k]; exact h600
    unfold mnI
    by_cases z : s ≤ b
    · simp (disch := omega) only [e_Md_volumeAt_13, e_Md_volumeAt_14, e_Md_volumeAt_17, e_Md_volumeAt_20, e_Md_volumeAt_21, e_Md_volumeAt_159, e_Md_volumeAt_160, e_Md_volumeAt_163, e_Md_volumeAt_164, e_Md_volumeAt_167, e_Md_volumeAt_170, e_Md_volumeAt_171, e_Md_volumeAt_174, e_Md_volumeAt_177, e_Md_volumeAt_178, e_Md_volumeAt_181, e6, if_pos (show gI τ 6 0 2 ≤ i by omega), hb, hs, if_pos z]
      by_cases y : s < b
      · rw [if_pos y]
      · rw [if_neg y, show s = b by omega]
    · simp (disch := omega) only [e_Md_volumeAt_13, e_Md_volumeAt_14, e_Md_volumeAt_17, e_Md_volumeAt_20, e_Md_volumeAt_21, e_Md_volumeAt_159, e_Md_volumeAt_160, e_Md_volumeAt_163, e_Md_volumeAt_164, e_Md_volumeAt_167, e_Md_volumeAt_170, e_Md_volumeAt_171, e_Md_volumeAt_174, e_Md_volumeAt_177, e_Md_volumeAt_178, e_Md_volumeAt_181, e6, if_pos (show gI τ 6 0 2 ≤ i by omega), hb, hs, if_neg z]
      rw [if_neg (by omega)]
  | succ n ih =>
    intro i b s σ a3 hF h0 h1 hb hs rb rs
    have e6 : gI σ 26 0 600 = gI τ 6 0 2 := by rw [hF.k]; exact h600
    obtain ⟨ra, rb', rt, rv, rc⟩ := RO.p h h0 (show i < gI τ 6 0 2 by omega)
    obtain ⟨ia, ib, ip, idd, is, ir⟩ := IO_p hI h0 (show i < gI τ 6 0 2 by omega)
    have rb' := rb' (by omega)
    have k1 : gI σ 26 0 i = gI τ 8 i 1 := by rw [hF.k]; exact ra.1
    have k5 : gI σ 26 0 (240 + i) = gI τ 8 i 5 := by rw [hF.k]; exact rb'.2.1
    have k3 : gI σ 26 0 (120 + i) = gI τ 8 i 3 := by rw [hF.k]; exact ra.2.2.1
    have k7 : gI σ 26 0 (300 + i) = gI τ 8 i 7 := by rw [hF.k]; exact ra.2.2.2.1
    have k4 : gI σ 26 0 (180 + i) = gI τ 8 i 4 := by rw [hF.k]; exact rb'.1
    obtain ⟨e, he⟩ : ∃ e : Int, e = if elA τ i then 1 else 0 := ⟨_, rfl⟩
    have s0 : ev 182 12 [aR 25 0, aI p, aI i, a3] [] σ = ev 182 46 [aR 25 0, aI p, aI i, aI e] [] σ := by
      have d1 := c_Md_doesRest i σ (by omega)
      have d2 := c_Md_isLimit i σ (by omega)
      rw [k5] at d1
      rw [k1] at d2
      rw [e_Md_volumeAt_12]
      by_cases z : gI τ 8 i 5 = 1
      · rw [if_pos z] at d1
        have ir := ir z
        by_cases y : gI τ 8 i 1 = 3
        · rw [if_neg (by omega)] at d2
          rw [if_neg (fun q => q.2.1 y)] at he
          simp (disch := omega) only [e_Md_volumeAt_13, e_Md_volumeAt_14, e_Md_volumeAt_17, e_Md_volumeAt_20, e_Md_volumeAt_21, e_Md_volumeAt_24, e_Md_volumeAt_25, e_Md_volumeAt_26, e_Md_volumeAt_29, e_Md_volumeAt_32, e_Md_volumeAt_33, e_Md_volumeAt_34, e_Md_volumeAt_37, e_Md_volumeAt_40, e_Md_volumeAt_41, e_Md_volumeAt_44, e_Md_volumeAt_45, e6, if_neg (show ¬ gI τ 6 0 2 ≤ i by omega), d1, d2, evK_i, one_ne, if_false, if_true, he]
        · rw [if_pos (by omega)] at d2
          rw [if_pos ⟨z, y, ip y, by omega⟩] at he
          simp (disch := omega) only [e_Md_volumeAt_13, e_Md_volumeAt_14, e_Md_volumeAt_17, e_Md_volumeAt_20, e_Md_volumeAt_21, e_Md_volumeAt_24, e_Md_volumeAt_25, e_Md_volumeAt_26, e_Md_volumeAt_29, e_Md_volumeAt_32, e_Md_volumeAt_33, e_Md_volumeAt_34, e_Md_volumeAt_37, e_Md_volumeAt_40, e_Md_volumeAt_41, e_Md_volumeAt_44, e_Md_volumeAt_45, e6, if_neg (show ¬ gI τ 6 0 2 ≤ i by omega), d1, d2, evK_i, one_ne, if_false, he]
      · rw [if_neg z] at d1
        rw [if_neg (fun q => z q.1)] at he
        simp (disch := omega) only [e_Md_volumeAt_13, e_Md_volumeAt_14, e_Md_volumeAt_17, e_Md_volumeAt_20, e_Md_volumeAt_21, e_Md_volumeAt_24, e_Md_volumeAt_25, e_Md_volumeAt_26, e_Md_volumeAt_29, e_Md_volumeAt_32, e_Md_volumeAt_33, e_Md_volumeAt_34, e_Md_volumeAt_37, e_Md_volumeAt_40, e_Md_volumeAt_41, e_Md_volumeAt_44, e_Md_volumeAt_45, e6, if_neg (show ¬ gI τ 6 0 2 ≤ i by omega), d1, evK_i, if_true, he]
    have hbv : (if ¬ e = 0 ∧ gI τ 8 i 3 = 0 ∧ p ≤ gI τ 8 i 7 then gI τ 8 i 4 else 0) = bV1 τ p i := by
      unfold bV1
      rw [he]
      exact if3_10 _ _ _ _
    have hsv : (if ¬ e = 0 ∧ gI τ 8 i 3 = 1 ∧ gI τ 8 i 7 ≤ p then gI τ 8 i 4 else 0) = sV1 τ p i := by
      unfold sV1
      have := ia.2.1
      rw [he, if3_10]
      exact ite_congr (propext ⟨fun q => ⟨q.1, by have := q.2.1; omega, q.2.2⟩, fun q => ⟨q.1, by have := q.2.1; omega, q.2.2⟩⟩) (fun _ => rfl) (fun _ => rfl)
    have s1 := vA_b σ i p b e (gI τ 8 i 3) (gI τ 8 i 7) (gI τ 8 i 4) (by omega) k3 k7 k4 hb (by omega)
    rw [hbv] at s1
    have s2 := vA_s (uI σ 25 0 19 (b + bV1 τ p i)) i p s e (gI τ 8 i 3) (gI τ 8 i 7) (gI τ 8 i 4) (by omega) (by rw [gI_nt _ _ _ _ _ _ _ _ (by decide)]; exact k3) (by rw [gI_nt _ _ _ _ _ _ _ _ (by decide)]; exact k7) (by rw [gI_nt _ _ _ _ _ _ _ _ (by decide)]; exact k4) (by rw [gI_nj _ _ _ _ _ _ _ _ (by omega)]; exact hs) (by omega)
    rw [hsv] at s2
    have rbv : 0 ≤ bV1 τ p i ∧ bV1 τ p i ≤ 999 := by unfold bV1; split <;> omega
    have rsv : 0 ≤ sV1 τ p i ∧ sV1 τ p i ≤ 999 := by unfold sV1; split <;> omega
    obtain ⟨σ', j1, j2, j3, j4, j5⟩ := ih (i + 1) (b + bV1 τ p i) (s + sV1 τ p i) (uI (uI σ 25 0 19 (b + bV1 τ p i)) 25 0 20 (s + sV1 τ p i)) (aI e) ((hF.u _ _ _ (by omega)).u _ _ _ (by omega)) (by omega) (by omega) (by simp (disch := omega) only [gI_self, gI_nt, gI_nj, gL_uI, gR_uI, gI_uL, gR_uL, gI_uR, gL_uR]) (by simp (disch := omega) only [gI_self, gI_nt, gI_nj, gL_uI, gR_uI, gI_uL, gR_uL, gI_uR, gL_uR]) (by omega) (by omega)
    refine ⟨σ', ?_, j2, by rw [j3, suF]; omega, by rw [j4, suF]; omega, by rw [j5]; simp (disch := omega) only [gI_self, gI_nt, gI_nj, gL_uI, gR_uI, gI_uL, gR_uL, gI_uR, gL_uR]⟩
    rw [s0, s1, s2, j1, suF, suF, Int.add_assoc, Int.add_assoc]
theorem c_Md_volumeAt {τ σ0 σ : aM} (h : RO τ σ0 (-1)) (hI : IO τ (-1)) (p : Int) (hF : FrV σ0 σ) : ∃ σ', ev 182 0 [aR 25 0, aI p, aU, aU] [] σ = some (some (aI (mnI (bV τ p) (sV τ p))), σ') ∧ FrV σ0 σ' ∧ gI σ' 25 0 19 = bV τ p ∧ gI σ' 25 0 20 = sV τ p ∧ gI σ' 25 0 21 = gI σ 25 0 21 := by
  have hc6 := h.1.2
  obtain ⟨σ', j1, j2, j3, j4, j5⟩ := l_Md_volumeAt h hI p (nC τ) 0 0 0 (uI (uI σ 25 0 19 0) 25 0 20 0) aU ((hF.u _ _ _ (by omega)).u _ _ _ (by omega)) (Int.le_refl _) (by unfold nC; omega) (by simp (disch := omega) only [gI_self, gI_nt, gI_nj, gL_uI, gR_uI, gI_uL, gR_uL, gI_uR, gL_uR]) (by simp (disch := omega) only [gI_self, gI_nt, gI_nj, gL_uI, gR_uI, gI_uL, gR_uL, gI_uR, gL_uR]) (by omega) (by omega)
  rw [Int.zero_add] at j3 j4
  rw [Int.zero_add, Int.zero_add] at j1
  refine ⟨σ', ?_, j2, j3, j4, by rw [j5]; simp (disch := omega) only [gI_self, gI_nt, gI_nj, gL_uI, gR_uI, gI_uL, gR_uL, gI_uR, gL_uR]⟩
  simp (disch := omega) only [e_Md_volumeAt_0, e_Md_volumeAt_1, e_Md_volumeAt_2, e_Md_volumeAt_5, e_Md_volumeAt_6, e_Md_volumeAt_7, e_Md_volumeAt_10, e_Md_volumeAt_11]
  exact j1
def crL (τ : aM) (aim : Int) : Nat → Int → Int → Int → Int → Int × Int
  | 0, _, fd, _, vl => (fd, vl)
  | n + 1, p, fd, ls, vl => if vl < mnI (bV τ p) (sV τ p) ∨ (mnI (bV τ p) (sV τ p) = vl ∧ (abI (bV τ p - sV τ p) < ls ∨ (abI (bV τ p - sV τ p) = ls ∧ abI (p - aim) < abI (fd - aim)))) then crL τ aim n (p + 1) p (abI (bV τ p - sV τ p)) (mnI (bV τ p) (sV τ p)) else crL τ aim n (p + 1) fd ls vl
theorem l_Md_crossPrice {τ σ0 : aM} {B : Int} (h : RO τ σ0 (-1)) (hI : IO τ (-1)) (hC : CO τ B) (hG : RG τ) (aim : Int) (haim : 0 ≤ aim ∧ aim ≤ 999) : ∀ (n : Nat) (p fd ls vl : Int) (σ : aM) (a5 a6 a7 : AV), FrV σ0 σ → 1 ≤ p → p + n = 1000 → gI σ 25 0 21 = vl → (0 ≤ fd ∧ fd ≤ 999) →
    ∃ σ', ev 184 38 [aR 25 0, aI fd, aI ls, aI aim, aI p, a5, a6, a7] [] σ = some (some (aI (crL τ aim n p fd ls vl).1), σ') ∧ FrV σ0 σ' ∧ gI σ' 25 0 21 = (crL τ aim n p fd ls vl).2 := by
  intro n
  induction n with
  | zero =>
    intro p fd ls vl σ a5 a6 a7 hF h0 h1 hv hfd
    refine ⟨σ, ?_, hF, hv⟩
    rw [e_Md_crossPrice_38]
    simp (disch := omega) only [e_Md_crossPrice_40, e_Md_crossPrice_43, e_Md_crossPrice_141, e_Md_crossPrice_142, if_pos (show 999 < p by omega)]
    rfl
  | succ n ih =>
    intro p fd ls vl σ a5 a6 a7 hF h0 h1 hv hfd
    obtain ⟨σ1, v1, v2, v3, v4, v5⟩ := c_Md_volumeAt h hI p hF
    have rg := vol_rg hC hG p
    have f1 := c_Md_far (bV τ p) (sV τ p) σ1 (by omega) (by omega)
    have f2 := c_Md_far p aim σ1 (by omega) (by omega)
    have f3 := c_Md_far fd aim σ1 (by omega) (by omega)
    rw [e_Md_crossPrice_38, crL]
    obtain ⟨H, eH⟩ : ∃ z, z = mnI (bV τ p) (sV τ p) := ⟨_, rfl⟩
    obtain ⟨G, eG⟩ : ∃ z, z = abI (bV τ p - sV τ p) := ⟨_, rfl⟩
    obtain ⟨P, eP⟩ : ∃ z, z = abI (p - aim) := ⟨_, rfl⟩
    obtain ⟨Q, eQ⟩ : ∃ z, z = abI (fd - aim) := ⟨_, rfl⟩
    rw [← eH] at v1
    rw [← eG] at f1
    rw [← eP] at f2
    rw [← eQ] at f3
    rw [← eH, ← eG, ← eP, ← eQ]
    rw [hv] at v5
    have t0 : ev 184 40 [aR 25 0, aI fd, aI ls, aI aim, aI p, a5, a6, a7] [aI p] σ = ev 184 67 [aR 25 0, aI fd, aI ls, aI aim, aI p, aI H, aI G, a7] [] σ1 := by
      simp (disch := omega) only [e_Md_crossPrice_40, e_Md_crossPrice_43, e_Md_crossPrice_46, e_Md_crossPrice_47, e_Md_crossPrice_49, e_Md_crossPrice_52, e_Md_crossPrice_54, e_Md_crossPrice_55, e_Md_crossPrice_58, e_Md_crossPrice_59, e_Md_crossPrice_62, e_Md_crossPrice_65, if_neg (show ¬ 999 < p by omega), v1, evK_i, v3, v4, f1]
    rw [t0]
    have pos : vl < H ∨ (H = vl ∧ (G < ls ∨ (G = ls ∧ P < Q))) → ev 184 67 [aR 25 0, aI fd, aI ls, aI aim, aI p, aI H, aI G, a7] [] σ1 = ev 184 38 [aR 25 0, aI p, aI G, aI aim, aI (p + 1), aI H, aI G, aI 1] [] (uI σ1 25 0 21 H) := fun y => by
      by_cases y1 : vl < H
      · simp (disch := omega) only [e_Md_crossPrice_67, e_Md_crossPrice_69, e_Md_crossPrice_70, e_Md_crossPrice_73, e_Md_crossPrice_76, e_Md_crossPrice_78, e_Md_crossPrice_79, e_Md_crossPrice_82, e_Md_crossPrice_85, e_Md_crossPrice_87, e_Md_crossPrice_88, e_Md_crossPrice_91, e_Md_crossPrice_93, e_Md_crossPrice_94, e_Md_crossPrice_97, e_Md_crossPrice_99, e_Md_crossPrice_100, e_Md_crossPrice_103, e_Md_crossPrice_104, e_Md_crossPrice_105, e_Md_crossPrice_108, e_Md_crossPrice_111, e_Md_crossPrice_112, e_Md_crossPrice_115, e_Md_crossPrice_116, e_Md_crossPrice_118, e_Md_crossPrice_120, e_Md_crossPrice_123, e_Md_crossPrice_125, e_Md_crossPrice_126, e_Md_crossPrice_128, e_Md_crossPrice_129, e_Md_crossPrice_130, e_Md_crossPrice_132, e_Md_crossPrice_135, e_Md_crossPrice_138, v5, if_pos y1, one_ne, if_false, wr_id]
      · have y := y.resolve_left y1
        by_cases y2 : G < ls
        · simp (disch := omega) only [e_Md_crossPrice_67, e_Md_crossPrice_69, e_Md_crossPrice_70, e_Md_crossPrice_73, e_Md_crossPrice_76, e_Md_crossPrice_78, e_Md_crossPrice_79, e_Md_crossPrice_82, e_Md_crossPrice_85, e_Md_crossPrice_87, e_Md_crossPrice_88, e_Md_crossPrice_91, e_Md_crossPrice_93, e_Md_crossPrice_94, e_Md_crossPrice_97, e_Md_crossPrice_99, e_Md_crossPrice_100, e_Md_crossPrice_103, e_Md_crossPrice_104, e_Md_crossPrice_105, e_Md_crossPrice_108, e_Md_crossPrice_111, e_Md_crossPrice_112, e_Md_crossPrice_115, e_Md_crossPrice_116, e_Md_crossPrice_118, e_Md_crossPrice_120, e_Md_crossPrice_123, e_Md_crossPrice_125, e_Md_crossPrice_126, e_Md_crossPrice_128, e_Md_crossPrice_129, e_Md_crossPrice_130, e_Md_crossPrice_132, e_Md_crossPrice_135, e_Md_crossPrice_138, v5, if_neg y1, if_neg (show ¬ ¬ H = vl from fun q => q y.1), if_pos y2, one_ne, if_false, wr_id]
        · have y := y.2.resolve_left y2
          have e1 : H = vl := by omega
          simp (disch := omega) only [e_Md_crossPrice_67, e_Md_crossPrice_69, e_Md_crossPrice_70, e_Md_crossPrice_73, e_Md_crossPrice_76, e_Md_crossPrice_78, e_Md_crossPrice_79, e_Md_crossPrice_82, e_Md_crossPrice_85, e_Md_crossPrice_87, e_Md_crossPrice_88, e_Md_crossPrice_91, e_Md_crossPrice_93, e_Md_crossPrice_94, e_Md_crossPrice_97, e_Md_crossPrice_99, e_Md_crossPrice_100, e_Md_crossPrice_103, e_Md_crossPrice_104, e_Md_crossPrice_105, e_Md_crossPrice_108, e_Md_crossPrice_111, e_Md_crossPrice_112, e_Md_crossPrice_115, e_Md_crossPrice_116, e_Md_crossPrice_118, e_Md_crossPrice_120, e_Md_crossPrice_123, e_Md_crossPrice_125, e_Md_crossPrice_126, e_Md_crossPrice_128, e_Md_crossPrice_129, e_Md_crossPrice_130, e_Md_crossPrice_132, e_Md_crossPrice_135, e_Md_crossPrice_138, v5, if_neg y1, if_neg (show ¬ ¬ H = vl from fun q => q e1), if_neg y2, if_neg (show ¬ ¬ G = ls from fun q => q y.1), f2, f3, evK_i, if_neg (show ¬ Q ≤ P by omega), one_ne, if_false, wr_id]
    have neg : ¬ (vl < H ∨ (H = vl ∧ (G < ls ∨ (G = ls ∧ P < Q)))) → ev 184 67 [aR 25 0, aI fd, aI ls, aI aim, aI p, aI H, aI G, a7] [] σ1 = ev 184 38 [aR 25 0, aI fd, aI ls, aI aim, aI (p + 1), aI H, aI G, aI 0] [] σ1 := fun y => by
      have y1 : ¬ vl < H := fun q => y (Or.inl q)
      by_cases y2 : H = vl
      · have y3 : ¬ G < ls := fun q => y (Or.inr ⟨y2, Or.inl q⟩)
        by_cases y4 : G = ls
        · have y5 : ¬ P < Q := fun q => y (Or.inr ⟨y2, Or.inr ⟨y4, q⟩⟩)
          simp (disch := omega) only [e_Md_crossPrice_67, e_Md_crossPrice_69, e_Md_crossPrice_70, e_Md_crossPrice_73, e_Md_crossPrice_76, e_Md_crossPrice_78, e_Md_crossPrice_79, e_Md_crossPrice_82, e_Md_crossPrice_85, e_Md_crossPrice_87, e_Md_crossPrice_88, e_Md_crossPrice_91, e_Md_crossPrice_93, e_Md_crossPrice_94, e_Md_crossPrice_97, e_Md_crossPrice_99, e_Md_crossPrice_100, e_Md_crossPrice_103, e_Md_crossPrice_104, e_Md_crossPrice_105, e_Md_crossPrice_108, e_Md_crossPrice_111, e_Md_crossPrice_112, e_Md_crossPrice_115, e_Md_crossPrice_116, e_Md_crossPrice_118, e_Md_crossPrice_120, e_Md_crossPrice_123, e_Md_crossPrice_125, e_Md_crossPrice_126, e_Md_crossPrice_128, e_Md_crossPrice_129, e_Md_crossPrice_130, e_Md_crossPrice_132, e_Md_crossPrice_135, e_Md_crossPrice_138, v5, if_neg y1, if_neg (show ¬ ¬ H = vl from fun q => q y2), if_neg y3, if_neg (show ¬ ¬ G = ls from fun q => q y4), f2, f3, evK_i, if_pos (show Q ≤ P by omega), if_true, wr_id]
        · simp (disch := omega) only [e_Md_crossPrice_67, e_Md_crossPrice_69, e_Md_crossPrice_70, e_Md_crossPrice_73, e_Md_crossPrice_76, e_Md_crossPrice_78, e_Md_crossPrice_79, e_Md_crossPrice_82, e_Md_crossPrice_85, e_Md_crossPrice_87, e_Md_crossPrice_88, e_Md_crossPrice_91, e_Md_crossPrice_93, e_Md_crossPrice_94, e_Md_crossPrice_97, e_Md_crossPrice_99, e_Md_crossPrice_100, e_Md_crossPrice_103, e_Md_crossPrice_104, e_Md_crossPrice_105, e_Md_crossPrice_108, e_Md_crossPrice_111, e_Md_crossPrice_112, e_Md_crossPrice_115, e_Md_crossPrice_116, e_Md_crossPrice_118, e_Md_crossPrice_120, e_Md_crossPrice_123, e_Md_crossPrice_125, e_Md_crossPrice_126, e_Md_crossPrice_128, e_Md_crossPrice_129, e_Md_crossPrice_130, e_Md_crossPrice_132, e_Md_crossPrice_135, e_Md_crossPrice_138, v5, if_neg y1, if_neg (show ¬ ¬ H = vl from fun q => q y2), if_neg y3, if_pos y4, if_true, wr_id]
      · simp (disch := omega) only [e_Md_crossPrice_67, e_Md_crossPrice_69, e_Md_crossPrice_70, e_Md_crossPrice_73, e_Md_crossPrice_76, e_Md_crossPrice_78, e_Md_crossPrice_79, e_Md_crossPrice_82, e_Md_crossPrice_85, e_Md_crossPrice_87, e_Md_crossPrice_88, e_Md_crossPrice_91, e_Md_crossPrice_93, e_Md_crossPrice_94, e_Md_crossPrice_97, e_Md_crossPrice_99, e_Md_crossPrice_100, e_Md_crossPrice_103, e_Md_crossPrice_104, e_Md_crossPrice_105, e_Md_crossPrice_108, e_Md_crossPrice_111, e_Md_crossPrice_112, e_Md_crossPrice_115, e_Md_crossPrice_116, e_Md_crossPrice_118, e_Md_crossPrice_120, e_Md_crossPrice_123, e_Md_crossPrice_125, e_Md_crossPrice_126, e_Md_crossPrice_128, e_Md_crossPrice_129, e_Md_crossPrice_130, e_Md_crossPrice_132, e_Md_crossPrice_135, e_Md_crossPrice_138, v5, if_neg y1, if_pos y2, if_true, wr_id]
    by_cases y : vl < H ∨ (H = vl ∧ (G < ls ∨ (G = ls ∧ P < Q)))
    · rw [if_pos y, pos y]
      exact ih (p + 1) p G H _ _ _ _ (v2.u _ _ _ (by omega)) (by omega) (by omega) (by simp (disch := omega) only [gI_self, gI_nt, gI_nj, gL_uI, gR_uI, gI_uL, gR_uL, gI_uR, gL_uR]) (by omega)
    · rw [if_neg y, neg y]
      exact ih (p + 1) fd ls vl _ _ _ _ v2 (by omega) (by omega) v5 hfd
theorem c_Md_crossPrice {τ σ0 σ : aM} {B : Int} (h : RO τ σ0 (-1)) (hI : IO τ (-1)) (hC : CO τ B) (hG : RG τ) (hl : 0 ≤ gI τ 9 0 4 ∧ gI τ 9 0 4 ≤ 999) (h603 : gI σ0 26 0 603 = gI τ 9 0 4) (hF : FrV σ0 σ) : ∃ σ', ev 184 0 [aR 25 0, aU, aU, aU, aU, aU, aU, aU] [] σ = some (some (aI (crL τ (aimN τ) 999 1 0 0 (-1)).1), σ') ∧ FrV σ0 σ' ∧ gI σ' 25 0 21 = (crL τ (aimN τ) 999 1 0 0 (-1)).2 := by
  have haim : 0 ≤ aimN τ ∧ aimN τ ≤ 999 := by
    unfold aimN
    split <;> omega
  obtain ⟨σ', j1, j2, j3⟩ := l_Md_crossPrice h hI hC hG (aimN τ) haim 999 1 0 0 (-1) (uI σ 25 0 21 (-1)) aU aU aU (hF.u _ _ _ (by omega)) (by omega) (by omega) (by simp (disch := omega) only [gI_self, gI_nt, gI_nj, gL_uI, gR_uI, gI_uL, gR_uL, gI_uR, gL_uR]) (by omega)
  refine ⟨σ', ?_, j2, j3⟩
  have e3 : gI σ 26 0 603 = gI τ 9 0 4 := by rw [hF.k]; exact h603
  by_cases z : gI τ 9 0 4 = 0
  · have : aimN τ = 500 := if_pos z
    rw [this] at j1 ⊢
    simp (disch := omega) only [e_Md_crossPrice_0, e_Md_crossPrice_1, e_Md_crossPrice_2, e_Md_crossPrice_3, e_Md_crossPrice_4, e_Md_crossPrice_5, e_Md_crossPrice_6, e_Md_crossPrice_9, e_Md_crossPrice_10, e_Md_crossPrice_13, e_Md_crossPrice_16, e_Md_crossPrice_17, e_Md_crossPrice_20, e_Md_crossPrice_23, e_Md_crossPrice_26, e_Md_crossPrice_27, e_Md_crossPrice_30, e_Md_crossPrice_33, e_Md_crossPrice_34, e_Md_crossPrice_35, e_Md_crossPrice_36, gI_nt, e3, if_neg (show ¬ ¬ gI τ 9 0 4 = 0 from fun y => y z)]
    exact j1
  · have : aimN τ = gI τ 9 0 4 := if_neg z
    rw [this] at j1 ⊢
    simp (disch := omega) only [e_Md_crossPrice_0, e_Md_crossPrice_1, e_Md_crossPrice_2, e_Md_crossPrice_3, e_Md_crossPrice_4, e_Md_crossPrice_5, e_Md_crossPrice_6, e_Md_crossPrice_9, e_Md_crossPrice_10, e_Md_crossPrice_13, e_Md_crossPrice_16, e_Md_crossPrice_17, e_Md_crossPrice_20, e_Md_crossPrice_23, e_Md_crossPrice_26, e_Md_crossPrice_27, e_Md_crossPrice_30, e_Md_crossPrice_33, e_Md_crossPrice_34, e_Md_crossPrice_35, e_Md_crossPrice_36, gI_nt, e3, if_pos z]
    exact j1
