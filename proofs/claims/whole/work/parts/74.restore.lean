/-! the image is restored -/
theorem PR_restore {μ : aM} {B : Int} (hI : Inv μ B) : PR B μ (fun σ => ev 111 0 [aR 0 0, aU] [] σ) (fun σ => ev 209 0 [aR 25 0, aU] [] σ) := by
  obtain ⟨hc, h600, hR, hnum, h601, hph⟩ := Inv_f hI
  have i6 := hI.2.2.2.2.2.1
  by_cases h : gI μ 0 0 8 = 0
  · refine PR_rfE (r := -6) hI (by omega) ?_ ?_
    · rw [c_Ub_refuse _ _ (by omega)]
      show ev 111 0 [aR 0 0, aU] [] μ = _
      simp (disch := omega) only [e_Ub_restore_0, e_Ub_restore_1, e_Ub_restore_4, e_Ub_restore_7, e_Ub_restore_8, e_Ub_restore_10, e_Ub_restore_13, h, not_true_eq_false, if_false, evK_i, c_Ub_refuse]
    · rw [c_Md_refused _ _ (by omega)]
      have h3 : gI (rf4 μ (- -6)) 25 0 3 = 0 := by rw [g_rf4 _ _ _ _ _ (by decide), ← i6]; exact h
      show ev 209 0 [aR 25 0, aU] [] (rf4 μ (- -6)) = _
      simp (disch := omega) only [e_Md_restore_0, e_Md_restore_1, e_Md_restore_4, e_Md_restore_7, e_Md_restore_8, e_Md_restore_10, e_Md_restore_13, h3, not_true_eq_false, if_false, evK_i, c_Md_refused]
  · have hT := hI.2.2.2.2.2.2 h
    have hct : 0 ≤ gI μ 6 1 2 ∧ gI μ 6 1 2 ≤ 60 := by have := hT.1.1.2; rw [vw_6] at this; exact this
    have hm27 : gI μ 27 0 600 = gI μ 6 1 2 := by have := hT.1.1.1; rw [vw_26, vw_6] at this; exact this
    have ht := c_Bk_takeOver μ 0 1 (Or.inl ⟨rfl, rfl⟩) hct
    have g8 : ∀ i j, 0 ≤ i → i < gI μ 6 1 2 → 1 ≤ j → j ≤ 10 → gI (kBk μ 0 1) 8 i j = gI μ 8 (60 + i) j := fun i j i0 i1 j0 j1 => by
      rw [gI_kBk, if_pos (by omega), show i - 60 * 0 + 60 * 1 = 60 + i by omega]
    have g8n : ∀ i j, ¬ (0 ≤ i ∧ i < gI μ 6 1 2 ∧ 1 ≤ j) → gI (kBk μ 0 1) 8 i j = gI μ 8 i j := fun i j h => by rw [gI_kBk, if_neg (by omega), if_neg (by omega)]
    have gb : ∀ t j, ((t = 10 ∧ 0 ≤ j ∧ j < 800) ∨ ((t = 11 ∨ t = 12) ∧ 0 ≤ j ∧ j < 8) ∨ (t = 9 ∧ 3 ≤ j ∧ j ≤ 4) ∨ (t = 6 ∧ 2 ≤ j ∧ j ≤ 6)) → gI (kBk μ 0 1) t 0 j = gI μ t 1 j := fun t j h => by
      rw [gI_kBk, if_neg (by omega), if_pos (by omega)]
    have go : ∀ t i j, ¬ (t = 8 ∧ 0 ≤ i ∧ i < 60) → ¬ ((t = 6 ∨ t = 9 ∨ t = 10 ∨ t = 11 ∨ t = 12) ∧ i = 0) → gI (kBk μ 0 1) t i j = gI μ t i j := fun t i j h1 h2 => by
      rw [gI_kBk, if_neg (by omega), if_neg (by omega)]
    have h2 : (kBk μ 0 1).2 = μ.2 := rfl
    have cnt : gI (kBk μ 0 1) 6 0 2 = gI μ 6 1 2 := gb 6 2 (by omega)
    generalize kBk μ 0 1 = M at ht g8 g8n gb go h2 cnt
    have hu := l_Ub_rest 8 0 M (by omega) (by omega)
    rw [rU_0, cnt] at hu
    have U1 : ∀ t i j, ¬ (t = 2 ∧ 0 ≤ i ∧ i < 8 ∧ gI μ 6 1 2 ≤ gI μ 2 i 3 ∧ 1 ≤ j ∧ j ≤ 3) → gI (rU M 8) t i j = gI M t i j := fun t i j q => by
      rw [gI_rU, cnt, if_neg (fun y => q (by rw [go 2 i 3 (by omega) (by omega)] at y; exact y))]
    have U2 : ∀ i, 0 ≤ i → i < 8 → gI μ 6 1 2 ≤ gI μ 2 i 3 → gI (rU M 8) 2 i 1 = 0 ∧ gI (rU M 8) 2 i 2 = -1 ∧ gI (rU M 8) 2 i 3 = -1 := fun i i0 i1 y => by
      have y' : gI M 6 0 2 ≤ gI M 2 i 3 := by rw [cnt, go 2 i 3 (by omega) (by omega)]; exact y
      refine ⟨?_, ?_, ?_⟩
      · rw [gI_rU, if_pos ⟨rfl, i0, i1, y', by omega, by omega⟩]; rfl
      · rw [gI_rU, if_pos ⟨rfl, i0, i1, y', by omega, by omega⟩]; rfl
      · rw [gI_rU, if_pos ⟨rfl, i0, i1, y', by omega, by omega⟩]; rfl
    have U3 : (rU M 8).2 = μ.2 := h2
    generalize rU M 8 = U at hu U1 U2 U3
    -- the reference
    have hl := l_Md_rest1 1423 0 U (by omega) (by omega)
    rw [kI_0] at hl
    have r6 : gI (kI U 27 0 0 26 0 0 1423) 26 0 600 = gI μ 6 1 2 := by
      rw [gI_kI, if_pos (by omega), U1 _ _ _ (by omega), go _ _ _ (by omega) (by omega)]
      exact hm27
    have hl2 := l_Md_rest2 8 0 (kI U 27 0 0 26 0 0 1423) (by rw [r6]; exact hct) (by omega) (by omega)
    rw [rM_0, r6] at hl2
    have W1 : ∀ t i j, ¬ (t = 26) → ¬ (t = 29) → gI (rM (kI U 27 0 0 26 0 0 1423) 8) t i j = gI U t i j := fun t i j q1 q2 => by
      rw [gI_rM, if_neg (fun y => q2 y.1), gI_kI, if_neg (fun y => q1 y.1)]
    have W26 : ∀ k, 0 ≤ k → k < 1423 → gI (rM (kI U 27 0 0 26 0 0 1423) 8) 26 0 k = gI μ 27 0 k := fun k k0 k1 => by
      rw [gI_rM, if_neg (fun y => by omega), gI_kI, if_pos ⟨rfl, rfl, k0, by omega⟩, U1 _ _ _ (by omega), go _ _ _ (by omega) (by omega)]
      congr 1
      omega
    have W29 : ∀ s, 0 ≤ s → s < 8 → gI (rM (kI U 27 0 0 26 0 0 1423) 8) 29 0 s = if gI μ 29 0 s = 4 ∧ ¬ (0 ≤ gI μ 30 0 s ∧ gI μ 30 0 s < gI μ 6 1 2) then -1 else gI μ 29 0 s := fun s s0 s1 => by
      have e29 : gI (kI U 27 0 0 26 0 0 1423) 29 0 s = gI μ 29 0 s := by rw [gI_kI, if_neg (fun y => by omega), U1 _ _ _ (by omega), go _ _ _ (by omega) (by omega)]
      have e30 : gI (kI U 27 0 0 26 0 0 1423) 30 0 s = gI μ 30 0 s := by rw [gI_kI, if_neg (fun y => by omega), U1 _ _ _ (by omega), go _ _ _ (by omega) (by omega)]
      rw [gI_rM]
      unfold rMc
      rw [e29, e30, r6]
      by_cases q : gI μ 29 0 s = 4 ∧ ¬ (0 ≤ gI μ 30 0 s ∧ gI μ 30 0 s < gI μ 6 1 2)
      · rw [if_pos q, if_pos ⟨rfl, rfl, s0, s1, q⟩]
      · rw [if_neg q, if_neg (fun y => q y.2.2.2.2)]
    have WL : (rM (kI U 27 0 0 26 0 0 1423) 8).2 = μ.2 := U3
    refine ⟨gI μ 6 1 2, U, rM (kI U 27 0 0 26 0 0 1423) 8, ?_, ?_, ?_⟩
    · show ev 111 0 [aR 0 0, aU] [] μ = _
      simp (disch := omega) only [e_Ub_restore_0, e_Ub_restore_1, e_Ub_restore_4, e_Ub_restore_7, e_Ub_restore_8, e_Ub_restore_10, e_Ub_restore_13, e_Ub_restore_14, e_Ub_restore_15, e_Ub_restore_18, e_Ub_restore_19, e_Ub_restore_22, e_Ub_restore_25, e_Ub_restore_26, if_pos h, ht, evK_v, hu]
    · have h3 : ¬ gI U 25 0 3 = 0 := by rw [U1 _ _ _ (by omega), go _ _ _ (by omega) (by omega), ← i6]; exact h
      show ev 209 0 [aR 25 0, aU] [] U = _
      simp (disch := omega) only [e_Md_restore_0, e_Md_restore_1, e_Md_restore_4, e_Md_restore_7, e_Md_restore_8, e_Md_restore_10, e_Md_restore_13, e_Md_restore_14, e_Md_restore_15, if_pos h3, hl]
      simp (disch := omega) only [e_Md_restore_41, e_Md_restore_42, hl2]
    · generalize rM (kI U 27 0 0 26 0 0 1423) 8 = W at W1 W26 W29 WL ⊢
      obtain ⟨i1, i2, i3, i4, i5, i6, i7⟩ := hI
      have w : ∀ t i j, ¬ (t = 26) → ¬ (t = 29) → ¬ (t = 2) → ¬ (t = 8 ∧ 0 ≤ i ∧ i < 60 ∧ ¬ j = 0) → ¬ ((t = 6 ∨ t = 9 ∨ t = 10 ∨ t = 11 ∨ t = 12) ∧ i = 0) → gI W t i j = gI μ t i j := fun t i j q1 q2 q3 q4 q5 => by
        rw [W1 _ _ _ q1 q2, U1 _ _ _ (fun y => q3 y.1)]
        by_cases q : t = 8
        · subst q
          by_cases q0 : j = 0
          · rw [g8n _ _ (by omega)]
          · rw [go _ _ _ (by omega) (by omega)]
        · exact go _ _ _ (by omega) q5
      have wb : ∀ t j, ((t = 10 ∧ 0 ≤ j ∧ j < 800) ∨ ((t = 11 ∨ t = 12) ∧ 0 ≤ j ∧ j < 8) ∨ (t = 9 ∧ 3 ≤ j ∧ j ≤ 4) ∨ (t = 6 ∧ 2 ≤ j ∧ j ≤ 6)) → gI W t 0 j = gI μ t 1 j := fun t j q => by
        rw [W1 _ _ _ (by omega) (by omega), U1 _ _ _ (by omega), gb _ _ q]
      have hlive : Sim W W (-1) B := Sim_cg hT (fun j j0 j1 => by rw [vw_6, wb _ _ (by omega)]) (fun i j a0 a1 j0 j1 => by
        rw [vw_6] at a1
        rw [vw_8 _ _ _ (by omega) a0 (by omega), W1 _ _ _ (by omega) (by omega), U1 _ _ _ (by omega), g8 _ _ a0 a1 j0 j1]) (fun i => by rw [vw_80, w _ _ _ (by omega) (by omega) (by omega) (by omega) (by omega)]) ⟨by rw [vw_9, wb _ _ (by omega)], by rw [vw_9, wb _ _ (by omega)]⟩ (fun j j0 j1 => by rw [vw_10, wb _ _ (by omega)]) (fun j j0 j1 => ⟨by rw [vw_11, wb _ _ (by omega)], by rw [vw_12, wb _ _ (by omega)]⟩) (fun k k0 k1 => by rw [vw_26, W26 _ k0 k1])
      have cW : gI W 6 0 2 = gI μ 6 1 2 := wb _ _ (by omega)
      refine Inv_mono (B := B) ⟨hlive, ?_, fun s s0 s1 => ?_, fun r r0 r1 => ?_, ?_, ?_, fun _ => ?_⟩ (by omega)
      · have gT := hT.2.2.2.2.2.2.2.2.1
        rw [vw_9] at gT
        refine ⟨by rw [cW]; exact hct, fun i a0 a1 => ?_, by rw [wb _ _ (by omega)]; exact gT.1, by rw [wb _ _ (by omega)]; exact gT.2⟩
        rw [W1 _ _ _ (by omega) (by omega), U1 _ _ _ (by omega)]
        by_cases q : i < gI μ 6 1 2
        · rw [g8 _ _ a0 q (by omega) (by omega)]
          exact i2.2.1 _ (by omega) (by omega)
        · rw [g8n _ _ (by omega)]
          exact i2.2.1 _ a0 a1
      · have h30 : gI W 30 0 s = gI μ 30 0 s := w _ _ _ (by omega) (by omega) (by omega) (by omega) (by omega)
        have h29 := W29 s s0 s1
        have hLL : ∀ t i j, gL W t i j = gL μ t i j := gL_of2 WL
        by_cases q : gI μ 6 1 2 ≤ gI μ 2 s 3
        · obtain ⟨v1, v2, v3⟩ := U2 s s0 s1 q
          rcases i3 s s0 s1 with z | z | z
          · omega
          · omega
          · rw [if_pos (by omega)] at h29
            refine Or.inl ⟨?_, ?_, ?_, h29⟩
            · rw [W1 _ _ _ (by omega) (by omega)]; exact v2
            · rw [W1 _ _ _ (by omega) (by omega)]; exact v3
            · rw [W1 _ _ _ (by omega) (by omega)]; exact v1
        · have h2 : ∀ j, gI W 2 s j = gI μ 2 s j := fun j => by rw [W1 _ _ _ (by omega) (by omega), U1 _ _ _ (by omega), go _ _ _ (by omega) (by omega)]
          rcases i3 s s0 s1 with z | z | z
          · rw [if_neg (by omega)] at h29
            refine Or.inl ?_
            rw [h2, h2, h2, h29]
            exact z
          · rw [if_neg (by omega)] at h29
            refine Or.inr (Or.inl ?_)
            rw [h2, h2, h2, h29, h30]
            refine ⟨z.1, z.2.1, z.2.2.1, z.2.2.2.1, z.2.2.2.2.1, fun j j0 j1 => ?_⟩
            rw [hLL, hLL]
            exact z.2.2.2.2.2 j j0 j1
          · rw [if_neg (by omega)] at h29
            refine Or.inr (Or.inr ?_)
            rw [h2, h2, h2, h29, h30, cW]
            exact ⟨z.1, z.2.1, ⟨z.2.2.1.1, by omega⟩, z.2.2.2.1, z.2.2.2.2⟩
      · rw [w 4 0 r (by omega) (by omega) (by omega) (by omega) (by omega), w 28 0 r (by omega) (by omega) (by omega) (by omega) (by omega)]; exact i4 r r0 r1
      · rw [w 0 0 9 (by omega) (by omega) (by omega) (by omega) (by omega), w 25 0 18 (by omega) (by omega) (by omega) (by omega) (by omega)]; exact i5
      · rw [w 0 0 8 (by omega) (by omega) (by omega) (by omega) (by omega), w 25 0 3 (by omega) (by omega) (by omega) (by omega) (by omega)]; exact i6
      · exact Sim_vw hT (fun k => w _ _ _ (by omega) (by omega) (by omega) (by omega) (by omega)) (fun i j a0 a1 => w _ _ _ (by omega) (by omega) (by omega) (by omega) (by omega)) (fun i => w _ _ _ (by omega) (by omega) (by omega) (by omega) (by omega)) (fun t j q => w _ _ _ (by omega) (by omega) (by omega) (by omega) (by omega)) (Int.le_refl _)
