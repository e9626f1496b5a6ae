/-! crossing, on both sides -/
theorem fd_cr {τ : aM} (aim : Int) (hp : ∀ q, 0 ≤ bV τ q ∧ 0 ≤ sV τ q) : ∀ (n : Nat) (p pr vol gap fd ls vl : Int), ((0 < vol ∧ fd = pr ∧ ls = gap ∧ vl = vol) ∨ (vol = 0 ∧ pr = 0 ∧ vl = 0)) → (0 < (fdL τ aim n p pr vol gap).2 ∧ crL τ aim n p fd ls vl = fdL τ aim n p pr vol gap) ∨ (fdL τ aim n p pr vol gap = (0, 0) ∧ (crL τ aim n p fd ls vl).2 = 0) := by
  intro n
  induction n with
  | zero =>
    intro p pr vol gap fd ls vl h
    rw [fdL, crL]
    rcases h with ⟨h1, h2, h3, h4⟩ | ⟨h1, h2, h3⟩
    · exact Or.inl ⟨h1, by rw [h2, h4]⟩
    · exact Or.inr ⟨by rw [h1, h2], h3⟩
  | succ n ih =>
    intro p pr vol gap fd ls vl h
    have hpp := hp p
    have hH : 0 ≤ mnI (bV τ p) (sV τ p) := by
      unfold mnI
      split <;> omega
    rw [fdL, crL]
    unfold btr
    generalize mnI (bV τ p) (sV τ p) = H at hH ⊢
    generalize abI (bV τ p - sV τ p) = G
    generalize abI (p - aim) = P
    rcases h with ⟨h1, h2, h3, h4⟩ | ⟨h1, h2, h3⟩
    · rw [h2, h3, h4]
      generalize abI (pr - aim) = Q
      by_cases y : vol < H ∨ (H = vol ∧ (G < gap ∨ (G = gap ∧ P < Q)))
      · rw [if_pos y, if_pos (by omega)]
        exact ih _ _ _ _ _ _ _ (Or.inl ⟨by omega, rfl, rfl, rfl⟩)
      · rw [if_neg y, if_neg (by omega)]
        exact ih _ _ _ _ _ _ _ (Or.inl ⟨h1, rfl, rfl, rfl⟩)
    · rw [h1, h2, h3]
      generalize abI (0 - aim) = Q
      generalize abI (fd - aim) = Q2
      by_cases y : 0 < H
      · rw [if_pos (Or.inl y), if_pos (Or.inl y)]
        exact ih _ _ _ _ _ _ _ (Or.inl ⟨y, rfl, rfl, rfl⟩)
      · rw [if_neg (show ¬ (0 < H ∨ H = 0 ∧ 0 < H ∧ (G < gap ∨ G = gap ∧ P < Q)) by omega)]
        have e0 : H = 0 := by omega
        split
        · exact ih _ _ _ _ _ _ _ (Or.inr ⟨rfl, rfl, e0⟩)
        · exact ih _ _ _ _ _ _ _ (Or.inr ⟨rfl, rfl, rfl⟩)
theorem fd_crN {τ : aM} (hp : ∀ q, 0 ≤ bV τ q ∧ 0 ≤ sV τ q) : (0 < (fdN τ).2 ∧ crL τ (aimN τ) 999 1 0 0 (-1) = fdN τ) ∨ (fdN τ = (0, 0) ∧ (crL τ (aimN τ) 999 1 0 0 (-1)).2 = 0) := by
  unfold fdN
  generalize aimN τ = aim
  have hpp := hp 1
  have hH : 0 ≤ mnI (bV τ 1) (sV τ 1) := by
    unfold mnI
    split <;> omega
  show (0 < (fdL τ aim (998 + 1) 1 0 0 0).2 ∧ crL τ aim (998 + 1) 1 0 0 (-1) = fdL τ aim (998 + 1) 1 0 0 0) ∨ (fdL τ aim (998 + 1) 1 0 0 0 = (0, 0) ∧ (crL τ aim (998 + 1) 1 0 0 (-1)).2 = 0)
  rw [fdL, crL]
  unfold btr
  rw [if_pos (show -1 < mnI (bV τ 1) (sV τ 1) ∨ _ from Or.inl (by omega))]
  generalize mnI (bV τ 1) (sV τ 1) = H at hH ⊢
  generalize abI (bV τ 1 - sV τ 1) = G
  generalize abI (1 - aim) = P
  by_cases y : 0 < H
  · rw [if_pos (Or.inl y)]
    exact fd_cr aim hp 998 (1 + 1) 1 H G 1 G H (Or.inl ⟨y, rfl, rfl, rfl⟩)
  · rw [if_neg (show ¬ (0 < H ∨ H = 0 ∧ 0 < H ∧ (G < 0 ∨ G = 0 ∧ P < abI (0 - aim))) by omega)]
    exact fd_cr aim hp 998 (1 + 1) 0 0 0 1 G H (Or.inr ⟨rfl, rfl, by omega⟩)
theorem fd_prop {τ : aM} (aim : Int) : ∀ (n : Nat) (p pr vol gap : Int), 1 ≤ p → p + n = 1000 → (vol = 0 ∨ (vol = mnI (bV τ pr) (sV τ pr) ∧ 1 ≤ pr ∧ pr ≤ 999)) → ((fdL τ aim n p pr vol gap).2 = 0 ∨ ((fdL τ aim n p pr vol gap).2 = mnI (bV τ (fdL τ aim n p pr vol gap).1) (sV τ (fdL τ aim n p pr vol gap).1) ∧ 1 ≤ (fdL τ aim n p pr vol gap).1 ∧ (fdL τ aim n p pr vol gap).1 ≤ 999)) := by
  intro n
  induction n with
  | zero => intro p pr vol gap _ _ h; rw [fdL]; exact h
  | succ n ih =>
    intro p pr vol gap h0 h1 h
    rw [fdL]
    split
    · exact ih _ _ _ _ (by omega) (by omega) (Or.inr ⟨rfl, h0, by omega⟩)
    · exact ih _ _ _ _ (by omega) (by omega) h
theorem fdN_prop (τ : aM) : (fdN τ).2 = 0 ∨ ((fdN τ).2 = mnI (bV τ (fdN τ).1) (sV τ (fdN τ).1) ∧ 1 ≤ (fdN τ).1 ∧ (fdN τ).1 ≤ 999) := by
  unfold fdN
  exact fd_prop (aimN τ) 999 1 0 0 0 (by omega) (by omega) (Or.inl rfl)
theorem Inv_vol {μ : aM} {B : Int} (hI : Inv μ B) : ∀ q, 0 ≤ bV μ q ∧ 0 ≤ sV μ q := fun q => by
  obtain ⟨hc, h600, hR, hnum, h601, hph⟩ := Inv_f hI
  have := vol_rg hI.2.1 hR q
  omega
theorem PR_crossing {μ : aM} {B : Int} (hI : Inv μ B) (w : Int) : PR B μ (fun σ => ev 97 0 [aR 0 0, aI w] [] σ) (fun σ => ev 190 0 [aR 25 0, aI w, aU] [] σ) := by
  obtain ⟨hc, h600, hR, hnum, h601, hph⟩ := Inv_f hI
  by_cases hw : 0 ≤ w ∧ w ≤ 1
  · by_cases h1 : gI μ 6 0 3 = 1
    · refine PR_rf (a := -6) (r := 6) hI ?_ ?_
      · have hre := c_Ub_refuse (-6) μ (by omega)
        show ev 97 0 [aR 0 0, aI w] [] μ = _
        simp (disch := omega) only [e_Ub_crossing_0, e_Ub_crossing_1, e_Ub_crossing_4, e_Ub_crossing_5, e_Ub_crossing_6, e_Ub_crossing_9, e_Ub_crossing_10, e_Ub_crossing_12, e_Ub_crossing_15, e_Ub_crossing_16, e_Ub_crossing_17, e_Ub_crossing_20, e_Ub_crossing_23, e_Ub_crossing_26, e_Ub_crossing_27, e_Ub_crossing_29, e_Ub_crossing_32, e_Ub_crossing_33, e_Ub_crossing_34, e_Ub_crossing_37, e_Ub_crossing_38, e_Ub_crossing_41, e_Ub_crossing_44, e_Ub_crossing_45, e_Ub_crossing_48, e_Ub_crossing_49, e_Ub_crossing_52, e_Ub_crossing_55, e_Ub_crossing_58, e_Ub_crossing_59, e_Ub_crossing_62, e_Ub_crossing_65, if_neg (show ¬ w < 0 by omega), if_pos hw.2, h1, one_ne, if_false, evK_i, hre]
        rfl
      · have hre := c_Md_refused (-6) (rf4 μ 6) (by omega)
        have hin := c_Md_in w 0 1 (rf4 μ 6)
        rw [if_pos hw] at hin
        have e1 : gI (rf4 μ 6) 26 0 601 = 1 := by rw [g_rf4 _ _ _ _ _ (by decide), h601, h1]
        show ev 190 0 [aR 25 0, aI w, aU] [] (rf4 μ 6) = _
        simp (disch := omega) only [e_Md_crossing_0, e_Md_crossing_1, e_Md_crossing_2, e_Md_crossing_3, e_Md_crossing_6, e_Md_crossing_9, e_Md_crossing_10, e_Md_crossing_12, e_Md_crossing_15, e_Md_crossing_16, e_Md_crossing_17, e_Md_crossing_20, e_Md_crossing_23, e_Md_crossing_24, e_Md_crossing_25, e_Md_crossing_28, e_Md_crossing_29, e_Md_crossing_31, e_Md_crossing_34, e_Md_crossing_35, e_Md_crossing_36, e_Md_crossing_39, e_Md_crossing_40, e_Md_crossing_41, e_Md_crossing_42, e_Md_crossing_45, e_Md_crossing_46, e_Md_crossing_49, e_Md_crossing_52, e_Md_crossing_53, e_Md_crossing_56, e_Md_crossing_59, e_Md_crossing_60, e_Md_crossing_63, e_Md_crossing_64, hin, evK_i, one_ne, not_false_eq_true, if_true, e1, not_true_eq_false, if_false, hre]
        rfl
    · have h0 : gI μ 6 0 3 = 0 := by omega
      have hl := hI.1.2.2.2.2.1
      obtain ⟨τa, a1, a2, a3, a4⟩ := c_Auc_find μ B hI.2.1 hR hl
      have hRO : RO μ τa (-1) := RO_25 hI.1.1 (fun k => a2.2 _ _ _ (by omega) (by omega) (by omega))
      have e603 : gI τa 26 0 603 = gI μ 9 0 4 := by rw [a2.2 _ _ _ (by omega) (by omega) (by omega)]; exact hI.1.2.2.2.1.1.2.2.1
      obtain ⟨σ', b1, b2, b3⟩ := c_Md_crossPrice hRO hI.1.2.1 hI.2.1 hR hl e603 (FrV.rfl τa)
      have hcr := fd_crN (Inv_vol hI)
      have e601 : gI τa 26 0 601 = 0 := by rw [a2.2 _ _ _ (by omega) (by omega) (by omega), h601, h0]
      have e63 : gI μ 6 0 3 = 0 := h0
      refine ⟨if w = 0 then (fdN μ).1 else (fdN μ).2, τa, σ', ?_, ?_, Inv_mono (Inv_cg (μ' := σ') hI (b2.1.trans a2.1) (fun t i j z => ?_) (fun r r0 r1 => ?_)) (by omega)⟩
      · show ev 97 0 [aR 0 0, aI w] [] μ = _
        by_cases z : w = 0
        · simp (disch := omega) only [e_Ub_crossing_0, e_Ub_crossing_1, e_Ub_crossing_4, e_Ub_crossing_5, e_Ub_crossing_6, e_Ub_crossing_9, e_Ub_crossing_10, e_Ub_crossing_12, e_Ub_crossing_15, e_Ub_crossing_16, e_Ub_crossing_17, e_Ub_crossing_20, e_Ub_crossing_23, e_Ub_crossing_26, e_Ub_crossing_27, e_Ub_crossing_29, e_Ub_crossing_32, e_Ub_crossing_33, e_Ub_crossing_34, e_Ub_crossing_37, e_Ub_crossing_38, e_Ub_crossing_41, e_Ub_crossing_44, e_Ub_crossing_45, e_Ub_crossing_48, e_Ub_crossing_49, e_Ub_crossing_52, e_Ub_crossing_55, e_Ub_crossing_58, e_Ub_crossing_59, e_Ub_crossing_62, e_Ub_crossing_65, if_neg (show ¬ w < 0 by omega), if_pos hw.2, h0, if_true, evK_v, a1, if_neg (show ¬ ¬ w = 0 from fun y => y z), a3, if_pos z]
        · simp (disch := omega) only [e_Ub_crossing_0, e_Ub_crossing_1, e_Ub_crossing_4, e_Ub_crossing_5, e_Ub_crossing_6, e_Ub_crossing_9, e_Ub_crossing_10, e_Ub_crossing_12, e_Ub_crossing_15, e_Ub_crossing_16, e_Ub_crossing_17, e_Ub_crossing_20, e_Ub_crossing_23, e_Ub_crossing_26, e_Ub_crossing_27, e_Ub_crossing_29, e_Ub_crossing_32, e_Ub_crossing_33, e_Ub_crossing_34, e_Ub_crossing_37, e_Ub_crossing_38, e_Ub_crossing_41, e_Ub_crossing_44, e_Ub_crossing_45, e_Ub_crossing_48, e_Ub_crossing_49, e_Ub_crossing_52, e_Ub_crossing_55, e_Ub_crossing_58, e_Ub_crossing_59, e_Ub_crossing_62, e_Ub_crossing_65, if_neg (show ¬ w < 0 by omega), if_pos hw.2, h0, if_true, evK_v, a1, if_pos z, a4, if_neg z]
      · have hin := c_Md_in w 0 1 τa
        rw [if_pos hw] at hin
        show ev 190 0 [aR 25 0, aI w, aU] [] τa = _
        by_cases z : w = 0
        · by_cases y : (fdN μ).2 = 0
          · have e2 : (fdN μ).1 = 0 := by
              rcases hcr with q | q
              · omega
              · rw [q.1]
            have e3 : gI σ' 25 0 21 = 0 := by
              rcases hcr with q | q
              · omega
              · rw [b3]; exact q.2
            simp (disch := omega) only [e_Md_crossing_0, e_Md_crossing_1, e_Md_crossing_2, e_Md_crossing_3, e_Md_crossing_6, e_Md_crossing_9, e_Md_crossing_10, e_Md_crossing_12, e_Md_crossing_15, e_Md_crossing_16, e_Md_crossing_17, e_Md_crossing_20, e_Md_crossing_23, e_Md_crossing_24, e_Md_crossing_25, e_Md_crossing_28, e_Md_crossing_29, e_Md_crossing_31, e_Md_crossing_34, e_Md_crossing_35, e_Md_crossing_36, e_Md_crossing_39, e_Md_crossing_40, e_Md_crossing_41, e_Md_crossing_42, e_Md_crossing_45, e_Md_crossing_46, e_Md_crossing_49, e_Md_crossing_52, e_Md_crossing_53, e_Md_crossing_56, e_Md_crossing_59, e_Md_crossing_60, e_Md_crossing_63, e_Md_crossing_64, hin, evK_i, one_ne, not_false_eq_true, if_true, e601, if_pos (show ¬ (0 : Int) = 1 by omega), b1, if_pos (show ¬ w = 1 by omega), e3, not_true_eq_false, if_false, if_pos z, e2]
          · have e3 : crL μ (aimN μ) 999 1 0 0 (-1) = fdN μ := by
              rcases hcr with q | q
              · exact q.2
              · exact absurd (by rw [q.1]) y
            rw [e3] at b1 b3
            simp (disch := omega) only [e_Md_crossing_0, e_Md_crossing_1, e_Md_crossing_2, e_Md_crossing_3, e_Md_crossing_6, e_Md_crossing_9, e_Md_crossing_10, e_Md_crossing_12, e_Md_crossing_15, e_Md_crossing_16, e_Md_crossing_17, e_Md_crossing_20, e_Md_crossing_23, e_Md_crossing_24, e_Md_crossing_25, e_Md_crossing_28, e_Md_crossing_29, e_Md_crossing_31, e_Md_crossing_34, e_Md_crossing_35, e_Md_crossing_36, e_Md_crossing_39, e_Md_crossing_40, e_Md_crossing_41, e_Md_crossing_42, e_Md_crossing_45, e_Md_crossing_46, e_Md_crossing_49, e_Md_crossing_52, e_Md_crossing_53, e_Md_crossing_56, e_Md_crossing_59, e_Md_crossing_60, e_Md_crossing_63, e_Md_crossing_64, hin, evK_i, one_ne, not_false_eq_true, if_true, e601, if_pos (show ¬ (0 : Int) = 1 by omega), b1, if_pos (show ¬ w = 1 by omega), b3, if_pos y, if_pos z]
        · have e3 : (crL μ (aimN μ) 999 1 0 0 (-1)).2 = (fdN μ).2 := by
            rcases hcr with q | q
            · rw [q.2]
            · rw [q.1, q.2]
          rw [e3] at b3
          simp (disch := omega) only [e_Md_crossing_0, e_Md_crossing_1, e_Md_crossing_2, e_Md_crossing_3, e_Md_crossing_6, e_Md_crossing_9, e_Md_crossing_10, e_Md_crossing_12, e_Md_crossing_15, e_Md_crossing_16, e_Md_crossing_17, e_Md_crossing_20, e_Md_crossing_23, e_Md_crossing_24, e_Md_crossing_25, e_Md_crossing_28, e_Md_crossing_29, e_Md_crossing_31, e_Md_crossing_34, e_Md_crossing_35, e_Md_crossing_36, e_Md_crossing_39, e_Md_crossing_40, e_Md_crossing_41, e_Md_crossing_42, e_Md_crossing_45, e_Md_crossing_46, e_Md_crossing_49, e_Md_crossing_52, e_Md_crossing_53, e_Md_crossing_56, e_Md_crossing_59, e_Md_crossing_60, e_Md_crossing_63, e_Md_crossing_64, hin, evK_i, one_ne, not_false_eq_true, if_true, e601, if_pos (show ¬ (0 : Int) = 1 by omega), b1, if_neg (show ¬ ¬ w = 1 by omega), b3, if_neg z]
      · rw [b2.2 _ _ _ (by omega), a2.2 _ _ _ (by omega) (by omega) (by omega)]
      · rw [b2.2 _ _ _ (by omega), a2.2 _ _ _ (by omega) (by omega) (by omega), b2.2 _ _ _ (by omega), a2.2 _ _ _ (by omega) (by omega) (by omega)]
        exact hI.2.2.2.1 r r0 r1
  · refine PR_rf (a := -5) (r := 5) hI ?_ ?_
    · have hre := c_Ub_refuse (-5) μ (by omega)
      show ev 97 0 [aR 0 0, aI w] [] μ = _
      by_cases h2 : w < 0
      · simp (disch := omega) only [e_Ub_crossing_0, e_Ub_crossing_1, e_Ub_crossing_4, e_Ub_crossing_5, e_Ub_crossing_6, e_Ub_crossing_9, e_Ub_crossing_10, e_Ub_crossing_12, e_Ub_crossing_15, e_Ub_crossing_16, e_Ub_crossing_17, e_Ub_crossing_20, e_Ub_crossing_23, e_Ub_crossing_26, e_Ub_crossing_27, e_Ub_crossing_29, e_Ub_crossing_32, e_Ub_crossing_33, e_Ub_crossing_34, e_Ub_crossing_37, e_Ub_crossing_38, e_Ub_crossing_41, e_Ub_crossing_44, e_Ub_crossing_45, e_Ub_crossing_48, e_Ub_crossing_49, e_Ub_crossing_52, e_Ub_crossing_55, e_Ub_crossing_58, e_Ub_crossing_59, e_Ub_crossing_62, e_Ub_crossing_65, if_pos h2, evK_i, hre]
        rfl
      · simp (disch := omega) only [e_Ub_crossing_0, e_Ub_crossing_1, e_Ub_crossing_4, e_Ub_crossing_5, e_Ub_crossing_6, e_Ub_crossing_9, e_Ub_crossing_10, e_Ub_crossing_12, e_Ub_crossing_15, e_Ub_crossing_16, e_Ub_crossing_17, e_Ub_crossing_20, e_Ub_crossing_23, e_Ub_crossing_26, e_Ub_crossing_27, e_Ub_crossing_29, e_Ub_crossing_32, e_Ub_crossing_33, e_Ub_crossing_34, e_Ub_crossing_37, e_Ub_crossing_38, e_Ub_crossing_41, e_Ub_crossing_44, e_Ub_crossing_45, e_Ub_crossing_48, e_Ub_crossing_49, e_Ub_crossing_52, e_Ub_crossing_55, e_Ub_crossing_58, e_Ub_crossing_59, e_Ub_crossing_62, e_Ub_crossing_65, if_neg h2, if_neg (show ¬ w ≤ 1 by omega), evK_i, hre]
        rfl
    · have hre := c_Md_refused (-5) (rf4 μ 5) (by omega)
      have hin := c_Md_in w 0 1 (rf4 μ 5)
      rw [if_neg hw] at hin
      show ev 190 0 [aR 25 0, aI w, aU] [] (rf4 μ 5) = _
      simp (disch := omega) only [e_Md_crossing_0, e_Md_crossing_1, e_Md_crossing_2, e_Md_crossing_3, e_Md_crossing_6, e_Md_crossing_9, e_Md_crossing_10, e_Md_crossing_12, e_Md_crossing_15, e_Md_crossing_16, e_Md_crossing_17, e_Md_crossing_20, e_Md_crossing_23, e_Md_crossing_24, e_Md_crossing_25, e_Md_crossing_28, e_Md_crossing_29, e_Md_crossing_31, e_Md_crossing_34, e_Md_crossing_35, e_Md_crossing_36, e_Md_crossing_39, e_Md_crossing_40, e_Md_crossing_41, e_Md_crossing_42, e_Md_crossing_45, e_Md_crossing_46, e_Md_crossing_49, e_Md_crossing_52, e_Md_crossing_53, e_Md_crossing_56, e_Md_crossing_59, e_Md_crossing_60, e_Md_crossing_63, e_Md_crossing_64, hin, evK_i, not_true_eq_false, if_false, hre]
      rfl
