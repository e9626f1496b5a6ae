/-! small calls -/
theorem c_Md_isThere {τ σ : aM} {B : Int} (o : Int) (hS : Sim τ σ (-1) B) (h0 : 0 ≤ o) (h1 : o < gI τ 6 0 2) : ev 178 0 [aR 25 0, aI o] [] σ = some (some (aI (if gI τ 8 o 5 = 1 ∨ gI τ 8 o 5 = 0 then 1 else 0)), σ) := by
  have hc6 := hS.1.1.2
  obtain ⟨ra, rb, rt, rv, rc⟩ := RO.p hS.1 h0 h1
  have k5 := (rb (by omega)).2.1
  simp (disch := omega) only [e_Md_isThere_0, e_Md_isThere_1, e_Md_isThere_4, e_Md_isThere_7, e_Md_isThere_8, e_Md_isThere_9, e_Md_isThere_10, e_Md_isThere_11, e_Md_isThere_14, e_Md_isThere_15, e_Md_isThere_18, e_Md_isThere_21, e_Md_isThere_22, e_Md_isThere_23, e_Md_isThere_24, e_Md_isThere_27, e_Md_isThere_28, e_Md_isThere_31, e_Md_isThere_32, wr_id, k5]
  grind
theorem end_Sim {τ σ : aM} {o B : Int} (hS : Sim τ σ (-1) B) (ho : 0 ≤ o ∧ o < gI τ 6 0 2) : Sim (uI τ 8 o 5 3) (uI σ 26 0 (240 + o) 3) (-1) B := by
  obtain ⟨ra, rb, rt, rv, rc⟩ := RO.p hS.1 ho.1 ho.2
  obtain ⟨ia, ib, ip, idd, is, ir⟩ := IO_p hS.2.1 ho.1 ho.2
  have rb := rb (by omega)
  have e4 : gI (uI τ 8 o 5 4) 8 o 4 = gI τ 8 o 4 := gI_nj _ _ _ _ _ _ _ _ (by decide)
  have e6 : gI (uI τ 8 o 5 4) 8 o 6 = gI τ 8 o 6 := gI_nj _ _ _ _ _ _ _ _ (by decide)
  obtain ⟨k1, k2⟩ := leave_Sim (τ' := uI τ 8 o 5 4) (σ' := uI σ 26 0 (240 + o) 3) (q := gI τ 8 o 4) (p := gI τ 8 o 7) hS ho ib.1 ⟨ib.2.1, ip⟩ (gI_self _ _ _ _ _) e4 (gI_nj _ _ _ _ _ _ _ _ (by decide)) (fun t i k z => by rw [gI_uI, if_neg (fun y => z ⟨y.1, y.2.1, Or.inr (Or.inl y.2.2)⟩)]) (gI_self _ _ _ _ _) (by rw [gI_nj _ _ _ _ _ _ _ _ (by omega)]; exact ra.2.2.2.1) (fun k y1 y2 y3 => gI_nj _ _ _ _ _ _ _ _ y1)
  exact settle (v := 3) k1 ⟨ho.1, by rw [gI_nt _ _ _ _ _ _ _ _ (by decide)]; exact ho.2⟩ (by rw [e4, gI_nj _ _ _ _ _ _ _ _ (by omega)]; exact rb.1) (by rw [e6, gI_nj _ _ _ _ _ _ _ _ (by omega)]; exact rb.2.2) (Or.inr (Or.inl rfl)) (gI_self _ _ _ _ _) (fun t i j z => by rw [gI_uI, if_neg z, gI_uI, if_neg z]) (gI_self _ _ _ _ _) (fun k _ => rfl)
theorem glob_Sim {τ σ τ' σ' : aM} {B : Int} (hS : Sim τ σ (-1) B) (tt : ∀ t i j, ¬ (t = 6 ∧ i = 0 ∧ 3 ≤ j ∧ j ≤ 5) → gI τ' t i j = gI τ t i j) (ss : ∀ k, ¬ (k = 601 ∨ k = 602 ∨ k = 604) → gI σ' 26 0 k = gI σ 26 0 k) (e3 : gI σ' 26 0 601 = gI τ' 6 0 3) (e4 : gI σ' 26 0 602 = gI τ' 6 0 4) (e5 : gI σ' 26 0 604 = gI τ' 6 0 5) (g3 : 0 ≤ gI τ' 6 0 3 ∧ gI τ' 6 0 3 ≤ 1) (g4 : 0 ≤ gI τ' 6 0 4 ∧ gI τ' 6 0 4 ≤ 3) : Sim τ' σ' (-1) B := by
  obtain ⟨hO, hI, hD, hG, hg⟩ := hS
  have hc6 := hO.1.2
  have hU := updO (τ' := τ') (σ' := σ') (c' := -1) (f0 := 0) (fun _ => False) hO hI hD (tt _ _ _ (by omega)) (by rw [tt _ _ _ (by omega)]; exact Int.le_refl _) (ss _ (by omega)) (fun o o0 o1 _ => ⟨EqC_of (fun j => tt _ _ _ (by omega)), EqS_of o0 (by omega) (fun k _ _ _ => ss k (by omega)), Iff.rfl⟩) (fun o o0 o1 hm => hm.elim)
  refine ⟨hU.1, hU.2.1, hU.2.2, ?_, ?_⟩
  · obtain ⟨⟨b1, b2, b3, b4, b5, b6⟩, bp, bf⟩ := hG
    refine ⟨⟨e3, e4, ?_, e5, ?_, ?_⟩, fun w w0 w8 => ?_, fun k k0 k8 => ?_⟩
    · rw [ss _ (by omega), tt _ _ _ (by omega), b3]
    · rw [ss _ (by omega), tt _ _ _ (by omega), b5]
    · rw [ss _ (by omega), tt _ _ _ (by omega), b6]
    · rw [ss _ (by omega), ss _ (by omega), tt _ _ _ (by omega), tt _ _ _ (by omega)]; exact bp w w0 w8
    · rw [ss _ (by omega), tt _ _ _ (by omega)]; exact bf k k0 k8
  · obtain ⟨h1, h2, h3, h4, h5, h6, h7⟩ := hg
    unfold IG
    rw [tt 9 0 4 (by omega), tt 6 0 6 (by omega), tt 9 0 3 (by omega), tt 8 120 0 (by omega)]
    exact ⟨h1, g4, g3, h4, h5, fun i i0 i1 => by rw [tt _ _ _ (by omega)]; exact h6 i i0 i1, h7⟩
theorem frm_u {σ : aM} (k v : Int) : FrM σ (uI σ 26 0 k v) := (FrM.rfl σ).u _ _ _ (Or.inl rfl)
theorem PR_cancel {μ : aM} {B : Int} (hI : Inv μ B) (o : Int) : PR B μ (fun σ => ev 92 0 [aR 0 0, aI o, aU] [] σ) (fun σ => ev 179 0 [aR 25 0, aI o] [] σ) := by
  obtain ⟨hc, h600, hR, hnum, h601, hph⟩ := Inv_f hI
  have hat := c_Bk_orderAt o μ hc.2
  by_cases h : 0 ≤ o ∧ o < gI μ 6 0 2
  · rw [if_pos h] at hat
    by_cases h5 : gI μ 8 o 5 = 1 ∨ gI μ 8 o 5 = 0
    · have hf : FrC 120 μ (uI μ 8 o 5 3) := (FrC.rfl μ).u (by omega)
      have hL := ((RO.p hI.1.1 h.1 h.2).2.1 (by omega)).1
      refine ⟨gI μ 8 o 4, uI μ 8 o 5 3, uI (uI μ 8 o 5 3) 26 0 (240 + o) 3, ?_, ?_, Inv_mono (Inv_step hI hf (frm_u _ _) (Sim_25 (end_Sim hI.1 h) (fun k => by
        by_cases z : k = 240 + o
        · rw [z, gI_self, gI_self]
        · rw [gI_nj _ _ _ _ _ _ _ _ z, gI_nj _ _ _ _ _ _ _ _ z, frc_26 hf])) (uI5_CO hI.2.1 o 3) (by rw [gI_nt _ _ _ _ _ _ _ _ (by decide)]; exact Int.le_refl _) (Int.le_refl _)) (by omega)⟩
      · show ev 92 0 [aR 0 0, aI o, aU] [] μ = _
        rcases h5 with z | z
        · simp (disch := omega) only [e_Ub_cancel_0, e_Ub_cancel_1, e_Ub_cancel_4, e_Ub_cancel_5, e_Ub_cancel_8, e_Ub_cancel_9, e_Ub_cancel_10, e_Ub_cancel_13, e_Ub_cancel_14, e_Ub_cancel_15, e_Ub_cancel_18, e_Ub_cancel_19, e_Ub_cancel_20, e_Ub_cancel_23, e_Ub_cancel_24, e_Ub_cancel_27, e_Ub_cancel_28, e_Ub_cancel_31, e_Ub_cancel_34, e_Ub_cancel_35, e_Ub_cancel_37, e_Ub_cancel_40, e_Ub_cancel_41, e_Ub_cancel_42, e_Ub_cancel_43, e_Ub_cancel_46, e_Ub_cancel_47, e_Ub_cancel_50, hat, evK_i, reduceCtorEq, not_false_eq_true, if_true, z, gI_self, gI_nt, gI_nj, gL_uI, gR_uI, gI_uL, gR_uL, gI_uR, gL_uR]
        · simp (disch := omega) only [e_Ub_cancel_0, e_Ub_cancel_1, e_Ub_cancel_4, e_Ub_cancel_5, e_Ub_cancel_8, e_Ub_cancel_9, e_Ub_cancel_10, e_Ub_cancel_13, e_Ub_cancel_14, e_Ub_cancel_15, e_Ub_cancel_18, e_Ub_cancel_19, e_Ub_cancel_20, e_Ub_cancel_23, e_Ub_cancel_24, e_Ub_cancel_27, e_Ub_cancel_28, e_Ub_cancel_31, e_Ub_cancel_34, e_Ub_cancel_35, e_Ub_cancel_37, e_Ub_cancel_40, e_Ub_cancel_41, e_Ub_cancel_42, e_Ub_cancel_43, e_Ub_cancel_46, e_Ub_cancel_47, e_Ub_cancel_50, hat, evK_i, reduceCtorEq, not_false_eq_true, if_true, if_neg (show ¬ gI μ 8 o 5 = 1 by omega), z, gI_self, gI_nt, gI_nj, gL_uI, gR_uI, gI_uL, gR_uL, gI_uR, gL_uR, ite_self]
      · have hio := c_Md_isOrder (uI μ 8 o 5 3) o (by rw [frc_26 hf]; omega)
        rw [frc_26 hf, h600, if_pos h] at hio
        have hit := c_Md_isThere (τ := μ) (σ := uI μ 8 o 5 3) o (Sim_25 hI.1 (frc_26 hf)) h.1 h.2
        rw [if_pos h5] at hit
        have h4 : gI (uI μ 8 o 5 3) 26 0 (180 + o) = gI μ 8 o 4 := by rw [frc_26 hf]; exact hL
        show ev 179 0 [aR 25 0, aI o] [] (uI μ 8 o 5 3) = _
        simp (disch := omega) only [e_Md_cancel_0, e_Md_cancel_1, e_Md_cancel_2, e_Md_cancel_5, e_Md_cancel_8, e_Md_cancel_9, e_Md_cancel_10, e_Md_cancel_13, e_Md_cancel_14, e_Md_cancel_15, e_Md_cancel_16, e_Md_cancel_19, e_Md_cancel_22, e_Md_cancel_23, e_Md_cancel_25, e_Md_cancel_28, e_Md_cancel_29, e_Md_cancel_30, e_Md_cancel_33, e_Md_cancel_36, e_Md_cancel_37, e_Md_cancel_38, e_Md_cancel_39, e_Md_cancel_40, e_Md_cancel_41, e_Md_cancel_44, e_Md_cancel_47, e_Md_cancel_48, e_Md_cancel_49, e_Md_cancel_50, hio, hit, evK_i, one_ne, not_false_eq_true, if_true, wr_id, gI_nj, h4]
    · refine PR_rf (a := -6) (r := 6) hI ?_ ?_
      · have hre := c_Ub_refuse (-6) μ (by omega)
        show ev 92 0 [aR 0 0, aI o, aU] [] μ = _
        simp (disch := omega) only [e_Ub_cancel_0, e_Ub_cancel_1, e_Ub_cancel_4, e_Ub_cancel_5, e_Ub_cancel_8, e_Ub_cancel_9, e_Ub_cancel_10, e_Ub_cancel_13, e_Ub_cancel_14, e_Ub_cancel_15, e_Ub_cancel_18, e_Ub_cancel_19, e_Ub_cancel_20, e_Ub_cancel_23, e_Ub_cancel_24, e_Ub_cancel_27, e_Ub_cancel_28, e_Ub_cancel_31, e_Ub_cancel_34, e_Ub_cancel_35, e_Ub_cancel_37, e_Ub_cancel_40, e_Ub_cancel_41, e_Ub_cancel_42, e_Ub_cancel_43, e_Ub_cancel_46, e_Ub_cancel_47, e_Ub_cancel_50, hat, evK_i, reduceCtorEq, not_false_eq_true, if_true, if_neg (show ¬ gI μ 8 o 5 = 1 by omega), if_neg (show ¬ gI μ 8 o 5 = 0 by omega), hre]
        rfl
      · have hre := c_Md_refused (-6) (rf4 μ 6) (by omega)
        have hio := c_Md_isOrder (rf4 μ 6) o (by rw [g_rf4 _ _ _ _ _ (by decide)]; omega)
        rw [g_rf4 _ _ _ _ _ (by decide), h600, if_pos h] at hio
        have hit := c_Md_isThere (τ := μ) (σ := rf4 μ 6) o (Sim_25 hI.1 (fun k => g_rf4 _ _ _ _ _ (by decide))) h.1 h.2
        rw [if_neg h5] at hit
        show ev 179 0 [aR 25 0, aI o] [] (rf4 μ 6) = _
        simp (disch := omega) only [e_Md_cancel_0, e_Md_cancel_1, e_Md_cancel_2, e_Md_cancel_5, e_Md_cancel_8, e_Md_cancel_9, e_Md_cancel_10, e_Md_cancel_13, e_Md_cancel_14, e_Md_cancel_15, e_Md_cancel_16, e_Md_cancel_19, e_Md_cancel_22, e_Md_cancel_23, e_Md_cancel_25, e_Md_cancel_28, e_Md_cancel_29, e_Md_cancel_30, e_Md_cancel_33, e_Md_cancel_36, e_Md_cancel_37, e_Md_cancel_38, e_Md_cancel_39, e_Md_cancel_40, e_Md_cancel_41, e_Md_cancel_44, e_Md_cancel_47, e_Md_cancel_48, e_Md_cancel_49, e_Md_cancel_50, hio, hit, evK_i, one_ne, not_false_eq_true, if_true, not_true_eq_false, if_false, hre]
        rfl
  · rw [if_neg h] at hat
    refine PR_rf (a := -1) (r := 1) hI ?_ ?_
    · have hre := c_Ub_refuse (-1) μ (by omega)
      show ev 92 0 [aR 0 0, aI o, aU] [] μ = _
      simp (disch := omega) only [e_Ub_cancel_0, e_Ub_cancel_1, e_Ub_cancel_4, e_Ub_cancel_5, e_Ub_cancel_8, e_Ub_cancel_9, e_Ub_cancel_10, e_Ub_cancel_13, e_Ub_cancel_14, e_Ub_cancel_15, e_Ub_cancel_18, e_Ub_cancel_19, e_Ub_cancel_20, e_Ub_cancel_23, e_Ub_cancel_24, e_Ub_cancel_27, e_Ub_cancel_28, e_Ub_cancel_31, e_Ub_cancel_34, e_Ub_cancel_35, e_Ub_cancel_37, e_Ub_cancel_40, e_Ub_cancel_41, e_Ub_cancel_42, e_Ub_cancel_43, e_Ub_cancel_46, e_Ub_cancel_47, e_Ub_cancel_50, hat, evK_i, not_true_eq_false, if_false, hre]
      rfl
    · have hre := c_Md_refused (-1) (rf4 μ 1) (by omega)
      have hio := c_Md_isOrder (rf4 μ 1) o (by rw [g_rf4 _ _ _ _ _ (by decide)]; omega)
      rw [g_rf4 _ _ _ _ _ (by decide), h600, if_neg h] at hio
      show ev 179 0 [aR 25 0, aI o] [] (rf4 μ 1) = _
      simp (disch := omega) only [e_Md_cancel_0, e_Md_cancel_1, e_Md_cancel_2, e_Md_cancel_5, e_Md_cancel_8, e_Md_cancel_9, e_Md_cancel_10, e_Md_cancel_13, e_Md_cancel_14, e_Md_cancel_15, e_Md_cancel_16, e_Md_cancel_19, e_Md_cancel_22, e_Md_cancel_23, e_Md_cancel_25, e_Md_cancel_28, e_Md_cancel_29, e_Md_cancel_30, e_Md_cancel_33, e_Md_cancel_36, e_Md_cancel_37, e_Md_cancel_38, e_Md_cancel_39, e_Md_cancel_40, e_Md_cancel_41, e_Md_cancel_44, e_Md_cancel_47, e_Md_cancel_48, e_Md_cancel_49, e_Md_cancel_50, hio, evK_i, not_true_eq_false, if_false, hre]
      rfl
theorem PR_rule {μ : aM} {B : Int} (hI : Inv μ B) (v : Int) : PR B μ (fun σ => ev 94 0 [aR 0 0, aI v, aU] [] σ) (fun σ => ev 181 0 [aR 25 0, aI v, aU] [] σ) := by
  obtain ⟨hc, h600, hR, hnum, h601, hph⟩ := Inv_f hI
  have h602 := hI.1.2.2.2.1.1.2.1
  have h604 := hI.1.2.2.2.1.1.2.2.2.1
  by_cases h : 0 ≤ v ∧ v ≤ 3
  · have hf : FrC 120 μ (uI μ 6 0 4 v) := (FrC.rfl μ).u (by omega)
    have hS : Sim (uI μ 6 0 4 v) (uI (uI μ 6 0 4 v) 26 0 602 v) (-1) B := glob_Sim hI.1 (fun t i j z => by rw [gI_uI, if_neg (by omega)]) (fun k z => by rw [gI_nj _ _ _ _ _ _ _ _ (by omega), frc_26 hf]) (by simp (disch := omega) only [gI_self, gI_nt, gI_nj, gL_uI, gR_uI, gI_uL, gR_uL, gI_uR, gL_uR]; exact h601) (by simp (disch := omega) only [gI_self, gI_nt, gI_nj, gL_uI, gR_uI, gI_uL, gR_uL, gI_uR, gL_uR]) (by simp (disch := omega) only [gI_self, gI_nt, gI_nj, gL_uI, gR_uI, gI_uL, gR_uL, gI_uR, gL_uR]; exact h604) (by simp (disch := omega) only [gI_self, gI_nt, gI_nj, gL_uI, gR_uI, gI_uL, gR_uL, gI_uR, gL_uR]; omega) (by simp (disch := omega) only [gI_self, gI_nt, gI_nj, gL_uI, gR_uI, gI_uL, gR_uL, gI_uR, gL_uR]; exact h)
    refine ⟨gI μ 6 0 4, uI μ 6 0 4 v, uI (uI μ 6 0 4 v) 26 0 602 v, ?_, ?_, Inv_mono (Inv_step hI hf (frm_u _ _) hS (CO_cg hI.2.1 (gI_nj _ _ _ _ _ _ _ _ (by decide)) (fun i _ _ => gI_nt _ _ _ _ _ _ _ _ (by decide)) (gI_nt _ _ _ _ _ _ _ _ (by decide)) (Int.le_refl _)) (by rw [gI_nj _ _ _ _ _ _ _ _ (by decide)]; exact Int.le_refl _) (Int.le_refl _)) (by omega)⟩
    · show ev 94 0 [aR 0 0, aI v, aU] [] μ = _
      simp (disch := omega) only [e_Ub_rule_0, e_Ub_rule_1, e_Ub_rule_4, e_Ub_rule_5, e_Ub_rule_6, e_Ub_rule_9, e_Ub_rule_10, e_Ub_rule_12, e_Ub_rule_15, e_Ub_rule_16, e_Ub_rule_17, e_Ub_rule_20, e_Ub_rule_23, e_Ub_rule_24, e_Ub_rule_25, e_Ub_rule_28, e_Ub_rule_29, e_Ub_rule_32, e_Ub_rule_33, if_neg (show ¬ v < 0 by omega), if_neg (show ¬ 3 < v by omega), if_pos h.2]
    · have hin := c_Md_in v 0 3 (uI μ 6 0 4 v)
      rw [if_pos h] at hin
      have h4 : gI (uI μ 6 0 4 v) 26 0 602 = gI μ 6 0 4 := by rw [frc_26 hf]; exact h602
      show ev 181 0 [aR 25 0, aI v, aU] [] (uI μ 6 0 4 v) = _
      simp (disch := omega) only [e_Md_rule_0, e_Md_rule_1, e_Md_rule_2, e_Md_rule_3, e_Md_rule_6, e_Md_rule_9, e_Md_rule_10, e_Md_rule_12, e_Md_rule_15, e_Md_rule_16, e_Md_rule_17, e_Md_rule_20, e_Md_rule_23, e_Md_rule_24, e_Md_rule_25, e_Md_rule_26, e_Md_rule_29, e_Md_rule_32, e_Md_rule_33, e_Md_rule_34, e_Md_rule_35, hin, evK_i, one_ne, not_false_eq_true, if_true, h4]
  · refine PR_rf (a := -6) (r := 6) hI ?_ ?_
    · have hre := c_Ub_refuse (-6) μ (by omega)
      show ev 94 0 [aR 0 0, aI v, aU] [] μ = _
      by_cases h2 : v < 0
      · simp (disch := omega) only [e_Ub_rule_0, e_Ub_rule_1, e_Ub_rule_4, e_Ub_rule_5, e_Ub_rule_6, e_Ub_rule_9, e_Ub_rule_10, e_Ub_rule_12, e_Ub_rule_15, e_Ub_rule_16, e_Ub_rule_17, e_Ub_rule_20, e_Ub_rule_23, e_Ub_rule_24, e_Ub_rule_25, e_Ub_rule_28, e_Ub_rule_29, e_Ub_rule_32, e_Ub_rule_33, if_pos h2, evK_i, hre]
        rfl
      · simp (disch := omega) only [e_Ub_rule_0, e_Ub_rule_1, e_Ub_rule_4, e_Ub_rule_5, e_Ub_rule_6, e_Ub_rule_9, e_Ub_rule_10, e_Ub_rule_12, e_Ub_rule_15, e_Ub_rule_16, e_Ub_rule_17, e_Ub_rule_20, e_Ub_rule_23, e_Ub_rule_24, e_Ub_rule_25, e_Ub_rule_28, e_Ub_rule_29, e_Ub_rule_32, e_Ub_rule_33, if_neg h2, if_neg (show ¬ v ≤ 3 by omega), evK_i, hre]
        rfl
    · have hre := c_Md_refused (-6) (rf4 μ 6) (by omega)
      have hin := c_Md_in v 0 3 (rf4 μ 6)
      rw [if_neg h] at hin
      show ev 181 0 [aR 25 0, aI v, aU] [] (rf4 μ 6) = _
      simp (disch := omega) only [e_Md_rule_0, e_Md_rule_1, e_Md_rule_2, e_Md_rule_3, e_Md_rule_6, e_Md_rule_9, e_Md_rule_10, e_Md_rule_12, e_Md_rule_15, e_Md_rule_16, e_Md_rule_17, e_Md_rule_20, e_Md_rule_23, e_Md_rule_24, e_Md_rule_25, e_Md_rule_26, e_Md_rule_29, e_Md_rule_32, e_Md_rule_33, e_Md_rule_34, e_Md_rule_35, hin, evK_i, not_true_eq_false, if_false, hre]
      rfl
theorem PR_seed {μ : aM} {B : Int} (hI : Inv μ B) (v : Int) : PR B μ (fun σ => ev 109 0 [aR 0 0, aI v, aU] [] σ) (fun σ => ev 207 0 [aR 25 0, aI v, aU] [] σ) := by
  obtain ⟨hc, h600, hR, hnum, h601, hph⟩ := Inv_f hI
  have h602 := hI.1.2.2.2.1.1.2.1
  have h604 := hI.1.2.2.2.1.1.2.2.2.1
  have g4 := hI.1.2.2.2.2.2.1
  have hf : FrC 120 μ (uI μ 6 0 5 v) := (FrC.rfl μ).u (by omega)
  have hS : Sim (uI μ 6 0 5 v) (uI (uI μ 6 0 5 v) 26 0 604 v) (-1) B := glob_Sim hI.1 (fun t i j z => by rw [gI_uI, if_neg (by omega)]) (fun k z => by rw [gI_nj _ _ _ _ _ _ _ _ (by omega), frc_26 hf]) (by simp (disch := omega) only [gI_self, gI_nt, gI_nj, gL_uI, gR_uI, gI_uL, gR_uL, gI_uR, gL_uR]; exact h601) (by simp (disch := omega) only [gI_self, gI_nt, gI_nj, gL_uI, gR_uI, gI_uL, gR_uL, gI_uR, gL_uR]; exact h602) (by simp (disch := omega) only [gI_self, gI_nt, gI_nj, gL_uI, gR_uI, gI_uL, gR_uL, gI_uR, gL_uR]) (by simp (disch := omega) only [gI_self, gI_nt, gI_nj, gL_uI, gR_uI, gI_uL, gR_uL, gI_uR, gL_uR]; omega) (by simp (disch := omega) only [gI_self, gI_nt, gI_nj, gL_uI, gR_uI, gI_uL, gR_uL, gI_uR, gL_uR]; exact g4)
  refine ⟨gI μ 6 0 5, uI μ 6 0 5 v, uI (uI μ 6 0 5 v) 26 0 604 v, ?_, ?_, Inv_mono (Inv_step hI hf (frm_u _ _) hS (CO_cg hI.2.1 (gI_nj _ _ _ _ _ _ _ _ (by decide)) (fun i _ _ => gI_nt _ _ _ _ _ _ _ _ (by decide)) (gI_nt _ _ _ _ _ _ _ _ (by decide)) (Int.le_refl _)) (by rw [gI_nj _ _ _ _ _ _ _ _ (by decide)]; exact Int.le_refl _) (Int.le_refl _)) (by omega)⟩
  · show ev 109 0 [aR 0 0, aI v, aU] [] μ = _
    simp (disch := omega) only [e_Ub_seed_0, e_Ub_seed_1, e_Ub_seed_4, e_Ub_seed_7, e_Ub_seed_8, e_Ub_seed_9, e_Ub_seed_12, e_Ub_seed_13, e_Ub_seed_16, e_Ub_seed_17]
  · have h4 : gI (uI μ 6 0 5 v) 26 0 604 = gI μ 6 0 5 := by rw [frc_26 hf]; exact h604
    show ev 207 0 [aR 25 0, aI v, aU] [] (uI μ 6 0 5 v) = _
    simp (disch := omega) only [e_Md_seed_0, e_Md_seed_1, e_Md_seed_4, e_Md_seed_7, e_Md_seed_8, e_Md_seed_9, e_Md_seed_10, e_Md_seed_13, e_Md_seed_16, e_Md_seed_17, e_Md_seed_18, e_Md_seed_19, h4]
theorem PR_fault {μ : aM} {B : Int} (hI : Inv μ B) : PR B μ (fun σ => ev 91 0 [aR 0 0] [] σ) (fun σ => ev 177 0 [aR 25 0] [] σ) := by
  have h := hI.2.2.2.2.1
  refine PR_id (a := gI μ 0 0 9) hI ?_ ?_
  · show ev 91 0 [aR 0 0] [] μ = _
    simp (disch := omega) only [e_Ub_fault_0, e_Ub_fault_1, e_Ub_fault_4]
  · show ev 177 0 [aR 25 0] [] μ = _
    simp (disch := omega) only [e_Md_fault_0, e_Md_fault_1, e_Md_fault_4, h]
theorem PR_trades {μ : aM} {B : Int} (hI : Inv μ B) : PR B μ (fun σ => ev 103 0 [aR 0 0] [] σ) (fun σ => ev 199 0 [aR 25 0] [] σ) := by
  have h := hI.1.2.2.2.1.1.2.2.2.2.2
  refine PR_id (a := gI μ 9 0 3) hI ?_ ?_
  · show ev 103 0 [aR 0 0] [] μ = _
    simp (disch := omega) only [e_Ub_trades_0, e_Ub_trades_1, e_Ub_trades_4, e_Ub_trades_7, e_Ub_trades_10]
  · show ev 199 0 [aR 25 0] [] μ = _
    simp (disch := omega) only [e_Md_trades_0, e_Md_trades_1, e_Md_trades_4, e_Md_trades_7, e_Md_trades_8, h]
theorem PR_position {μ : aM} {B : Int} (hI : Inv μ B) (w : Int) : PR B μ (fun σ => ev 105 0 [aR 0 0, aI w] [] σ) (fun σ => ev 202 0 [aR 25 0, aI w] [] σ) := by
  have hp := hI.1.2.2.2.1.2.1 w
  by_cases h : 0 ≤ w ∧ w < 8
  · have hp := (hp h.1 h.2).1
    refine PR_id (a := wr (1000000 + gI μ 11 0 w)) hI ?_ ?_
    · show ev 105 0 [aR 0 0, aI w] [] μ = _
      simp (disch := omega) only [e_Ub_position_0, e_Ub_position_1, e_Ub_position_4, e_Ub_position_7, e_Ub_position_8, e_Ub_position_9, e_Ub_position_12, e_Ub_position_13, e_Ub_position_16, e_Ub_position_17, e_Ub_position_20, e_Ub_position_23, e_Ub_position_26, e_Ub_position_27, e_Ub_position_28, e_Ub_position_29, c_Ub_isOwner, evK_i, if_pos h, one_ne, not_false_eq_true, if_true]
    · show ev 202 0 [aR 25 0, aI w] [] μ = _
      simp (disch := omega) only [e_Md_position_0, e_Md_position_1, e_Md_position_4, e_Md_position_7, e_Md_position_9, e_Md_position_10, e_Md_position_13, e_Md_position_16, e_Md_position_17, e_Md_position_18, e_Md_position_19, e_Md_position_20, e_Md_position_23, e_Md_position_24, e_Md_position_25, e_Md_position_28, c_Md_isOwner, evK_i, if_pos h, one_ne, if_false, wr_id, hp]
  · refine PR_rf (a := -1) (r := 1) hI ?_ ?_
    · have hre := c_Ub_refuse (-1) μ (by omega)
      show ev 105 0 [aR 0 0, aI w] [] μ = _
      simp (disch := omega) only [e_Ub_position_0, e_Ub_position_1, e_Ub_position_4, e_Ub_position_7, e_Ub_position_8, e_Ub_position_9, e_Ub_position_12, e_Ub_position_13, e_Ub_position_16, e_Ub_position_17, e_Ub_position_20, e_Ub_position_23, e_Ub_position_26, e_Ub_position_27, e_Ub_position_28, e_Ub_position_29, c_Ub_isOwner, evK_i, if_neg h, not_true_eq_false, if_false, hre]
      rfl
    · have hre := c_Md_refused (-1) (rf4 μ 1) (by omega)
      show ev 202 0 [aR 25 0, aI w] [] (rf4 μ 1) = _
      simp (disch := omega) only [e_Md_position_0, e_Md_position_1, e_Md_position_4, e_Md_position_7, e_Md_position_9, e_Md_position_10, e_Md_position_13, e_Md_position_16, e_Md_position_17, e_Md_position_18, e_Md_position_19, e_Md_position_20, e_Md_position_23, e_Md_position_24, e_Md_position_25, e_Md_position_28, c_Md_isOwner, evK_i, if_neg h, if_true, hre]
      rfl
theorem PR_cash {μ : aM} {B : Int} (hI : Inv μ B) (w : Int) : PR B μ (fun σ => ev 106 0 [aR 0 0, aI w] [] σ) (fun σ => ev 203 0 [aR 25 0, aI w] [] σ) := by
  have hp := hI.1.2.2.2.1.2.1 w
  by_cases h : 0 ≤ w ∧ w < 8
  · have hp := (hp h.1 h.2).2
    refine PR_id (a := wr (1000000000 + gI μ 12 0 w)) hI ?_ ?_
    · show ev 106 0 [aR 0 0, aI w] [] μ = _
      simp (disch := omega) only [e_Ub_cash_0, e_Ub_cash_1, e_Ub_cash_4, e_Ub_cash_7, e_Ub_cash_8, e_Ub_cash_9, e_Ub_cash_12, e_Ub_cash_13, e_Ub_cash_16, e_Ub_cash_17, e_Ub_cash_20, e_Ub_cash_23, e_Ub_cash_26, e_Ub_cash_27, e_Ub_cash_28, e_Ub_cash_29, c_Ub_isOwner, evK_i, if_pos h, one_ne, not_false_eq_true, if_true]
    · show ev 203 0 [aR 25 0, aI w] [] μ = _
      simp (disch := omega) only [e_Md_cash_0, e_Md_cash_1, e_Md_cash_4, e_Md_cash_7, e_Md_cash_10, e_Md_cash_11, e_Md_cash_14, e_Md_cash_17, e_Md_cash_18, e_Md_cash_19, e_Md_cash_20, e_Md_cash_21, e_Md_cash_24, e_Md_cash_25, e_Md_cash_26, e_Md_cash_29, c_Md_isOwner, evK_i, if_pos h, one_ne, if_false, wr_id, hp]
  · refine PR_rf (a := -1) (r := 1) hI ?_ ?_
    · have hre := c_Ub_refuse (-1) μ (by omega)
      show ev 106 0 [aR 0 0, aI w] [] μ = _
      simp (disch := omega) only [e_Ub_cash_0, e_Ub_cash_1, e_Ub_cash_4, e_Ub_cash_7, e_Ub_cash_8, e_Ub_cash_9, e_Ub_cash_12, e_Ub_cash_13, e_Ub_cash_16, e_Ub_cash_17, e_Ub_cash_20, e_Ub_cash_23, e_Ub_cash_26, e_Ub_cash_27, e_Ub_cash_28, e_Ub_cash_29, c_Ub_isOwner, evK_i, if_neg h, not_true_eq_false, if_false, hre]
      rfl
    · have hre := c_Md_refused (-1) (rf4 μ 1) (by omega)
      show ev 203 0 [aR 25 0, aI w] [] (rf4 μ 1) = _
      simp (disch := omega) only [e_Md_cash_0, e_Md_cash_1, e_Md_cash_4, e_Md_cash_7, e_Md_cash_10, e_Md_cash_11, e_Md_cash_14, e_Md_cash_17, e_Md_cash_18, e_Md_cash_19, e_Md_cash_20, e_Md_cash_21, e_Md_cash_24, e_Md_cash_25, e_Md_cash_26, e_Md_cash_29, c_Md_isOwner, evK_i, if_neg h, if_true, hre]
      rfl
