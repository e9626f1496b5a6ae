/-! a limit one comes, on both sides -/
theorem IO_RG {τ : aM} {c : Int} (h : IO τ c) : RG τ := fun i h0 h1 => by
  have := (h i h0 h1).2.1
  exact ⟨this.1, this.2.1, this.2.2.1⟩
/-- what the class makes of a limit one -/
def kLC (τ : aM) (c how : Int) : aM := kWs (if how = 0 then kEn τ c else kTr τ c how)
theorem kEn_1 {τ : aM} {c : Int} (h : gI τ 6 0 3 = 1) : kEn τ c = kOG τ c (gI τ 8 c 7) 1 := by
  unfold kEn kOG
  rw [if_pos h, if_neg (show ¬ (1 : Int) = 0 by decide)]
theorem kTr_1 {τ : aM} {c how : Int} (h : gI τ 6 0 3 = 1 ∧ (how = 1 ∨ enou τ c)) : kTr τ c how = kOG τ c (gI τ 8 c 7) 0 := by
  unfold kTr kOG kEu
  rw [if_pos h, if_pos (Eq.refl (0 : Int))]
theorem kTr_0 {τ : aM} {c how : Int} (h4 : gI τ 8 c 5 = 4) (h : ¬ (gI τ 6 0 3 = 1 ∧ (how = 1 ∨ enou τ c))) : kTr τ c how = uI τ 8 c 5 3 := by
  unfold kTr kEu
  rw [if_neg h, if_pos h4]
theorem c_Md_limitComes {τ σ : aM} {c B how : Int} (hS : Sim τ (uI σ 26 0 (240 + c) 3) c B) (hB : B + 64660 < 2147483647) (hC : CC τ c) (hc : 0 ≤ c ∧ c < gI τ 6 0 2) (h4 : gI τ 8 c 5 = 4) (h1 : 1 ≤ gI τ 8 c 4) (hk : ¬ gI τ 8 c 1 = 4 ∧ ¬ gI τ 8 c 1 = 3) (hL : gI σ 26 0 (180 + c) = gI τ 8 c 4) (hT : gI σ 26 0 (540 + c) = gI τ 8 c 6) (hh : 0 ≤ how ∧ how ≤ 2) :
    ∃ σ', ev 162 0 [aR 25 0, aI c, aI how] [] σ = some (none, σ') ∧ Sim (kLC τ c how) σ' (-1) (B + 64660) ∧ FrM σ σ' := by
  have hc6 := hS.1.1.2
  have hph := hS.2.2.2.1.1.1
  have hp01 := hS.2.2.2.2.2.2.1
  obtain ⟨ra, rb, rt, rv, rc⟩ := RO.p hS.1 hc.1 hc.2
  obtain ⟨ia, ib, ip, idd, is, ir⟩ := IO_p hS.2.1 hc.1 hc.2
  have hpr := ra.2.2.2.1
  have hL' : gI (uI σ 26 0 (240 + c) 3) 26 0 (180 + c) = gI τ 8 c 4 := by rw [gI_nj _ _ _ _ _ _ _ _ (by omega)]; exact hL
  have hT' : gI (uI σ 26 0 (240 + c) 3) 26 0 (540 + c) = gI τ 8 c 6 := by rw [gI_nj _ _ _ _ _ _ _ _ (by omega)]; exact hT
  have hF0 : FrM σ (uI σ 26 0 (240 + c) 3) := (FrM.rfl σ).u _ _ _ (Or.inl rfl)
  have st3 := (rc rfl).1
  have hS2 : Sim τ (uI (uI σ 26 0 (240 + c) 3) 26 0 (240 + c) 3) c B := by rw [uI_uI]; exact hS
  have gone := settle (τ' := uI τ 8 c 5 3) (σ' := uI σ 26 0 (240 + c) 3) (v := 3) hS hc hL' hT' (Or.inr (Or.inl rfl)) (gI_self _ _ _ _ _) (fun t i j z => by rw [gI_uI, if_neg z]) st3 (fun k _ => rfl)
  unfold kLC
  by_cases p1 : gI τ 6 0 3 = 1
  · by_cases g : how = 0 ∨ how = 1 ∨ enou τ c
    · have hog := c_Md_orderGoesIn (l := gI τ 8 c 7) (lm := gI τ 8 c 7) (d := if how = 0 then 1 else 0) hS2 (by omega) hC hc h4 h1 (Or.inr hk.1) hL' hT' (Or.inl ⟨rfl, ip hk.2⟩)
      have e1 : (if how = 0 then kEn τ c else kTr τ c how) = kOG τ c (gI τ 8 c 7) (if how = 0 then 1 else 0) := by
        by_cases z : how = 0
        · rw [if_pos z, if_pos z, kEn_1 p1]
        · rw [if_neg z, if_neg z, kTr_1 ⟨p1, g.elim (fun y => absurd y z) id⟩]
      obtain ⟨σ1, k1, k2, k3⟩ := hog
      rw [e1]
      obtain ⟨σ2, j1, j2, j3⟩ := c_Md_stops k2 (by omega)
      refine ⟨σ2, ?_, Sim_mono j2 (by omega), (hF0.trans k3).trans j3⟩
      have he := c_Md_isEnough hS hc hk.2 hL'
      by_cases z0 : how = 0
      · rw [if_pos z0] at k1
        simp (disch := omega) only [e_Md_limitComes_0, e_Md_limitComes_1, e_Md_limitComes_4, e_Md_limitComes_7, e_Md_limitComes_8, e_Md_limitComes_9, e_Md_limitComes_10, e_Md_limitComes_11, e_Md_limitComes_12, e_Md_limitComes_15, e_Md_limitComes_18, e_Md_limitComes_19, e_Md_limitComes_22, e_Md_limitComes_23, e_Md_limitComes_26, e_Md_limitComes_27, e_Md_limitComes_28, e_Md_limitComes_31, e_Md_limitComes_32, e_Md_limitComes_33, e_Md_limitComes_34, e_Md_limitComes_37, e_Md_limitComes_38, e_Md_limitComes_39, e_Md_limitComes_42, e_Md_limitComes_45, e_Md_limitComes_46, e_Md_limitComes_47, e_Md_limitComes_48, e_Md_limitComes_51, e_Md_limitComes_54, e_Md_limitComes_55, e_Md_limitComes_56, e_Md_limitComes_57, e_Md_limitComes_58, e_Md_limitComes_61, e_Md_limitComes_62, e_Md_limitComes_65, e_Md_limitComes_66, e_Md_limitComes_69, e_Md_limitComes_70, e_Md_limitComes_73, wr_id, hph, p1, one_ne, not_false_eq_true, if_true, z0, if_false, hpr, k1, evK_v, j1, not_true_eq_false, show ¬ (0 : Int) = 2 by decide]
      · rw [if_neg z0] at k1
        by_cases z2 : how = 2
        · have hen : enou τ c := by rcases g with y | y | y <;> first | omega | exact y
          rw [if_pos hen] at he
          simp (disch := omega) only [e_Md_limitComes_0, e_Md_limitComes_1, e_Md_limitComes_4, e_Md_limitComes_7, e_Md_limitComes_8, e_Md_limitComes_9, e_Md_limitComes_10, e_Md_limitComes_11, e_Md_limitComes_12, e_Md_limitComes_15, e_Md_limitComes_18, e_Md_limitComes_19, e_Md_limitComes_22, e_Md_limitComes_23, e_Md_limitComes_26, e_Md_limitComes_27, e_Md_limitComes_28, e_Md_limitComes_31, e_Md_limitComes_32, e_Md_limitComes_33, e_Md_limitComes_34, e_Md_limitComes_37, e_Md_limitComes_38, e_Md_limitComes_39, e_Md_limitComes_42, e_Md_limitComes_45, e_Md_limitComes_46, e_Md_limitComes_47, e_Md_limitComes_48, e_Md_limitComes_51, e_Md_limitComes_54, e_Md_limitComes_55, e_Md_limitComes_56, e_Md_limitComes_57, e_Md_limitComes_58, e_Md_limitComes_61, e_Md_limitComes_62, e_Md_limitComes_65, e_Md_limitComes_66, e_Md_limitComes_69, e_Md_limitComes_70, e_Md_limitComes_73, wr_id, hph, p1, one_ne, not_false_eq_true, if_true, z2, if_false, hpr, k1, evK_v, evK_i, j1, not_true_eq_false, he, show ¬ (2 : Int) = 0 by decide]
        · simp (disch := omega) only [e_Md_limitComes_0, e_Md_limitComes_1, e_Md_limitComes_4, e_Md_limitComes_7, e_Md_limitComes_8, e_Md_limitComes_9, e_Md_limitComes_10, e_Md_limitComes_11, e_Md_limitComes_12, e_Md_limitComes_15, e_Md_limitComes_18, e_Md_limitComes_19, e_Md_limitComes_22, e_Md_limitComes_23, e_Md_limitComes_26, e_Md_limitComes_27, e_Md_limitComes_28, e_Md_limitComes_31, e_Md_limitComes_32, e_Md_limitComes_33, e_Md_limitComes_34, e_Md_limitComes_37, e_Md_limitComes_38, e_Md_limitComes_39, e_Md_limitComes_42, e_Md_limitComes_45, e_Md_limitComes_46, e_Md_limitComes_47, e_Md_limitComes_48, e_Md_limitComes_51, e_Md_limitComes_54, e_Md_limitComes_55, e_Md_limitComes_56, e_Md_limitComes_57, e_Md_limitComes_58, e_Md_limitComes_61, e_Md_limitComes_62, e_Md_limitComes_65, e_Md_limitComes_66, e_Md_limitComes_69, e_Md_limitComes_70, e_Md_limitComes_73, wr_id, hph, p1, one_ne, not_false_eq_true, if_true, if_pos z2, if_pos z0, if_false, hpr, k1, evK_v, j1, z2, z0]
    · have hen : ¬ enou τ c := fun y => g (Or.inr (Or.inr y))
      have z2 : how = 2 := by omega
      have e1 : (if how = 0 then kEn τ c else kTr τ c how) = uI τ 8 c 5 3 := by
        rw [if_neg (by omega), kTr_0 h4 (fun y => y.2.elim (fun y => by omega) hen)]
      rw [e1]
      obtain ⟨σ2, j1, j2, j3⟩ := c_Md_stops gone (by omega)
      refine ⟨σ2, ?_, Sim_mono j2 (by omega), hF0.trans j3⟩
      have he := c_Md_isEnough hS hc hk.2 hL'
      rw [if_neg hen] at he
      simp (disch := omega) only [e_Md_limitComes_0, e_Md_limitComes_1, e_Md_limitComes_4, e_Md_limitComes_7, e_Md_limitComes_8, e_Md_limitComes_9, e_Md_limitComes_10, e_Md_limitComes_11, e_Md_limitComes_12, e_Md_limitComes_15, e_Md_limitComes_18, e_Md_limitComes_19, e_Md_limitComes_22, e_Md_limitComes_23, e_Md_limitComes_26, e_Md_limitComes_27, e_Md_limitComes_28, e_Md_limitComes_31, e_Md_limitComes_32, e_Md_limitComes_33, e_Md_limitComes_34, e_Md_limitComes_37, e_Md_limitComes_38, e_Md_limitComes_39, e_Md_limitComes_42, e_Md_limitComes_45, e_Md_limitComes_46, e_Md_limitComes_47, e_Md_limitComes_48, e_Md_limitComes_51, e_Md_limitComes_54, e_Md_limitComes_55, e_Md_limitComes_56, e_Md_limitComes_57, e_Md_limitComes_58, e_Md_limitComes_61, e_Md_limitComes_62, e_Md_limitComes_65, e_Md_limitComes_66, e_Md_limitComes_69, e_Md_limitComes_70, e_Md_limitComes_73, wr_id, hph, p1, one_ne, not_false_eq_true, if_true, z2, if_false, evK_v, evK_i, j1, not_true_eq_false, he]
  · have p0 : gI τ 6 0 3 = 0 := by omega
    by_cases z0 : how = 0
    · have e1 : (if how = 0 then kEn τ c else kTr τ c how) = kRs τ c := by
        rw [if_pos z0]
        unfold kEn
        rw [if_neg p1]
        exact if_pos h4
      have e2 : kWs (kRs τ c) = kRs τ c := by
        unfold kWs
        rw [if_neg (by rw [(kRs_fr τ c).g (by simp [chg])]; exact p1)]
      rw [e1, e2]
      refine ⟨mRs (uI σ 26 0 (240 + c) 3) c, ?_, Sim_mono (rest_Sim hS (by omega) hc h1 hk.1 hL' hT') (by omega), FrM_mRs hF0 c⟩
      have hr := c_Md_rests c (uI σ 26 0 (240 + c) 3) ⟨hc.1, by omega⟩
      simp (disch := omega) only [e_Md_limitComes_0, e_Md_limitComes_1, e_Md_limitComes_4, e_Md_limitComes_7, e_Md_limitComes_8, e_Md_limitComes_9, e_Md_limitComes_10, e_Md_limitComes_11, e_Md_limitComes_12, e_Md_limitComes_15, e_Md_limitComes_18, e_Md_limitComes_19, e_Md_limitComes_22, e_Md_limitComes_23, e_Md_limitComes_26, e_Md_limitComes_27, e_Md_limitComes_28, e_Md_limitComes_31, wr_id, hph, p0, z0, not_true_eq_false, if_false, hr, evK_v]
    · have e1 : (if how = 0 then kEn τ c else kTr τ c how) = uI τ 8 c 5 3 := by
        rw [if_neg z0, kTr_0 h4 (fun y => p1 y.1)]
      have e2 : kWs (uI τ 8 c 5 3) = uI τ 8 c 5 3 := by
        unfold kWs
        rw [if_neg (by rw [gI_nt _ _ _ _ _ _ _ _ (by decide)]; exact p1)]
      rw [e1, e2]
      refine ⟨uI σ 26 0 (240 + c) 3, ?_, Sim_mono gone (by omega), hF0⟩
      simp (disch := omega) only [e_Md_limitComes_0, e_Md_limitComes_1, e_Md_limitComes_4, e_Md_limitComes_7, e_Md_limitComes_8, e_Md_limitComes_9, e_Md_limitComes_10, e_Md_limitComes_11, e_Md_limitComes_12, e_Md_limitComes_15, e_Md_limitComes_18, e_Md_limitComes_19, e_Md_limitComes_22, e_Md_limitComes_23, e_Md_limitComes_26, e_Md_limitComes_27, e_Md_limitComes_28, e_Md_limitComes_31, wr_id, hph, p0, z0, not_true_eq_false, if_false, not_false_eq_true, if_true]
