/-- what the class makes of one that went in -/
def kOG (τ : aM) (c l d : Int) : aM := if gI (kGo 1059 τ c l) 8 c 5 = 4 then (if d = 0 then uI (kGo 1059 τ c l) 8 c 5 3 else kRs (kGo 1059 τ c l) c) else kGo 1059 τ c l
theorem c_Md_orderGoesIn {τ σ : aM} {c B l lm d : Int} (hS : Sim τ (uI σ 26 0 (240 + c) 3) c B) (hB : B + 1060 < 2147483647) (hC : CC τ c) (hc : 0 ≤ c ∧ c < gI τ 6 0 2) (h4 : gI τ 8 c 5 = 4) (h1 : 1 ≤ gI τ 8 c 4) (hk : d = 0 ∨ ¬ gI τ 8 c 1 = 4) (hL : gI σ 26 0 (180 + c) = gI τ 8 c 4) (hT : gI σ 26 0 (540 + c) = gI τ 8 c 6) (hl : (lm = l ∧ 1 ≤ l) ∨ (lm = 0 ∧ l = if gI τ 8 c 3 = 0 then 999 else 1)) :
    ∃ σ', ev 157 0 [aR 25 0, aI c, aI lm, aI d] [] σ = some (none, σ') ∧ Sim (kOG τ c l d) σ' (-1) (B + 1060) ∧ FrM σ σ' := by
  have hc6 := hS.1.1.2
  have hcn : nm c = c := if_neg (by omega)
  have hto := (IO_p hS.2.1 hc.1 hc.2).2.1.2.2.2
  obtain ⟨σ2, k1, k2, k3, k4, k5, k6⟩ := c_Md_goesIn hS (by omega) hC h4 h1 hto hl
  have k6 := k6 hc.1 (by omega)
  rw [hcn] at k1
  obtain ⟨ra, rb, rt, rv, rc⟩ := RO.p hS.1 hc.1 hc.2
  have s0 : ∀ k, ¬ k = 240 + c → gI (uI σ 26 0 (240 + c) 3) 26 0 k = gI σ 26 0 k := fun k z => gI_nj _ _ _ _ _ _ _ _ z
  rw [s0 _ (by omega), hT] at k6
  have e2 : gI (kGo 1059 τ c l) 6 0 2 = gI τ 6 0 2 := (kGo_fr 1059 τ c l).g (by simp [chg])
  have e1 : gI (kGo 1059 τ c l) 8 c 1 = gI τ 8 c 1 := (kGo_fr 1059 τ c l).g (by simp [chg])
  obtain ⟨d1, d2, d3, d4⟩ := k4
  have hMs : ∀ k, ¬ k = 180 + c → ¬ k = 540 + c → gI (uI (uI σ2 26 0 (180 + c) (gI σ2 25 0 11)) 26 0 (540 + c) (wr (gI τ 8 c 6 + gI σ2 25 0 12))) 26 0 k = gI σ2 26 0 k := fun k z1 z2 => by rw [gI_nj _ _ _ _ _ _ _ _ z2, gI_nj _ _ _ _ _ _ _ _ z1]
  have hM25 : ∀ j, gI (uI (uI σ2 26 0 (180 + c) (gI σ2 25 0 11)) 26 0 (540 + c) (wr (gI τ 8 c 6 + gI σ2 25 0 12))) 25 0 j = gI σ2 25 0 j := fun j => by rw [gI_nt _ _ _ _ _ _ _ _ (by decide), gI_nt _ _ _ _ _ _ _ _ (by decide)]
  have hML : gI (uI (uI σ2 26 0 (180 + c) (gI σ2 25 0 11)) 26 0 (540 + c) (wr (gI τ 8 c 6 + gI σ2 25 0 12))) 26 0 (180 + c) = gI (kGo 1059 τ c l) 8 c 4 := by rw [gI_nj _ _ _ _ _ _ _ _ (by omega), gI_self, d1]
  have hMT : gI (uI (uI σ2 26 0 (180 + c) (gI σ2 25 0 11)) 26 0 (540 + c) (wr (gI τ 8 c 6 + gI σ2 25 0 12))) 26 0 (540 + c) = gI (kGo 1059 τ c l) 8 c 6 := by rw [gI_self, d2]
  have hSM := Sim_note k2 ⟨hc.1, by omega⟩ hMs
  have hF : FrM σ (uI (uI σ2 26 0 (180 + c) (gI σ2 25 0 11)) 26 0 (540 + c) (wr (gI τ 8 c 6 + gI σ2 25 0 12))) := ((((FrM.rfl σ).u _ _ _ (Or.inl rfl)).trans k5).u _ _ _ (Or.inl rfl)).u _ _ _ (Or.inl rfl)
  have s1 : ev 157 0 [aR 25 0, aI c, aI lm, aI d] [] σ = ev 157 76 [aR 25 0, aI c, aI lm, aI d] [] (uI (uI σ2 26 0 (180 + c) (gI σ2 25 0 11)) 26 0 (540 + c) (wr (gI τ 8 c 6 + gI σ2 25 0 12))) := by
    have q2 : gI (uI σ 26 0 (240 + c) 3) 26 0 (60 + c) = gI τ 8 c 2 := ra.2.1
    have q3 : gI (uI σ 26 0 (240 + c) 3) 26 0 (120 + c) = gI τ 8 c 3 := ra.2.2.1
    have q4 : gI (uI σ 26 0 (240 + c) 3) 26 0 (180 + c) = gI τ 8 c 4 := by rw [s0 _ (by omega), hL]
    simp (disch := omega) only [e_Md_orderGoesIn_0, e_Md_orderGoesIn_1, e_Md_orderGoesIn_4, e_Md_orderGoesIn_7, e_Md_orderGoesIn_8, e_Md_orderGoesIn_9, e_Md_orderGoesIn_10, e_Md_orderGoesIn_11, e_Md_orderGoesIn_12, e_Md_orderGoesIn_13, e_Md_orderGoesIn_14, e_Md_orderGoesIn_17, e_Md_orderGoesIn_19, e_Md_orderGoesIn_20, e_Md_orderGoesIn_21, e_Md_orderGoesIn_22, e_Md_orderGoesIn_23, e_Md_orderGoesIn_26, e_Md_orderGoesIn_28, e_Md_orderGoesIn_29, e_Md_orderGoesIn_30, e_Md_orderGoesIn_31, e_Md_orderGoesIn_32, e_Md_orderGoesIn_35, e_Md_orderGoesIn_38, e_Md_orderGoesIn_39, e_Md_orderGoesIn_40, e_Md_orderGoesIn_41, e_Md_orderGoesIn_42, e_Md_orderGoesIn_45, e_Md_orderGoesIn_46, e_Md_orderGoesIn_49, e_Md_orderGoesIn_52, e_Md_orderGoesIn_53, e_Md_orderGoesIn_54, e_Md_orderGoesIn_55, e_Md_orderGoesIn_58, e_Md_orderGoesIn_59, e_Md_orderGoesIn_60, e_Md_orderGoesIn_63, e_Md_orderGoesIn_66, e_Md_orderGoesIn_67, e_Md_orderGoesIn_68, e_Md_orderGoesIn_69, e_Md_orderGoesIn_70, e_Md_orderGoesIn_71, e_Md_orderGoesIn_74, e_Md_orderGoesIn_75, wr_id, q2, q3, q4, k1, evK_v, gI_nt, gI_nj, k6]
  generalize hMM : uI (uI σ2 26 0 (180 + c) (gI σ2 25 0 11)) 26 0 (540 + c) (wr (gI τ 8 c 6 + gI σ2 25 0 12)) = M at *
  have st3 : gI M 26 0 (240 + c) = 3 := ((RO.p hSM.1 hc.1 (by omega)).2.2.2.2 rfl).1
  rw [s1]
  unfold kOG
  rcases d4 with y | y | y | y
  · rw [if_pos y.1]
    have hn : ¬ gI σ2 25 0 11 = 0 := by omega
    by_cases hd : d = 0
    · rw [if_pos hd]
      refine ⟨M, ?_, Sim_mono (settle hSM ⟨hc.1, by omega⟩ hML hMT (Or.inr (Or.inl rfl)) (gI_self _ _ _ _ _) (fun t i j z => by rw [gI_uI, if_neg z]) st3 (fun k _ => rfl)) (by omega), hF⟩
      simp (disch := omega) only [e_Md_orderGoesIn_76, e_Md_orderGoesIn_77, e_Md_orderGoesIn_80, e_Md_orderGoesIn_83, e_Md_orderGoesIn_84, e_Md_orderGoesIn_87, e_Md_orderGoesIn_90, e_Md_orderGoesIn_91, e_Md_orderGoesIn_92, e_Md_orderGoesIn_93, e_Md_orderGoesIn_96, e_Md_orderGoesIn_99, e_Md_orderGoesIn_100, e_Md_orderGoesIn_103, e_Md_orderGoesIn_104, e_Md_orderGoesIn_105, e_Md_orderGoesIn_108, e_Md_orderGoesIn_109, e_Md_orderGoesIn_112, e_Md_orderGoesIn_113, e_Md_orderGoesIn_116, e_Md_orderGoesIn_119, e_Md_orderGoesIn_120, e_Md_orderGoesIn_121, e_Md_orderGoesIn_124, hM25, hn, not_false_eq_true, if_true, hd]
    · rw [if_neg hd]
      have hr := rest_Sim hSM (by omega) ⟨hc.1, by omega⟩ y.2.1 (by rw [e1]; exact hk.elim (fun z => absurd z hd) id) hML hMT
      refine ⟨mRs M c, ?_, Sim_mono hr (by omega), FrM_mRs hF c⟩
      have hre := c_Md_rests c M ⟨hc.1, by omega⟩
      simp (disch := omega) only [e_Md_orderGoesIn_76, e_Md_orderGoesIn_77, e_Md_orderGoesIn_80, e_Md_orderGoesIn_83, e_Md_orderGoesIn_84, e_Md_orderGoesIn_87, e_Md_orderGoesIn_90, e_Md_orderGoesIn_91, e_Md_orderGoesIn_92, e_Md_orderGoesIn_93, e_Md_orderGoesIn_96, e_Md_orderGoesIn_99, e_Md_orderGoesIn_100, e_Md_orderGoesIn_103, e_Md_orderGoesIn_104, e_Md_orderGoesIn_105, e_Md_orderGoesIn_108, e_Md_orderGoesIn_109, e_Md_orderGoesIn_112, e_Md_orderGoesIn_113, e_Md_orderGoesIn_116, e_Md_orderGoesIn_119, e_Md_orderGoesIn_120, e_Md_orderGoesIn_121, e_Md_orderGoesIn_124, hM25, hn, not_false_eq_true, if_true, if_neg hd, y.2.2, not_true_eq_false, if_false, hre, evK_v]
  · rw [if_neg (by omega)]
    have hn : ¬ gI σ2 25 0 11 = 0 := by omega
    refine ⟨M, ?_, Sim_mono (settle hSM ⟨hc.1, by omega⟩ hML hMT (Or.inr (Or.inl rfl)) y.1 (fun t i j z => rfl) st3 (fun k _ => rfl)) (by omega), hF⟩
    by_cases hd : d = 0
    · simp (disch := omega) only [e_Md_orderGoesIn_76, e_Md_orderGoesIn_77, e_Md_orderGoesIn_80, e_Md_orderGoesIn_83, e_Md_orderGoesIn_84, e_Md_orderGoesIn_87, e_Md_orderGoesIn_90, e_Md_orderGoesIn_91, e_Md_orderGoesIn_92, e_Md_orderGoesIn_93, e_Md_orderGoesIn_96, e_Md_orderGoesIn_99, e_Md_orderGoesIn_100, e_Md_orderGoesIn_103, e_Md_orderGoesIn_104, e_Md_orderGoesIn_105, e_Md_orderGoesIn_108, e_Md_orderGoesIn_109, e_Md_orderGoesIn_112, e_Md_orderGoesIn_113, e_Md_orderGoesIn_116, e_Md_orderGoesIn_119, e_Md_orderGoesIn_120, e_Md_orderGoesIn_121, e_Md_orderGoesIn_124, hM25, hn, not_false_eq_true, if_true, hd]
    · simp (disch := omega) only [e_Md_orderGoesIn_76, e_Md_orderGoesIn_77, e_Md_orderGoesIn_80, e_Md_orderGoesIn_83, e_Md_orderGoesIn_84, e_Md_orderGoesIn_87, e_Md_orderGoesIn_90, e_Md_orderGoesIn_91, e_Md_orderGoesIn_92, e_Md_orderGoesIn_93, e_Md_orderGoesIn_96, e_Md_orderGoesIn_99, e_Md_orderGoesIn_100, e_Md_orderGoesIn_103, e_Md_orderGoesIn_104, e_Md_orderGoesIn_105, e_Md_orderGoesIn_108, e_Md_orderGoesIn_109, e_Md_orderGoesIn_112, e_Md_orderGoesIn_113, e_Md_orderGoesIn_116, e_Md_orderGoesIn_119, e_Md_orderGoesIn_120, e_Md_orderGoesIn_121, e_Md_orderGoesIn_124, hM25, hn, not_false_eq_true, if_true, if_neg hd, y.2.2, one_ne]
  · rw [if_neg (by omega)]
    have hn : gI σ2 25 0 11 = 0 := by omega
    refine ⟨uI M 26 0 (240 + c) 2, ?_, Sim_mono (settle hSM ⟨hc.1, by omega⟩ hML hMT (Or.inl rfl) y.1 (fun t i j z => rfl) (gI_self _ _ _ _ _) (fun k z => gI_nj _ _ _ _ _ _ _ _ z)) (by omega), hF.u _ _ _ (Or.inl rfl)⟩
    simp (disch := omega) only [e_Md_orderGoesIn_76, e_Md_orderGoesIn_77, e_Md_orderGoesIn_80, e_Md_orderGoesIn_83, e_Md_orderGoesIn_84, e_Md_orderGoesIn_87, e_Md_orderGoesIn_90, e_Md_orderGoesIn_91, e_Md_orderGoesIn_92, e_Md_orderGoesIn_93, e_Md_orderGoesIn_96, e_Md_orderGoesIn_99, e_Md_orderGoesIn_100, e_Md_orderGoesIn_103, e_Md_orderGoesIn_104, e_Md_orderGoesIn_105, e_Md_orderGoesIn_108, e_Md_orderGoesIn_109, e_Md_orderGoesIn_112, e_Md_orderGoesIn_113, e_Md_orderGoesIn_116, e_Md_orderGoesIn_119, e_Md_orderGoesIn_120, e_Md_orderGoesIn_121, e_Md_orderGoesIn_124, hM25, hn, not_true_eq_false, if_false, y.2.2.2, if_true, wr_id]
  · rw [if_neg (by omega)]
    have hn : gI σ2 25 0 11 = 0 := by omega
    refine ⟨uI M 26 0 (240 + c) 3, ?_, Sim_mono (settle hSM ⟨hc.1, by omega⟩ hML hMT (Or.inr (Or.inl rfl)) y.1 (fun t i j z => rfl) (gI_self _ _ _ _ _) (fun k z => gI_nj _ _ _ _ _ _ _ _ z)) (by omega), hF.u _ _ _ (Or.inl rfl)⟩
    simp (disch := omega) only [e_Md_orderGoesIn_76, e_Md_orderGoesIn_77, e_Md_orderGoesIn_80, e_Md_orderGoesIn_83, e_Md_orderGoesIn_84, e_Md_orderGoesIn_87, e_Md_orderGoesIn_90, e_Md_orderGoesIn_91, e_Md_orderGoesIn_92, e_Md_orderGoesIn_93, e_Md_orderGoesIn_96, e_Md_orderGoesIn_99, e_Md_orderGoesIn_100, e_Md_orderGoesIn_103, e_Md_orderGoesIn_104, e_Md_orderGoesIn_105, e_Md_orderGoesIn_108, e_Md_orderGoesIn_109, e_Md_orderGoesIn_112, e_Md_orderGoesIn_113, e_Md_orderGoesIn_116, e_Md_orderGoesIn_119, e_Md_orderGoesIn_120, e_Md_orderGoesIn_121, e_Md_orderGoesIn_124, hM25, hn, not_true_eq_false, if_false, y.2.2.2, if_true, wr_id, one_ne]
