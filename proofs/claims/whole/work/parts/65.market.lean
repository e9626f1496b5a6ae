/-! pegged ones, stops, market ones -/
theorem mRs_st (M : aM) (c v : Int) (hc : 0 ≤ c ∧ c < 60) : mRs (uI M 26 0 (240 + c) v) c = mRs M c := by
  unfold mRs
  rw [gI_nj _ _ _ _ _ _ _ _ (show ¬ c = 240 + c by omega), uI_uI]
theorem br_peg {τ σ : aM} {B ow sd q d : Int} (hS : Sim τ σ (-1) B) (hB : B + 64660 < 2147483647) (h60 : gI τ 6 0 2 < 60) (ho : 0 ≤ ow ∧ ow < 8) (hs : 0 ≤ sd ∧ sd ≤ 1) (hq : 1 ≤ q ∧ q ≤ 999) (hd : 0 ≤ d ∧ d ≤ 999) :
    ∃ σ', ev 159 0 [aR 25 0, aU] [] (mRs (mCo σ (gI τ 6 0 2) 3 ow sd q 0 d) (gI τ 6 0 2)) = some (none, σ') ∧ Sim (kBr τ 3 ow sd q 0 d 0) σ' (-1) (B + 64660) ∧ FrM σ σ' := by
  have hc6 := hS.1.1.2
  obtain ⟨c1, c2⟩ := come_Sim (kd := 3) (ow := ow) (sd := sd) (q := q) (p := 0) (d := d) hS h60 (by omega) ho hs (by omega) ⟨by omega, fun z => absurd rfl z⟩ ⟨hd, fun z => by omega⟩
  obtain ⟨n1, n2, n3, n4, n5, n6, n7, n8, n9, n10⟩ := g_kNw τ 3 ow sd q 0 d ⟨h60, hc6.1⟩
  obtain ⟨m1, m2, m3, m4, m5, m6, m7, m8, m9, m10, m11⟩ := g_mCo σ (gI τ 6 0 2) 3 ow sd q 0 d ⟨hc6.1, h60⟩
  have hr := rest_Sim c1 (by omega) ⟨hc6.1, by omega⟩ (by omega) (by omega) (by rw [gI_nj _ _ _ _ _ _ _ _ (by omega), m7, n6]) (by rw [gI_nj _ _ _ _ _ _ _ _ (by omega), m11, n8])
  rw [mRs_st _ _ _ ⟨hc6.1, h60⟩] at hr
  obtain ⟨σ', k1, k2, k3⟩ := c_Md_stops hr (by omega)
  refine ⟨σ', k1, Sim_mono k2 (by omega), (FrM_mRs (FrM_mCo σ _ _ _ _ _ _ _) _).trans k3⟩
theorem br_halt {τ σ : aM} {B ow sd q p : Int} (hS : Sim τ σ (-1) B) (hB : B + 64660 < 2147483647) (h60 : gI τ 6 0 2 < 60) (ho : 0 ≤ ow ∧ ow < 8) (hs : 0 ≤ sd ∧ sd ≤ 1) (hq : 1 ≤ q ∧ q ≤ 999) (hp : 1 ≤ p ∧ p ≤ 999) :
    ∃ σ', ev 159 0 [aR 25 0, aU] [] (mCo σ (gI τ 6 0 2) 4 ow sd q p 0) = some (none, σ') ∧ Sim (kBr τ 4 ow sd q p 0 0) σ' (-1) (B + 64660) ∧ FrM σ σ' := by
  have hc6 := hS.1.1.2
  obtain ⟨c1, c2⟩ := come_Sim (kd := 4) (ow := ow) (sd := sd) (q := q) (p := p) (d := 0) hS h60 (by omega) ho hs (by omega) ⟨by omega, fun z => by omega⟩ ⟨by omega, fun z => by omega⟩
  obtain ⟨n1, n2, n3, n4, n5, n6, n7, n8, n9, n10⟩ := g_kNw τ 4 ow sd q p 0 ⟨h60, hc6.1⟩
  obtain ⟨m1, m2, m3, m4, m5, m6, m7, m8, m9, m10, m11⟩ := g_mCo σ (gI τ 6 0 2) 4 ow sd q p 0 ⟨hc6.1, h60⟩
  have hr := settle (τ' := uI (kNw τ 4 ow sd q p 0) 8 (gI τ 6 0 2) 5 0) (σ' := mCo σ (gI τ 6 0 2) 4 ow sd q p 0) (v := 0) c1 ⟨hc6.1, by omega⟩ (by rw [gI_nj _ _ _ _ _ _ _ _ (by omega), m7, n6]) (by rw [gI_nj _ _ _ _ _ _ _ _ (by omega), m11, n8]) (Or.inr (Or.inr ⟨rfl, n3, by omega⟩)) (gI_self _ _ _ _ _) (fun t i j z => by rw [gI_uI, if_neg z]) m8 (fun k z => (gI_nj _ _ _ _ _ _ _ _ z).symm)
  obtain ⟨σ', k1, k2, k3⟩ := c_Md_stops hr (by omega)
  refine ⟨σ', k1, Sim_mono k2 (by omega), (FrM_mCo σ _ _ _ _ _ _ _).trans k3⟩
theorem PR_pegged {μ : aM} {B : Int} (hI : Inv μ B) (hB : B + 2000000 < 2147483647) (ow sd q d : Int) : PR B μ (fun σ => ev 87 0 [aR 0 0, aI ow, aI sd, aI q, aI d, aU, aU] [] σ) (fun σ => ev 166 0 [aR 25 0, aI ow, aI sd, aI q, aI d, aU, aU] [] σ) := by
  obtain ⟨hc, h600, hR, hnum, h601, hph⟩ := Inv_f hI
  obtain ⟨a6, hu⟩ := u_pegged0 ow sd q d μ
  have hm := m_pegged0 ow sd q d
  have hmm : (if (1 ≤ q ∧ q < 1000) ∧ (0 ≤ d ∧ d ≤ 99) then (1 : Int) else 0) = 0 ∨ ((1 ≤ q ∧ q < 1000) ∧ (0 ≤ d ∧ d ≤ 99)) := by
    split
    · rename_i z; exact Or.inr z
    · exact Or.inl rfl
  generalize (if (1 ≤ q ∧ q < 1000) ∧ (0 ≤ d ∧ d ≤ 99) then (1 : Int) else 0) = m at hu hm hmm
  have hru := c_Ub_reasonC ow sd m μ
  rcases rsC_rg (gI μ 6 0 2) ow sd m with hr | hr
  · obtain ⟨r1, r2, r3, r4⟩ := rsC_0 hr
    have hmm := hmm.elim (fun z => absurd z r3) id
    have hf := kBr_frc (y0 := 120) (σ := μ) ⟨hc.1, r4⟩ 3 ow sd q 0 d 0
    have hbr := c_Dk_bring 3 ow sd q 0 d 0 B μ hI.2.1 hR r4 (by omega) r1 (by omega) (by omega) (by omega)
    obtain ⟨σ', k1, k2, k3⟩ := br_peg (ow := ow) (sd := sd) (q := q) (d := d) (Sim_25 hI.1 (frc_26 hf)) (by omega) r4 r1 (by omega) (by omega) (by omega)
    have h61 : gI (kBr μ 3 ow sd q 0 d 0) 26 0 600 = gI μ 6 0 2 := by rw [frc_26 hf, h600]
    refine ⟨gI μ 6 0 2, kBr μ 3 ow sd q 0 d 0, σ', ?_, ?_, Inv_mono (Inv_step hI hf k3 k2 ((kBr_CO hI.2.1 r4 (by omega) 3 ow sd q 0 d 0 r1).mono (by omega)) (by rw [kBr_cnt ⟨hc.1, r4⟩]; omega) (by omega)) (by omega)⟩
    · rw [hnum _ hc.1 r4] at hbr
      simp only [hu]
      simp (disch := omega) only [e_Ub_pegged_24, e_Ub_pegged_26, e_Ub_pegged_27, e_Ub_pegged_28, e_Ub_pegged_29, e_Ub_pegged_31, e_Ub_pegged_34, e_Ub_pegged_36, e_Ub_pegged_38, e_Ub_pegged_41, e_Ub_pegged_42, e_Ub_pegged_44, e_Ub_pegged_47, e_Ub_pegged_50, e_Ub_pegged_51, e_Ub_pegged_54, e_Ub_pegged_55, e_Ub_pegged_56, e_Ub_pegged_57, e_Ub_pegged_58, e_Ub_pegged_59, e_Ub_pegged_61, e_Ub_pegged_62, e_Ub_pegged_65, hru, evK_i, hr, if_true, hbr]
    · have hco := c_Md_comes (kBr μ 3 ow sd q 0 d 0) (gI μ 6 0 2) 3 ow sd q 0 d h61 ⟨hc.1, r4⟩
      have hwo := c_Md_wantedOrder ow sd m (kBr μ 3 ow sd q 0 d 0) (by omega)
      rw [h61] at hwo
      have hre := c_Md_rests (gI μ 6 0 2) (mCo (kBr μ 3 ow sd q 0 d 0) (gI μ 6 0 2) 3 ow sd q 0 d) ⟨hc.1, r4⟩
      simp only [hm]
      simp (disch := omega) only [e_Md_pegged_26, e_Md_pegged_29, e_Md_pegged_31, e_Md_pegged_33, e_Md_pegged_36, e_Md_pegged_37, e_Md_pegged_39, e_Md_pegged_42, e_Md_pegged_43, e_Md_pegged_44, e_Md_pegged_45, e_Md_pegged_46, e_Md_pegged_47, e_Md_pegged_48, e_Md_pegged_49, e_Md_pegged_51, e_Md_pegged_54, e_Md_pegged_56, e_Md_pegged_57, e_Md_pegged_59, e_Md_pegged_62, e_Md_pegged_63, e_Md_pegged_66, e_Md_pegged_68, hwo, evK_i, evK_v, hr, if_true, hco, k1, hre]
  · refine PR_rf (a := rsC (gI μ 6 0 2) ow sd m) (r := -(rsC (gI μ 6 0 2) ow sd m)) hI ?_ ?_
    · have hre := c_Ub_refuse (rsC (gI μ 6 0 2) ow sd m) μ hr
      simp only [hu]
      simp (disch := omega) only [e_Ub_pegged_24, e_Ub_pegged_26, e_Ub_pegged_27, e_Ub_pegged_28, e_Ub_pegged_29, e_Ub_pegged_31, e_Ub_pegged_34, e_Ub_pegged_36, e_Ub_pegged_38, e_Ub_pegged_41, e_Ub_pegged_42, e_Ub_pegged_44, e_Ub_pegged_47, e_Ub_pegged_50, e_Ub_pegged_51, e_Ub_pegged_54, e_Ub_pegged_55, e_Ub_pegged_56, e_Ub_pegged_57, e_Ub_pegged_58, e_Ub_pegged_59, e_Ub_pegged_61, e_Ub_pegged_62, e_Ub_pegged_65, hru, evK_i, if_neg (show ¬ rsC (gI μ 6 0 2) ow sd m = 0 by omega), hre]
      rfl
    · have hwo := c_Md_wantedOrder ow sd m (rf4 μ (-(rsC (gI μ 6 0 2) ow sd m))) (by rw [g_rf4 _ _ _ _ _ (by decide)]; omega)
      rw [g_rf4 _ _ _ _ _ (by decide), h600] at hwo
      have hre := c_Md_refused (rsC (gI μ 6 0 2) ow sd m) (rf4 μ (-(rsC (gI μ 6 0 2) ow sd m))) hr
      simp only [hm]
      simp (disch := omega) only [e_Md_pegged_26, e_Md_pegged_29, e_Md_pegged_31, e_Md_pegged_33, e_Md_pegged_36, e_Md_pegged_37, e_Md_pegged_39, e_Md_pegged_42, e_Md_pegged_43, e_Md_pegged_44, e_Md_pegged_45, e_Md_pegged_46, e_Md_pegged_47, e_Md_pegged_48, e_Md_pegged_49, e_Md_pegged_51, e_Md_pegged_54, e_Md_pegged_56, e_Md_pegged_57, e_Md_pegged_59, e_Md_pegged_62, e_Md_pegged_63, e_Md_pegged_66, e_Md_pegged_68, hwo, evK_i, if_neg (show ¬ rsC (gI μ 6 0 2) ow sd m = 0 by omega), hre]
      rfl
theorem PR_halt {μ : aM} {B : Int} (hI : Inv μ B) (hB : B + 2000000 < 2147483647) (ow sd q p : Int) : PR B μ (fun σ => ev 88 0 [aR 0 0, aI ow, aI sd, aI q, aI p, aU, aU] [] σ) (fun σ => ev 167 0 [aR 25 0, aI ow, aI sd, aI q, aI p, aU, aU] [] σ) := by
  obtain ⟨hc, h600, hR, hnum, h601, hph⟩ := Inv_f hI
  obtain ⟨a6, hu⟩ := u_halt0 ow sd q p μ
  have hm := m_halt0 ow sd q p
  have hmm : (if (1 ≤ q ∧ q < 1000) ∧ (1 ≤ p ∧ p < 1000) then (1 : Int) else 0) = 0 ∨ ((1 ≤ q ∧ q < 1000) ∧ (1 ≤ p ∧ p < 1000)) := by
    split
    · rename_i z; exact Or.inr z
    · exact Or.inl rfl
  generalize (if (1 ≤ q ∧ q < 1000) ∧ (1 ≤ p ∧ p < 1000) then (1 : Int) else 0) = m at hu hm hmm
  have hru := c_Ub_reasonC ow sd m μ
  rcases rsC_rg (gI μ 6 0 2) ow sd m with hr | hr
  · obtain ⟨r1, r2, r3, r4⟩ := rsC_0 hr
    have hmm := hmm.elim (fun z => absurd z r3) id
    have hf := kBr_frc (y0 := 120) (σ := μ) ⟨hc.1, r4⟩ 4 ow sd q p 0 0
    have hbr := c_Dk_bring 4 ow sd q p 0 0 B μ hI.2.1 hR r4 (by omega) r1 (by omega) (by omega) (by omega)
    obtain ⟨σ', k1, k2, k3⟩ := br_halt (ow := ow) (sd := sd) (q := q) (p := p) (Sim_25 hI.1 (frc_26 hf)) (by omega) r4 r1 (by omega) (by omega) (by omega)
    have h61 : gI (kBr μ 4 ow sd q p 0 0) 26 0 600 = gI μ 6 0 2 := by rw [frc_26 hf, h600]
    refine ⟨gI μ 6 0 2, kBr μ 4 ow sd q p 0 0, σ', ?_, ?_, Inv_mono (Inv_step hI hf k3 k2 ((kBr_CO hI.2.1 r4 (by omega) 4 ow sd q p 0 0 r1).mono (by omega)) (by rw [kBr_cnt ⟨hc.1, r4⟩]; omega) (by omega)) (by omega)⟩
    · rw [hnum _ hc.1 r4] at hbr
      simp only [hu]
      simp (disch := omega) only [e_Ub_halt_20, e_Ub_halt_22, e_Ub_halt_23, e_Ub_halt_24, e_Ub_halt_25, e_Ub_halt_27, e_Ub_halt_30, e_Ub_halt_32, e_Ub_halt_34, e_Ub_halt_37, e_Ub_halt_38, e_Ub_halt_40, e_Ub_halt_43, e_Ub_halt_46, e_Ub_halt_47, e_Ub_halt_50, e_Ub_halt_51, e_Ub_halt_52, e_Ub_halt_53, e_Ub_halt_54, e_Ub_halt_56, e_Ub_halt_57, e_Ub_halt_58, e_Ub_halt_61, hru, evK_i, hr, if_true, hbr]
    · have hco := c_Md_comes (kBr μ 4 ow sd q p 0 0) (gI μ 6 0 2) 4 ow sd q p 0 h61 ⟨hc.1, r4⟩
      have hwo := c_Md_wantedOrder ow sd m (kBr μ 4 ow sd q p 0 0) (by omega)
      rw [h61] at hwo
      simp only [hm]
      simp (disch := omega) only [e_Md_halt_23, e_Md_halt_26, e_Md_halt_28, e_Md_halt_30, e_Md_halt_33, e_Md_halt_34, e_Md_halt_36, e_Md_halt_39, e_Md_halt_40, e_Md_halt_41, e_Md_halt_42, e_Md_halt_43, e_Md_halt_44, e_Md_halt_45, e_Md_halt_47, e_Md_halt_48, e_Md_halt_51, e_Md_halt_53, e_Md_halt_54, e_Md_halt_57, e_Md_halt_59, hwo, evK_i, evK_v, hr, if_true, hco, k1]
  · refine PR_rf (a := rsC (gI μ 6 0 2) ow sd m) (r := -(rsC (gI μ 6 0 2) ow sd m)) hI ?_ ?_
    · have hre := c_Ub_refuse (rsC (gI μ 6 0 2) ow sd m) μ hr
      simp only [hu]
      simp (disch := omega) only [e_Ub_halt_20, e_Ub_halt_22, e_Ub_halt_23, e_Ub_halt_24, e_Ub_halt_25, e_Ub_halt_27, e_Ub_halt_30, e_Ub_halt_32, e_Ub_halt_34, e_Ub_halt_37, e_Ub_halt_38, e_Ub_halt_40, e_Ub_halt_43, e_Ub_halt_46, e_Ub_halt_47, e_Ub_halt_50, e_Ub_halt_51, e_Ub_halt_52, e_Ub_halt_53, e_Ub_halt_54, e_Ub_halt_56, e_Ub_halt_57, e_Ub_halt_58, e_Ub_halt_61, hru, evK_i, if_neg (show ¬ rsC (gI μ 6 0 2) ow sd m = 0 by omega), hre]
      rfl
    · have hwo := c_Md_wantedOrder ow sd m (rf4 μ (-(rsC (gI μ 6 0 2) ow sd m))) (by rw [g_rf4 _ _ _ _ _ (by decide)]; omega)
      rw [g_rf4 _ _ _ _ _ (by decide), h600] at hwo
      have hre := c_Md_refused (rsC (gI μ 6 0 2) ow sd m) (rf4 μ (-(rsC (gI μ 6 0 2) ow sd m))) hr
      simp only [hm]
      simp (disch := omega) only [e_Md_halt_23, e_Md_halt_26, e_Md_halt_28, e_Md_halt_30, e_Md_halt_33, e_Md_halt_34, e_Md_halt_36, e_Md_halt_39, e_Md_halt_40, e_Md_halt_41, e_Md_halt_42, e_Md_halt_43, e_Md_halt_44, e_Md_halt_45, e_Md_halt_47, e_Md_halt_48, e_Md_halt_51, e_Md_halt_53, e_Md_halt_54, e_Md_halt_57, e_Md_halt_59, hwo, evK_i, if_neg (show ¬ rsC (gI μ 6 0 2) ow sd m = 0 by omega), hre]
      rfl
theorem pass_Sim {τ σ τ' : aM} {c c' B : Int} (hS : Sim τ σ c B) (hc : ¬ (0 ≤ c ∧ c < 60)) (hc' : ¬ (0 ≤ c' ∧ c' < 60)) (tt : ∀ t i j, ¬ (t = 8 ∧ i = 120 ∧ ¬ j = 0) → gI τ' t i j = gI τ t i j) : Sim τ' σ c' B := by
  obtain ⟨hO, hI, hD, hG, hg⟩ := hS
  have hc6 := hO.1.2
  have hU := updO (τ' := τ') (σ' := σ) (c' := c') (f0 := 0) (fun _ => False) hO hI hD (tt _ _ _ (by omega)) (by rw [tt _ _ _ (by omega)]; exact Int.le_refl _) rfl (fun o o0 o1 _ => ⟨EqC_of (fun j => tt _ _ _ (by omega)), EqS_of o0 (by omega) (fun k _ _ _ => rfl), by omega⟩) (fun o o0 o1 hm => hm.elim)
  exact ⟨hU.1, hU.2.1, hU.2.2, GL_same hG (fun k _ => rfl) (fun t i j z => tt _ _ _ (fun y => z y.1)), IG_same hg (fun t i j z => tt _ _ _ (fun y => z y.1)) (fun i => tt _ _ _ (by omega))⟩
theorem pass_go {τ σ τ1 : aM} {B ow sd q : Int} (hS : Sim τ σ (-1) B) (hB : B + 64660 < 2147483647) (bt : ∀ t i j, ¬ (t = 8 ∧ i = 120 ∧ ¬ j = 0) → gI τ1 t i j = gI τ t i j) (ho : 0 ≤ ow ∧ ow < 8) (hs : 0 ≤ sd ∧ sd ≤ 1) (hq : 1 ≤ q ∧ q ≤ 999)
    (bs : gI τ1 8 120 2 = ow ∧ gI τ1 8 120 3 = sd ∧ gI τ1 8 120 4 = q ∧ gI τ1 8 120 5 = 4 ∧ gI τ1 8 120 6 = 0) : ∃ σ1, ev 156 0 [aR 25 0, aI (-1), aI ow, aI sd, aI q, aI 0, aU, aU, aU, aU] [] σ = some (none, σ1) ∧ Sim (kGo 1059 τ1 120 (if sd = 0 then 999 else 1)) σ1 (-1) (B + 1059) ∧ gI (kGo 1059 τ1 120 (if sd = 0 then 999 else 1)) 8 120 6 = gI σ1 25 0 12 ∧ FrM σ σ1 := by
  obtain ⟨b1, b2, b3, b4, b5⟩ := bs
  have hS1 := pass_Sim (c' := 120) hS (by omega) (by omega) bt
  have hC : CC τ1 120 := ⟨Or.inr rfl, by omega, by omega, by omega⟩
  obtain ⟨σ1, k1, k2, k3, k4, k5, k6⟩ := c_Md_goesIn (lm := 0) (l := if sd = 0 then 999 else 1) hS1 (by omega) hC b4 (by omega) (by rw [b5, wr_id (by omega) (by omega)]) (Or.inr ⟨rfl, by rw [b2]⟩)
  rw [b1, b2, b3, show nm 120 = -1 from rfl] at k1
  refine ⟨σ1, k1, pass_Sim (c' := -1) k2 (by omega) (by omega) (fun t i j _ => rfl), ?_, k5⟩
  generalize kGo 1059 τ1 120 (if sd = 0 then 999 else 1) = M at k3 k4 ⊢
  have h3 := k4.2.2.1
  have h5 := k3.2.2.2
  rw [k4.2.1, b5, Int.zero_add, wr_id (by omega) (by omega)]
theorem PR_market {μ : aM} {B : Int} (hI : Inv μ B) (hB : B + 2000000 < 2147483647) (ow sd q : Int) : PR B μ (fun σ => ev 89 0 [aR 0 0, aI ow, aI sd, aI q] [] σ) (fun σ => ev 168 0 [aR 25 0, aI ow, aI sd, aI q, aU] [] σ) := by
  obtain ⟨hc, h600, hR, hnum, h601, hph⟩ := Inv_f hI
  by_cases r1 : (0 ≤ ow ∧ ow < 8) ∧ (0 ≤ sd ∧ sd < 2)
  · have g1 : ev 89 0 [aR 0 0, aI ow, aI sd, aI q] [] μ = ev 89 20 [aR 0 0, aI ow, aI sd, aI q] [] μ := by
      simp (disch := omega) only [e_Ub_market_0, e_Ub_market_1, e_Ub_market_4, e_Ub_market_7, e_Ub_market_8, e_Ub_market_11, e_Ub_market_14, e_Ub_market_15, e_Ub_market_16, e_Ub_market_19, c_Ub_isOwner, c_Ub_isSide, evK_i, if_pos r1.1, if_pos r1.2, one_ne, if_false, not_false_eq_true, if_true]
    have g2 : ∀ σ, ev 168 0 [aR 25 0, aI ow, aI sd, aI q, aU] [] σ = ev 168 20 [aR 25 0, aI ow, aI sd, aI q, aU] [] σ := fun σ => by
      simp (disch := omega) only [e_Md_market_0, e_Md_market_1, e_Md_market_4, e_Md_market_7, e_Md_market_8, e_Md_market_11, e_Md_market_14, e_Md_market_15, e_Md_market_16, e_Md_market_19, c_Md_isOwner, c_Md_isSide, evK_i, if_pos r1.1, if_pos r1.2, one_ne, if_false, not_false_eq_true, if_true]
    by_cases r2 : (1 ≤ q ∧ q < 1000) ∧ gI μ 6 0 3 = 1
    · -- it passes
      have b1 : ∀ j, gI (kBg μ 120 0 ow sd q 0 0) 6 0 j = gI μ 6 0 j := fun j => by unfold kBg; simp (disch := omega) only [gI_nt]
      have bs : gI (kBg μ 120 0 ow sd q 0 0) 8 120 2 = ow ∧ gI (kBg μ 120 0 ow sd q 0 0) 8 120 3 = sd ∧ gI (kBg μ 120 0 ow sd q 0 0) 8 120 4 = q ∧ gI (kBg μ 120 0 ow sd q 0 0) 8 120 5 = 4 ∧ gI (kBg μ 120 0 ow sd q 0 0) 8 120 6 = 0 := by
        unfold kBg
        simp (disch := omega) only [gI_self, gI_nt, gI_nj, gL_uI, gR_uI, gI_uL, gR_uL, gI_uR, gL_uR, and_self]
      have bt : ∀ t i j, ¬ (t = 8 ∧ i = 120 ∧ ¬ j = 0) → gI (kBg μ 120 0 ow sd q 0 0) t i j = gI μ t i j := fun t i j z => by
        have z' : ∀ k : Int, ¬ k = 0 → ¬ (t = 8 ∧ i = 120 ∧ j = k) := fun k hk y => z ⟨y.1, y.2.1, by omega⟩
        unfold kBg
        rw [gI_uI, if_neg (z' _ (by decide)), gI_uI, if_neg (z' _ (by decide)), gI_uI, if_neg (z' _ (by decide)), gI_uI, if_neg (z' _ (by decide)), gI_uI, if_neg (z' _ (by decide)), gI_uI, if_neg (z' _ (by decide)), gI_uI, if_neg (z' _ (by decide)), gI_uI, if_neg (z' _ (by decide)), gI_uI, if_neg (z' _ (by decide)), gI_uI, if_neg (z' _ (by decide))]
      have hf := kPs_frc hc ow sd q
      have hps := c_Dk_pass ow sd q B μ hI.2.1 (by omega) r1.1
      have q9 : q ≤ 999 := by clear bs; omega
      have sd1 : sd ≤ 1 := by clear bs; omega
      have B9 : B + 64660 < 2147483647 := by clear bs; omega
      obtain ⟨σ1, k1, k2, k4, k5⟩ := pass_go (τ1 := kBg μ 120 0 ow sd q 0 0) (Sim_25 hI.1 (frc_26 hf)) B9 bt r1.1 ⟨r1.2.1, sd1⟩ ⟨r2.1.1, q9⟩ bs
      clear bs b1 bt
      rw [show kGo 1059 (kBg μ 120 0 ow sd q 0 0) 120 (if sd = 0 then 999 else 1) = kP1 μ ow sd q from by unfold kP1; exact Eq.refl _] at k2 k4
      obtain ⟨σ2, j1, j2, j3⟩ := c_Md_stops k2 (by omega)
      have hT : gI (kPs μ ow sd q) 8 120 6 = gI σ1 25 0 12 := by
        have e0 : gI (kPs μ ow sd q) 8 120 6 = gI (kP1 μ ow sd q) 8 120 6 := (kWs_frc (y0 := 0) (σ := kP1 μ ow sd q) (by rw [kP1_cnt]; exact hc)).2 8 120 6 (by omega)
        rw [e0, k4]
      have hcnt : gI (kPs μ ow sd q) 6 0 2 = gI μ 6 0 2 := by
        unfold kPs
        rw [(kWs_fr _).g (by simp [chg]), kP1_cnt]
      have h61 : gI (kPs μ ow sd q) 26 0 601 = 1 := by rw [frc_26 hf, h601]; exact r2.2
      refine ⟨gI (kPs μ ow sd q) 8 120 6, kPs μ ow sd q, σ2, ?_, ?_, Inv_mono (Inv_step hI hf (k5.trans j3) j2 ((kPs_CO hI.2.1 (by omega) ow sd q r1.1).mono (by omega)) (by omega) (by omega)) (by omega)⟩
      · show ev 89 0 [aR 0 0, aI ow, aI sd, aI q] [] μ = _
        rw [g1]
        simp (disch := omega) only [e_Ub_market_20, e_Ub_market_21, e_Ub_market_24, e_Ub_market_27, e_Ub_market_28, e_Ub_market_31, e_Ub_market_34, e_Ub_market_35, e_Ub_market_38, e_Ub_market_39, e_Ub_market_41, e_Ub_market_44, e_Ub_market_45, e_Ub_market_46, e_Ub_market_49, e_Ub_market_50, e_Ub_market_51, e_Ub_market_52, e_Ub_market_55, c_Ub_isMeasure, evK_i, if_pos r2.1, one_ne, if_false, r2.2, if_true, hps]
      · show ev 168 0 [aR 25 0, aI ow, aI sd, aI q, aU] [] (kPs μ ow sd q) = _
        rw [g2, hT]
        simp (disch := omega) only [e_Md_market_20, e_Md_market_21, e_Md_market_24, e_Md_market_27, e_Md_market_28, e_Md_market_31, e_Md_market_34, e_Md_market_35, e_Md_market_38, e_Md_market_39, e_Md_market_41, e_Md_market_44, e_Md_market_45, e_Md_market_46, e_Md_market_47, e_Md_market_48, e_Md_market_49, e_Md_market_50, e_Md_market_51, e_Md_market_54, e_Md_market_55, e_Md_market_58, e_Md_market_60, e_Md_market_61, e_Md_market_64, e_Md_market_66, c_Md_is999, evK_i, evK_v, if_pos r2.1, one_ne, if_false, h61, not_false_eq_true, if_true, k1, j1]
    · refine PR_rf (a := -6) (r := 6) hI ?_ ?_
      · have hre := c_Ub_refuse (-6) μ (by omega)
        show ev 89 0 [aR 0 0, aI ow, aI sd, aI q] [] μ = _
        rw [g1]
        by_cases r3 : 1 ≤ q ∧ q < 1000
        · simp (disch := omega) only [e_Ub_market_20, e_Ub_market_21, e_Ub_market_24, e_Ub_market_27, e_Ub_market_28, e_Ub_market_31, e_Ub_market_34, e_Ub_market_35, e_Ub_market_38, e_Ub_market_39, e_Ub_market_41, e_Ub_market_44, c_Ub_isMeasure, evK_i, if_pos r3, one_ne, if_false, if_neg (show ¬ gI μ 6 0 3 = 1 from fun z => r2 ⟨r3, z⟩), hre]
          rfl
        · simp (disch := omega) only [e_Ub_market_20, e_Ub_market_21, e_Ub_market_24, e_Ub_market_27, e_Ub_market_28, e_Ub_market_31, e_Ub_market_34, e_Ub_market_35, e_Ub_market_38, e_Ub_market_39, e_Ub_market_41, e_Ub_market_44, c_Ub_isMeasure, evK_i, if_neg r3, if_true, hre]
          rfl
      · have hre := c_Md_refused (-6) (rf4 μ 6) (by omega)
        have h61 : gI (rf4 μ 6) 26 0 601 = gI μ 6 0 3 := by rw [g_rf4 _ _ _ _ _ (by decide)]; exact h601
        show ev 168 0 [aR 25 0, aI ow, aI sd, aI q, aU] [] (rf4 μ 6) = _
        rw [g2]
        by_cases r3 : 1 ≤ q ∧ q < 1000
        · have h0 : gI μ 6 0 3 = 0 := hph.elim id (fun z => absurd ⟨r3, z⟩ r2)
          simp (disch := omega) only [e_Md_market_20, e_Md_market_21, e_Md_market_24, e_Md_market_27, e_Md_market_28, e_Md_market_31, e_Md_market_34, e_Md_market_35, e_Md_market_38, e_Md_market_39, e_Md_market_41, e_Md_market_44, c_Md_is999, evK_i, if_pos r3, one_ne, if_false, h61, h0, not_true_eq_false, hre]
          rfl
        · simp (disch := omega) only [e_Md_market_20, e_Md_market_21, e_Md_market_24, e_Md_market_27, e_Md_market_28, e_Md_market_31, e_Md_market_34, e_Md_market_35, e_Md_market_38, e_Md_market_39, e_Md_market_41, e_Md_market_44, c_Md_is999, evK_i, if_neg r3, if_true, hre]
          rfl
  · refine PR_rf (a := -1) (r := 1) hI ?_ ?_
    · have hre := c_Ub_refuse (-1) μ (by omega)
      show ev 89 0 [aR 0 0, aI ow, aI sd, aI q] [] μ = _
      by_cases r2 : 0 ≤ ow ∧ ow < 8
      · simp (disch := omega) only [e_Ub_market_0, e_Ub_market_1, e_Ub_market_4, e_Ub_market_7, e_Ub_market_8, e_Ub_market_11, e_Ub_market_14, e_Ub_market_15, e_Ub_market_16, e_Ub_market_19, c_Ub_isOwner, c_Ub_isSide, evK_i, if_pos r2, if_neg (show ¬ (0 ≤ sd ∧ sd < 2) from fun z => r1 ⟨r2, z⟩), one_ne, if_false, not_true_eq_false, hre]
        rfl
      · simp (disch := omega) only [e_Ub_market_0, e_Ub_market_1, e_Ub_market_4, e_Ub_market_7, e_Ub_market_8, e_Ub_market_11, e_Ub_market_14, e_Ub_market_15, e_Ub_market_16, e_Ub_market_19, c_Ub_isOwner, evK_i, if_neg r2, if_true, hre]
        rfl
    · have hre := c_Md_refused (-1) (rf4 μ 1) (by omega)
      show ev 168 0 [aR 25 0, aI ow, aI sd, aI q, aU] [] (rf4 μ 1) = _
      by_cases r2 : 0 ≤ ow ∧ ow < 8
      · simp (disch := omega) only [e_Md_market_0, e_Md_market_1, e_Md_market_4, e_Md_market_7, e_Md_market_8, e_Md_market_11, e_Md_market_14, e_Md_market_15, e_Md_market_16, e_Md_market_19, c_Md_isOwner, c_Md_isSide, evK_i, if_pos r2, if_neg (show ¬ (0 ≤ sd ∧ sd < 2) from fun z => r1 ⟨r2, z⟩), one_ne, if_false, not_true_eq_false, hre]
        rfl
      · simp (disch := omega) only [e_Md_market_0, e_Md_market_1, e_Md_market_4, e_Md_market_7, e_Md_market_8, e_Md_market_11, e_Md_market_14, e_Md_market_15, e_Md_market_16, e_Md_market_19, c_Md_isOwner, evK_i, if_neg r2, if_true, hre]
        rfl
