/-! orders that come: limit, hidden, pegged, halt -/
theorem br_lim {τ σ : aM} {B kd ow sd q p d how : Int} (hS : Sim τ σ (-1) B) (hB : B + 64660 < 2147483647) (h60 : gI τ 6 0 2 < 60) (hk : kd = 1 ∨ kd = 2) (ho : 0 ≤ ow ∧ ow < 8) (hs : 0 ≤ sd ∧ sd ≤ 1) (hq : 1 ≤ q ∧ q ≤ 999) (hp : 1 ≤ p ∧ p ≤ 999) (hd : (0 ≤ d ∧ d ≤ 999) ∧ (kd = 2 → 1 ≤ d)) (hh : 0 ≤ how ∧ how ≤ 2) :
    ∃ σ', ev 162 0 [aR 25 0, aI (gI τ 6 0 2), aI how] [] (mCo σ (gI τ 6 0 2) kd ow sd q p d) = some (none, σ') ∧ Sim (kBr τ kd ow sd q p d how) σ' (-1) (B + 64660) ∧ FrM σ σ' := by
  have hc6 := hS.1.1.2
  obtain ⟨c1, c2⟩ := come_Sim (kd := kd) (ow := ow) (sd := sd) (q := q) (p := p) (d := d) hS h60 (by omega) ho hs (by omega) ⟨by omega, fun _ => by omega⟩ hd
  obtain ⟨n1, n2, n3, n4, n5, n6, n7, n8, n9, n10⟩ := g_kNw τ kd ow sd q p d ⟨h60, hc6.1⟩
  obtain ⟨m1, m2, m3, m4, m5, m6, m7, m8, m9, m10, m11⟩ := g_mCo σ (gI τ 6 0 2) kd ow sd q p d ⟨hc6.1, h60⟩
  obtain ⟨σ', k1, k2, k3⟩ := c_Md_limitComes (how := how) c1 hB c2 ⟨hc6.1, by omega⟩ n7 (by omega) (by omega) (by rw [m7, n6]) (by rw [m11, n8]) hh
  refine ⟨σ', k1, ?_, (FrM_mCo σ _ _ _ _ _ _ _).trans k3⟩
  have e : kBr τ kd ow sd q p d how = kLC (kNw τ kd ow sd q p d) (gI τ 6 0 2) how := by
    unfold kBr kLC kCm
    rw [if_neg (by omega), if_neg (by omega)]
  rw [e]
  exact k2
/-- why none can come -/
def rsC (n ow sd m : Int) : Int := if ¬ ((0 ≤ ow ∧ ow < 8) ∧ (0 ≤ sd ∧ sd < 2)) then -1 else if m = 0 then -6 else if n < 60 then 0 else -7
theorem rsC_rg (n ow sd m : Int) : rsC n ow sd m = 0 ∨ (-7 ≤ rsC n ow sd m ∧ rsC n ow sd m < 0) := by
  unfold rsC
  repeat' split
  all_goals omega
theorem rsC_0 {n ow sd m : Int} (h : rsC n ow sd m = 0) : (0 ≤ ow ∧ ow < 8) ∧ (0 ≤ sd ∧ sd < 2) ∧ ¬ m = 0 ∧ n < 60 := by
  unfold rsC at h
  split at h
  · omega
  · split at h
    · omega
    · split at h
      · rename_i h1 h2 h3
        have h1 := Classical.not_not.mp h1
        exact ⟨h1.1, h1.2, h2, h3⟩
      · omega
theorem c_Ub_reasonC (ow sd m : Int) (σ : aM) : ev 116 0 [aR 0 0, aI ow, aI sd, aI m] [] σ = some (some (aI (rsC (gI σ 6 0 2) ow sd m)), σ) := by
  unfold rsC
  simp (disch := omega) only [e_Ub_reasonAgainstComer_0, e_Ub_reasonAgainstComer_1, e_Ub_reasonAgainstComer_4, e_Ub_reasonAgainstComer_7, e_Ub_reasonAgainstComer_8, e_Ub_reasonAgainstComer_11, e_Ub_reasonAgainstComer_14, e_Ub_reasonAgainstComer_15, e_Ub_reasonAgainstComer_16, e_Ub_reasonAgainstComer_17, e_Ub_reasonAgainstComer_20, e_Ub_reasonAgainstComer_22, e_Ub_reasonAgainstComer_23, e_Ub_reasonAgainstComer_24, e_Ub_reasonAgainstComer_27, e_Ub_reasonAgainstComer_30, e_Ub_reasonAgainstComer_32, e_Ub_reasonAgainstComer_35, e_Ub_reasonAgainstComer_36, e_Ub_reasonAgainstComer_39, e_Ub_reasonAgainstComer_41, c_Ub_isOwner, c_Ub_isSide, evK_i, b01]
  grind
theorem c_Md_wantedOrder (ow sd m : Int) (σ : aM) (h : gI σ 26 0 600 ≤ 60) : ev 163 0 [aR 25 0, aI ow, aI sd, aI m] [] σ = some (some (aI (rsC (gI σ 26 0 600) ow sd m)), σ) := by
  unfold rsC
  simp (disch := omega) only [e_Md_wantedOrder_0, e_Md_wantedOrder_1, e_Md_wantedOrder_4, e_Md_wantedOrder_7, e_Md_wantedOrder_8, e_Md_wantedOrder_11, e_Md_wantedOrder_14, e_Md_wantedOrder_15, e_Md_wantedOrder_18, e_Md_wantedOrder_19, e_Md_wantedOrder_22, e_Md_wantedOrder_24, e_Md_wantedOrder_27, e_Md_wantedOrder_28, e_Md_wantedOrder_31, e_Md_wantedOrder_34, e_Md_wantedOrder_35, e_Md_wantedOrder_37, e_Md_wantedOrder_40, e_Md_wantedOrder_42, e_Md_wantedOrder_45, e_Md_wantedOrder_46, c_Md_isOwner, c_Md_isSide, evK_i, b01]
  grind
theorem u_limit0 (ow sd q p how : Int) (σ : aM) : ∃ a6, ev 85 0 [aR 0 0, aI ow, aI sd, aI q, aI p, aI how, aU, aU] [] σ = ev 85 31 [aR 0 0, aI ow, aI sd, aI q, aI p, aI how, a6, aU] [aI (if (1 ≤ q ∧ q < 1000) ∧ (1 ≤ p ∧ p < 1000) ∧ (0 ≤ how ∧ how ≤ 2) then 1 else 0)] σ := by
  refine ⟨aU, ?_⟩
  simp (disch := omega) only [e_Ub_limit_0, e_Ub_limit_1, e_Ub_limit_4, e_Ub_limit_7, e_Ub_limit_9, e_Ub_limit_12, e_Ub_limit_15, e_Ub_limit_17, e_Ub_limit_20, e_Ub_limit_22, e_Ub_limit_23, e_Ub_limit_26, e_Ub_limit_27, e_Ub_limit_30, c_Ub_isMeasure, evK_i, b01]
  grind
theorem m_limit0 (ow sd q p how : Int) (σ : aM) : ev 164 0 [aR 25 0, aI ow, aI sd, aI q, aI p, aI how, aU, aU] [] σ = ev 164 33 [aR 25 0, aI ow, aI sd, aI q, aI p, aI how, aU, aU] [aI (if (1 ≤ q ∧ q < 1000) ∧ (1 ≤ p ∧ p < 1000) ∧ (0 ≤ how ∧ how ≤ 2) then 1 else 0), aI sd, aI ow, aR 25 0] σ := by
  simp (disch := omega) only [e_Md_limit_0, e_Md_limit_1, e_Md_limit_2, e_Md_limit_3, e_Md_limit_4, e_Md_limit_7, e_Md_limit_10, e_Md_limit_12, e_Md_limit_15, e_Md_limit_18, e_Md_limit_20, e_Md_limit_21, e_Md_limit_22, e_Md_limit_25, e_Md_limit_28, e_Md_limit_29, e_Md_limit_32, c_Md_is999, c_Md_in, evK_i, b01]
  grind
theorem u_hidden0 (ow sd q p d : Int) (σ : aM) : ∃ a6, ev 86 0 [aR 0 0, aI ow, aI sd, aI q, aI p, aI d, aU, aU] [] σ = ev 86 28 [aR 0 0, aI ow, aI sd, aI q, aI p, aI d, a6, aU] [aI (if (1 ≤ q ∧ q < 1000) ∧ (1 ≤ p ∧ p < 1000) ∧ (1 ≤ d ∧ d < 1000) then 1 else 0)] σ := by
  refine ⟨aU, ?_⟩
  simp (disch := omega) only [e_Ub_hidden_0, e_Ub_hidden_1, e_Ub_hidden_4, e_Ub_hidden_7, e_Ub_hidden_9, e_Ub_hidden_12, e_Ub_hidden_15, e_Ub_hidden_17, e_Ub_hidden_20, e_Ub_hidden_23, e_Ub_hidden_24, e_Ub_hidden_27, c_Ub_isMeasure, evK_i, b01]
  grind
theorem m_hidden0 (ow sd q p d : Int) (σ : aM) : ev 165 0 [aR 25 0, aI ow, aI sd, aI q, aI p, aI d, aU, aU] [] σ = ev 165 31 [aR 25 0, aI ow, aI sd, aI q, aI p, aI d, aU, aU] [aI (if (1 ≤ q ∧ q < 1000) ∧ (1 ≤ p ∧ p < 1000) ∧ (1 ≤ d ∧ d < 1000) then 1 else 0), aI sd, aI ow, aR 25 0] σ := by
  simp (disch := omega) only [e_Md_hidden_0, e_Md_hidden_1, e_Md_hidden_2, e_Md_hidden_3, e_Md_hidden_4, e_Md_hidden_7, e_Md_hidden_10, e_Md_hidden_12, e_Md_hidden_15, e_Md_hidden_18, e_Md_hidden_20, e_Md_hidden_23, e_Md_hidden_26, e_Md_hidden_27, e_Md_hidden_30, c_Md_is999, c_Md_in, evK_i, b01]
  grind
theorem u_pegged0 (ow sd q d : Int) (σ : aM) : ∃ a6, ev 87 0 [aR 0 0, aI ow, aI sd, aI q, aI d, aU, aU] [] σ = ev 87 24 [aR 0 0, aI ow, aI sd, aI q, aI d, a6, aU] [aI (if (1 ≤ q ∧ q < 1000) ∧ (0 ≤ d ∧ d ≤ 99) then 1 else 0)] σ := by
  refine ⟨aU, ?_⟩
  simp (disch := omega) only [e_Ub_pegged_0, e_Ub_pegged_1, e_Ub_pegged_4, e_Ub_pegged_7, e_Ub_pegged_9, e_Ub_pegged_12, e_Ub_pegged_14, e_Ub_pegged_16, e_Ub_pegged_19, e_Ub_pegged_20, e_Ub_pegged_23, c_Ub_isMeasure, evK_i, b01]
  grind
theorem m_pegged0 (ow sd q d : Int) (σ : aM) : ev 166 0 [aR 25 0, aI ow, aI sd, aI q, aI d, aU, aU] [] σ = ev 166 26 [aR 25 0, aI ow, aI sd, aI q, aI d, aU, aU] [aI (if (1 ≤ q ∧ q < 1000) ∧ (0 ≤ d ∧ d ≤ 99) then 1 else 0), aI sd, aI ow, aR 25 0] σ := by
  simp (disch := omega) only [e_Md_pegged_0, e_Md_pegged_1, e_Md_pegged_2, e_Md_pegged_3, e_Md_pegged_4, e_Md_pegged_7, e_Md_pegged_10, e_Md_pegged_12, e_Md_pegged_13, e_Md_pegged_15, e_Md_pegged_18, e_Md_pegged_21, e_Md_pegged_22, e_Md_pegged_25, c_Md_is999, c_Md_in, evK_i, b01]
  grind
theorem u_halt0 (ow sd q p : Int) (σ : aM) : ∃ a6, ev 88 0 [aR 0 0, aI ow, aI sd, aI q, aI p, aU, aU] [] σ = ev 88 20 [aR 0 0, aI ow, aI sd, aI q, aI p, a6, aU] [aI (if (1 ≤ q ∧ q < 1000) ∧ (1 ≤ p ∧ p < 1000) then 1 else 0)] σ := by
  refine ⟨aU, ?_⟩
  simp (disch := omega) only [e_Ub_halt_0, e_Ub_halt_1, e_Ub_halt_4, e_Ub_halt_7, e_Ub_halt_9, e_Ub_halt_12, e_Ub_halt_15, e_Ub_halt_16, e_Ub_halt_19, c_Ub_isMeasure, evK_i, b01]
  grind
theorem m_halt0 (ow sd q p : Int) (σ : aM) : ev 167 0 [aR 25 0, aI ow, aI sd, aI q, aI p, aU, aU] [] σ = ev 167 23 [aR 25 0, aI ow, aI sd, aI q, aI p, aU, aU] [aI (if (1 ≤ q ∧ q < 1000) ∧ (1 ≤ p ∧ p < 1000) then 1 else 0), aI sd, aI ow, aR 25 0] σ := by
  simp (disch := omega) only [e_Md_halt_0, e_Md_halt_1, e_Md_halt_2, e_Md_halt_3, e_Md_halt_4, e_Md_halt_7, e_Md_halt_10, e_Md_halt_12, e_Md_halt_15, e_Md_halt_18, e_Md_halt_19, e_Md_halt_22, c_Md_is999, c_Md_in, evK_i, b01]
  grind
/-- what is used of the relation at a call's begin -/
theorem Inv_f {μ : aM} {B : Int} (hI : Inv μ B) : (0 ≤ gI μ 6 0 2 ∧ gI μ 6 0 2 ≤ 60) ∧ gI μ 26 0 600 = gI μ 6 0 2 ∧ RG μ ∧ (∀ i, 0 ≤ i → i < 60 → gI μ 8 i 0 = i) ∧ gI μ 26 0 601 = gI μ 6 0 3 ∧ (gI μ 6 0 3 = 0 ∨ gI μ 6 0 3 = 1) := by
  have h1 := hI.1.1.1
  have h2 := hI.1.2.2.2.2
  exact ⟨h1.2, h1.1, IO_RG hI.1.2.1, h2.2.2.2.2.2.1, hI.1.2.2.2.1.1.1, by have := h2.2.2.1; omega⟩
theorem frc_26 {μ μ1 : aM} (h : FrC 120 μ μ1) (k : Int) : gI μ1 26 0 k = gI μ 26 0 k := h.2 _ _ _ (by omega)
theorem PR_limit {μ : aM} {B : Int} (hI : Inv μ B) (hB : B + 2000000 < 2147483647) (ow sd q p how : Int) : PR B μ (fun σ => ev 85 0 [aR 0 0, aI ow, aI sd, aI q, aI p, aI how, aU, aU] [] σ) (fun σ => ev 164 0 [aR 25 0, aI ow, aI sd, aI q, aI p, aI how, aU, aU] [] σ) := by
  obtain ⟨hc, h600, hR, hnum, h601, hph⟩ := Inv_f hI
  obtain ⟨a6, hu⟩ := u_limit0 ow sd q p how μ
  have hm := m_limit0 ow sd q p how
  have hmm : (if (1 ≤ q ∧ q < 1000) ∧ (1 ≤ p ∧ p < 1000) ∧ (0 ≤ how ∧ how ≤ 2) then (1 : Int) else 0) = 0 ∨ ((1 ≤ q ∧ q < 1000) ∧ (1 ≤ p ∧ p < 1000) ∧ (0 ≤ how ∧ how ≤ 2)) := by
    split
    · rename_i z; exact Or.inr z
    · exact Or.inl rfl
  generalize (if (1 ≤ q ∧ q < 1000) ∧ (1 ≤ p ∧ p < 1000) ∧ (0 ≤ how ∧ how ≤ 2) then (1 : Int) else 0) = m at hu hm hmm
  have hru := c_Ub_reasonC ow sd m μ
  rcases rsC_rg (gI μ 6 0 2) ow sd m with hr | hr
  · obtain ⟨r1, r2, r3, r4⟩ := rsC_0 hr
    have hmm := hmm.elim (fun z => absurd z r3) id
    have hf := kBr_frc (y0 := 120) (σ := μ) ⟨hc.1, r4⟩ 1 ow sd q p 0 how
    have hbr := c_Dk_bring 1 ow sd q p 0 how B μ hI.2.1 hR r4 (by omega) r1 (by omega) (by omega) (by omega)
    obtain ⟨σ', k1, k2, k3⟩ := br_lim (kd := 1) (ow := ow) (sd := sd) (q := q) (p := p) (d := 0) (how := how) (Sim_25 hI.1 (frc_26 hf)) (by omega) r4 (Or.inl rfl) r1 (by omega) (by omega) (by omega) ⟨by omega, fun z => by omega⟩ hmm.2.2
    have h61 : gI (kBr μ 1 ow sd q p 0 how) 26 0 600 = gI μ 6 0 2 := by rw [frc_26 hf, h600]
    refine ⟨gI μ 6 0 2, kBr μ 1 ow sd q p 0 how, σ', ?_, ?_, Inv_mono (Inv_step hI hf k3 k2 ((kBr_CO hI.2.1 r4 (by omega) 1 ow sd q p 0 how r1).mono (by omega)) (by rw [kBr_cnt ⟨hc.1, r4⟩]; omega) (by omega)) (by omega)⟩
    · rw [hnum _ hc.1 r4] at hbr
      simp only [hu]
      simp (disch := omega) only [e_Ub_limit_31, e_Ub_limit_33, e_Ub_limit_34, e_Ub_limit_35, e_Ub_limit_36, e_Ub_limit_38, e_Ub_limit_41, e_Ub_limit_43, e_Ub_limit_45, e_Ub_limit_48, e_Ub_limit_49, e_Ub_limit_51, e_Ub_limit_54, e_Ub_limit_57, e_Ub_limit_58, e_Ub_limit_61, e_Ub_limit_62, e_Ub_limit_63, e_Ub_limit_64, e_Ub_limit_65, e_Ub_limit_67, e_Ub_limit_68, e_Ub_limit_70, e_Ub_limit_73, hru, evK_i, hr, if_true, hbr]
    · have hco := c_Md_comes (kBr μ 1 ow sd q p 0 how) (gI μ 6 0 2) 1 ow sd q p 0 h61 ⟨hc.1, r4⟩
      have hwo := c_Md_wantedOrder ow sd m (kBr μ 1 ow sd q p 0 how) (by omega)
      rw [h61] at hwo
      simp only [hm]
      simp (disch := omega) only [e_Md_limit_33, e_Md_limit_36, e_Md_limit_38, e_Md_limit_40, e_Md_limit_43, e_Md_limit_44, e_Md_limit_46, e_Md_limit_49, e_Md_limit_50, e_Md_limit_51, e_Md_limit_52, e_Md_limit_53, e_Md_limit_54, e_Md_limit_55, e_Md_limit_57, e_Md_limit_58, e_Md_limit_61, e_Md_limit_63, e_Md_limit_64, e_Md_limit_66, e_Md_limit_68, e_Md_limit_71, e_Md_limit_73, hwo, evK_i, evK_v, hr, if_true, hco, k1]
  · refine PR_rf (a := rsC (gI μ 6 0 2) ow sd m) (r := -(rsC (gI μ 6 0 2) ow sd m)) hI ?_ ?_
    · have hre := c_Ub_refuse (rsC (gI μ 6 0 2) ow sd m) μ hr
      simp only [hu]
      simp (disch := omega) only [e_Ub_limit_31, e_Ub_limit_33, e_Ub_limit_34, e_Ub_limit_35, e_Ub_limit_36, e_Ub_limit_38, e_Ub_limit_41, e_Ub_limit_43, e_Ub_limit_45, e_Ub_limit_48, e_Ub_limit_49, e_Ub_limit_51, e_Ub_limit_54, e_Ub_limit_57, e_Ub_limit_58, e_Ub_limit_61, e_Ub_limit_62, e_Ub_limit_63, e_Ub_limit_64, e_Ub_limit_65, e_Ub_limit_67, e_Ub_limit_68, e_Ub_limit_70, e_Ub_limit_73, hru, evK_i, if_neg (show ¬ rsC (gI μ 6 0 2) ow sd m = 0 by omega), hre]
      rfl
    · have hwo := c_Md_wantedOrder ow sd m (rf4 μ (-(rsC (gI μ 6 0 2) ow sd m))) (by rw [g_rf4 _ _ _ _ _ (by decide)]; omega)
      rw [g_rf4 _ _ _ _ _ (by decide), h600] at hwo
      have hre := c_Md_refused (rsC (gI μ 6 0 2) ow sd m) (rf4 μ (-(rsC (gI μ 6 0 2) ow sd m))) hr
      simp only [hm]
      simp (disch := omega) only [e_Md_limit_33, e_Md_limit_36, e_Md_limit_38, e_Md_limit_40, e_Md_limit_43, e_Md_limit_44, e_Md_limit_46, e_Md_limit_49, e_Md_limit_50, e_Md_limit_51, e_Md_limit_52, e_Md_limit_53, e_Md_limit_54, e_Md_limit_55, e_Md_limit_57, e_Md_limit_58, e_Md_limit_61, e_Md_limit_63, e_Md_limit_64, e_Md_limit_66, e_Md_limit_68, e_Md_limit_71, e_Md_limit_73, hwo, evK_i, if_neg (show ¬ rsC (gI μ 6 0 2) ow sd m = 0 by omega), hre]
      rfl
theorem PR_hidden {μ : aM} {B : Int} (hI : Inv μ B) (hB : B + 2000000 < 2147483647) (ow sd q p d : Int) : PR B μ (fun σ => ev 86 0 [aR 0 0, aI ow, aI sd, aI q, aI p, aI d, aU, aU] [] σ) (fun σ => ev 165 0 [aR 25 0, aI ow, aI sd, aI q, aI p, aI d, aU, aU] [] σ) := by
  obtain ⟨hc, h600, hR, hnum, h601, hph⟩ := Inv_f hI
  obtain ⟨a6, hu⟩ := u_hidden0 ow sd q p d μ
  have hm := m_hidden0 ow sd q p d
  have hmm : (if (1 ≤ q ∧ q < 1000) ∧ (1 ≤ p ∧ p < 1000) ∧ (1 ≤ d ∧ d < 1000) then (1 : Int) else 0) = 0 ∨ ((1 ≤ q ∧ q < 1000) ∧ (1 ≤ p ∧ p < 1000) ∧ (1 ≤ d ∧ d < 1000)) := by
    split
    · rename_i z; exact Or.inr z
    · exact Or.inl rfl
  generalize (if (1 ≤ q ∧ q < 1000) ∧ (1 ≤ p ∧ p < 1000) ∧ (1 ≤ d ∧ d < 1000) then (1 : Int) else 0) = m at hu hm hmm
  have hru := c_Ub_reasonC ow sd m μ
  rcases rsC_rg (gI μ 6 0 2) ow sd m with hr | hr
  · obtain ⟨r1, r2, r3, r4⟩ := rsC_0 hr
    have hmm := hmm.elim (fun z => absurd z r3) id
    have hf := kBr_frc (y0 := 120) (σ := μ) ⟨hc.1, r4⟩ 2 ow sd q p d 0
    have hbr := c_Dk_bring 2 ow sd q p d 0 B μ hI.2.1 hR r4 (by omega) r1 (by omega) (by omega) (by omega)
    obtain ⟨σ', k1, k2, k3⟩ := br_lim (kd := 2) (ow := ow) (sd := sd) (q := q) (p := p) (d := d) (how := 0) (Sim_25 hI.1 (frc_26 hf)) (by omega) r4 (Or.inr rfl) r1 (by omega) (by omega) (by omega) ⟨by omega, fun z => by omega⟩ ⟨by omega, by omega⟩
    have h61 : gI (kBr μ 2 ow sd q p d 0) 26 0 600 = gI μ 6 0 2 := by rw [frc_26 hf, h600]
    refine ⟨gI μ 6 0 2, kBr μ 2 ow sd q p d 0, σ', ?_, ?_, Inv_mono (Inv_step hI hf k3 k2 ((kBr_CO hI.2.1 r4 (by omega) 2 ow sd q p d 0 r1).mono (by omega)) (by rw [kBr_cnt ⟨hc.1, r4⟩]; omega) (by omega)) (by omega)⟩
    · rw [hnum _ hc.1 r4] at hbr
      simp only [hu]
      simp (disch := omega) only [e_Ub_hidden_28, e_Ub_hidden_30, e_Ub_hidden_31, e_Ub_hidden_32, e_Ub_hidden_33, e_Ub_hidden_35, e_Ub_hidden_38, e_Ub_hidden_40, e_Ub_hidden_42, e_Ub_hidden_45, e_Ub_hidden_46, e_Ub_hidden_48, e_Ub_hidden_51, e_Ub_hidden_54, e_Ub_hidden_55, e_Ub_hidden_58, e_Ub_hidden_59, e_Ub_hidden_60, e_Ub_hidden_61, e_Ub_hidden_62, e_Ub_hidden_64, e_Ub_hidden_66, e_Ub_hidden_67, e_Ub_hidden_70, hru, evK_i, hr, if_true, hbr]
    · have hco := c_Md_comes (kBr μ 2 ow sd q p d 0) (gI μ 6 0 2) 2 ow sd q p d h61 ⟨hc.1, r4⟩
      have hwo := c_Md_wantedOrder ow sd m (kBr μ 2 ow sd q p d 0) (by omega)
      rw [h61] at hwo
      simp only [hm]
      simp (disch := omega) only [e_Md_hidden_31, e_Md_hidden_34, e_Md_hidden_36, e_Md_hidden_38, e_Md_hidden_41, e_Md_hidden_42, e_Md_hidden_44, e_Md_hidden_47, e_Md_hidden_48, e_Md_hidden_49, e_Md_hidden_50, e_Md_hidden_51, e_Md_hidden_52, e_Md_hidden_53, e_Md_hidden_55, e_Md_hidden_57, e_Md_hidden_60, e_Md_hidden_62, e_Md_hidden_63, e_Md_hidden_65, e_Md_hidden_66, e_Md_hidden_69, e_Md_hidden_71, hwo, evK_i, evK_v, hr, if_true, hco, k1]
  · refine PR_rf (a := rsC (gI μ 6 0 2) ow sd m) (r := -(rsC (gI μ 6 0 2) ow sd m)) hI ?_ ?_
    · have hre := c_Ub_refuse (rsC (gI μ 6 0 2) ow sd m) μ hr
      simp only [hu]
      simp (disch := omega) only [e_Ub_hidden_28, e_Ub_hidden_30, e_Ub_hidden_31, e_Ub_hidden_32, e_Ub_hidden_33, e_Ub_hidden_35, e_Ub_hidden_38, e_Ub_hidden_40, e_Ub_hidden_42, e_Ub_hidden_45, e_Ub_hidden_46, e_Ub_hidden_48, e_Ub_hidden_51, e_Ub_hidden_54, e_Ub_hidden_55, e_Ub_hidden_58, e_Ub_hidden_59, e_Ub_hidden_60, e_Ub_hidden_61, e_Ub_hidden_62, e_Ub_hidden_64, e_Ub_hidden_66, e_Ub_hidden_67, e_Ub_hidden_70, hru, evK_i, if_neg (show ¬ rsC (gI μ 6 0 2) ow sd m = 0 by omega), hre]
      rfl
    · have hwo := c_Md_wantedOrder ow sd m (rf4 μ (-(rsC (gI μ 6 0 2) ow sd m))) (by rw [g_rf4 _ _ _ _ _ (by decide)]; omega)
      rw [g_rf4 _ _ _ _ _ (by decide), h600] at hwo
      have hre := c_Md_refused (rsC (gI μ 6 0 2) ow sd m) (rf4 μ (-(rsC (gI μ 6 0 2) ow sd m))) hr
      simp only [hm]
      simp (disch := omega) only [e_Md_hidden_31, e_Md_hidden_34, e_Md_hidden_36, e_Md_hidden_38, e_Md_hidden_41, e_Md_hidden_42, e_Md_hidden_44, e_Md_hidden_47, e_Md_hidden_48, e_Md_hidden_49, e_Md_hidden_50, e_Md_hidden_51, e_Md_hidden_52, e_Md_hidden_53, e_Md_hidden_55, e_Md_hidden_57, e_Md_hidden_60, e_Md_hidden_62, e_Md_hidden_63, e_Md_hidden_65, e_Md_hidden_66, e_Md_hidden_69, e_Md_hidden_71, hwo, evK_i, if_neg (show ¬ rsC (gI μ 6 0 2) ow sd m = 0 by omega), hre]
      rfl
