/-! the auction, whole, on both sides -/
theorem l_zero33 {p vol u : Int} {a5 a6 : AV} : ∀ (n : Nat) (i : Int) (σ : aM), 0 ≤ i → i + n = 60 → (∀ o, 0 ≤ o → o < i → gI σ 33 0 o = 0) → ∃ σ', ev 185 5 [aR 25 0, aI p, aI vol, aI u, aI i, a5, a6] [] σ = ev 185 26 [aR 25 0, aI p, aI vol, aI u, aI 60, a5, a6] [] σ' ∧ FrZ σ σ' ∧ (∀ o, 0 ≤ o → o < 60 → gI σ' 33 0 o = 0) ∧ ∀ k, gI σ' 26 0 k = gI σ 26 0 k := by
  intro n
  induction n with
  | zero =>
    intro i σ h0 h1 hz
    have hi : i = 60 := by omega
    subst hi
    refine ⟨σ, ?_, FrZ.rfl σ, hz, fun _ => rfl⟩
    rw [e_Md_crosses_5]
    simp (disch := omega) only [e_Md_crosses_7, e_Md_crosses_9, e_Md_crosses_12, e_Md_crosses_13, e_Md_crosses_16, e_Md_crosses_18, e_Md_crosses_19, e_Md_crosses_20, e_Md_crosses_23, if_pos (show (60 : Int) ≤ 60 by omega)]
  | succ n ih =>
    intro i σ h0 h1 hz
    obtain ⟨σ', j1, j2, j3, j4⟩ := ih (i + 1) (uI σ 33 0 i 0) (by omega) (by omega) (fun o o0 o1 => by
      by_cases y : o = i
      · rw [y, gI_self]
      · rw [gI_nj _ _ _ _ _ _ _ _ y]; exact hz o o0 (by omega))
    refine ⟨σ', ?_, ((FrZ.rfl σ).u _ _ _ (Or.inr rfl)).trans j2, j3, fun k => by rw [j4, gI_nt _ _ _ _ _ _ _ _ (by decide)]⟩
    rw [e_Md_crosses_5]
    simp (disch := omega) only [e_Md_crosses_7, e_Md_crosses_9, e_Md_crosses_12, e_Md_crosses_13, e_Md_crosses_16, e_Md_crosses_18, e_Md_crosses_19, e_Md_crosses_20, e_Md_crosses_23, if_neg (show ¬ (60 : Int) ≤ i by omega), wr_id]
    exact j1
theorem l_fresh {p vol u : Int} {a5 a6 : AV} : ∀ (n : Nat) (i : Int) (σ : aM), 0 ≤ i → i + n = gI σ 26 0 600 → gI σ 26 0 600 ≤ 60 → ∃ σ', ev 185 208 [aR 25 0, aI p, aI vol, aI u, aI i, a5, a6] [] σ = some (none, σ') ∧ FrZ σ σ' ∧ (∀ k, (k < 420 + i ∨ 480 ≤ k) → gI σ' 26 0 k = gI σ 26 0 k) ∧
    ∀ o, i ≤ o → o < gI σ 26 0 600 → gI σ' 26 0 (420 + o) = if ¬ gI σ 33 0 o = 0 ∧ gI σ 26 0 o = 2 ∧ ¬ gI σ 26 0 (180 + o) ≤ 0 then (if gI σ 26 0 (360 + o) < gI σ 26 0 (180 + o) then gI σ 26 0 (360 + o) else gI σ 26 0 (180 + o)) else gI σ 26 0 (420 + o) := by
  intro n
  induction n with
  | zero =>
    intro i σ h0 h1 h6
    refine ⟨σ, ?_, FrZ.rfl σ, fun _ _ => rfl, fun o o0 o1 => by omega⟩
    rw [e_Md_crosses_208]
    simp (disch := omega) only [e_Md_crosses_210, e_Md_crosses_211, e_Md_crosses_214, e_Md_crosses_217, e_Md_crosses_218, e_Md_crosses_270, if_pos (show gI σ 26 0 600 ≤ i by omega)]
  | succ n ih =>
    intro i σ h0 h1 h6
    by_cases y : ¬ gI σ 33 0 i = 0 ∧ gI σ 26 0 i = 2 ∧ ¬ gI σ 26 0 (180 + i) ≤ 0
    · have e6 : gI (mFs σ i) 26 0 600 = gI σ 26 0 600 := by unfold mFs; rw [gI_nj _ _ _ _ _ _ _ _ (by omega)]
      have hfr := c_Md_fresh i σ (by omega)
      obtain ⟨σ', j1, j2, j3, j4⟩ := ih (i + 1) (mFs σ i) (by omega) (by rw [e6]; omega) (by rw [e6]; exact h6)
      refine ⟨σ', ?_, ?_, fun k hk => ?_, fun o o0 o1 => ?_⟩
      · rw [e_Md_crosses_208]
        simp (disch := omega) only [e_Md_crosses_210, e_Md_crosses_211, e_Md_crosses_214, e_Md_crosses_217, e_Md_crosses_218, e_Md_crosses_221, e_Md_crosses_222, e_Md_crosses_225, e_Md_crosses_227, e_Md_crosses_228, e_Md_crosses_231, e_Md_crosses_232, e_Md_crosses_235, e_Md_crosses_236, e_Md_crosses_238, e_Md_crosses_239, e_Md_crosses_240, e_Md_crosses_241, e_Md_crosses_244, e_Md_crosses_245, e_Md_crosses_248, e_Md_crosses_251, e_Md_crosses_253, e_Md_crosses_254, e_Md_crosses_255, e_Md_crosses_258, e_Md_crosses_259, e_Md_crosses_261, e_Md_crosses_264, e_Md_crosses_267, if_neg (show ¬ gI σ 26 0 600 ≤ i by omega), if_neg y.1, Int.zero_add, wr_id, if_neg (show ¬ ¬ gI σ 26 0 i = 2 from fun q => q y.2.1), if_neg y.2.2, hfr, evK_v]
        exact j1
      · refine FrZ.trans ?_ j2
        unfold mFs
        exact (FrZ.rfl σ).u _ _ _ (Or.inl rfl)
      · rw [j3 k (by omega)]
        unfold mFs
        rw [gI_nj _ _ _ _ _ _ _ _ (by omega)]
      · by_cases z : o = i
        · subst z
          rw [if_pos y, j3 _ (by omega)]
          unfold mFs
          rw [gI_self]
        · rw [j4 o (by omega) (by rw [e6]; exact o1)]
          unfold mFs
          rw [gI_nt _ _ _ _ _ _ _ _ (by decide), gI_nj _ _ _ _ _ _ _ _ (by omega), gI_nj _ _ _ _ _ _ _ _ (by omega), gI_nj _ _ _ _ _ _ _ _ (by omega), gI_nj _ _ _ _ _ _ _ _ (by omega)]
    · obtain ⟨σ', j1, j2, j3, j4⟩ := ih (i + 1) σ (by omega) (by omega) h6
      refine ⟨σ', ?_, j2, fun k hk => j3 k (by omega), fun o o0 o1 => ?_⟩
      · rw [e_Md_crosses_208]
        by_cases y1 : gI σ 33 0 i = 0
        · simp (disch := omega) only [e_Md_crosses_210, e_Md_crosses_211, e_Md_crosses_214, e_Md_crosses_217, e_Md_crosses_218, e_Md_crosses_221, e_Md_crosses_222, e_Md_crosses_225, e_Md_crosses_227, e_Md_crosses_228, e_Md_crosses_231, e_Md_crosses_232, e_Md_crosses_235, e_Md_crosses_236, e_Md_crosses_238, e_Md_crosses_239, e_Md_crosses_240, e_Md_crosses_241, e_Md_crosses_244, e_Md_crosses_245, e_Md_crosses_248, e_Md_crosses_251, e_Md_crosses_253, e_Md_crosses_254, e_Md_crosses_255, e_Md_crosses_258, e_Md_crosses_259, e_Md_crosses_261, e_Md_crosses_264, e_Md_crosses_267, if_neg (show ¬ gI σ 26 0 600 ≤ i by omega), if_pos y1, wr_id]
          exact j1
        · by_cases y2 : gI σ 26 0 i = 2
          · have y3 : gI σ 26 0 (180 + i) ≤ 0 := by
              by_cases q : gI σ 26 0 (180 + i) ≤ 0
              · exact q
              · exact absurd ⟨y1, y2, q⟩ y
            simp (disch := omega) only [e_Md_crosses_210, e_Md_crosses_211, e_Md_crosses_214, e_Md_crosses_217, e_Md_crosses_218, e_Md_crosses_221, e_Md_crosses_222, e_Md_crosses_225, e_Md_crosses_227, e_Md_crosses_228, e_Md_crosses_231, e_Md_crosses_232, e_Md_crosses_235, e_Md_crosses_236, e_Md_crosses_238, e_Md_crosses_239, e_Md_crosses_240, e_Md_crosses_241, e_Md_crosses_244, e_Md_crosses_245, e_Md_crosses_248, e_Md_crosses_251, e_Md_crosses_253, e_Md_crosses_254, e_Md_crosses_255, e_Md_crosses_258, e_Md_crosses_259, e_Md_crosses_261, e_Md_crosses_264, e_Md_crosses_267, if_neg (show ¬ gI σ 26 0 600 ≤ i by omega), if_neg y1, Int.zero_add, wr_id, if_neg (show ¬ ¬ gI σ 26 0 i = 2 from fun q => q y2), if_pos y3]
            exact j1
          · simp (disch := omega) only [e_Md_crosses_210, e_Md_crosses_211, e_Md_crosses_214, e_Md_crosses_217, e_Md_crosses_218, e_Md_crosses_221, e_Md_crosses_222, e_Md_crosses_225, e_Md_crosses_227, e_Md_crosses_228, e_Md_crosses_231, e_Md_crosses_232, e_Md_crosses_235, e_Md_crosses_236, e_Md_crosses_238, e_Md_crosses_239, e_Md_crosses_240, e_Md_crosses_241, e_Md_crosses_244, e_Md_crosses_245, e_Md_crosses_248, e_Md_crosses_251, e_Md_crosses_253, e_Md_crosses_254, e_Md_crosses_255, e_Md_crosses_258, e_Md_crosses_259, e_Md_crosses_261, e_Md_crosses_264, e_Md_crosses_267, if_neg (show ¬ gI σ 26 0 600 ≤ i by omega), if_neg y1, Int.zero_add, wr_id, if_pos y2]
            exact j1
      · by_cases z : o = i
        · subst z
          rw [if_neg y, j3 _ (by omega)]
        · exact j4 o (by omega) o1
theorem Sim_seen {τ σ σ' : aM} {B : Int} (h : Sim τ σ (-1) B) (hk : ∀ k, (k < 420 ∨ 480 ≤ k) → gI σ' 26 0 k = gI σ 26 0 k) (hs : ∀ o, 0 ≤ o → o < gI τ 6 0 2 → gI τ 8 o 5 = 1 → gI τ 8 o 1 = 2 → gI σ' 26 0 (420 + o) = gI τ 8 o 9) : Sim τ σ' (-1) B := by
  obtain ⟨hO, hI, hD, hG, hg⟩ := h
  have hc6 := hO.1.2
  refine ⟨⟨by rw [hk _ (by omega)]; exact hO.1, fun o o0 o1 => ?_⟩, hI, hD, GL_same hG (fun k k1 => hk k (by omega)) (fun _ _ _ _ => rfl), hg⟩
  obtain ⟨ra, rb, rt, rv, rc⟩ := RO.p hO o0 o1
  refine ⟨?_, fun z => ?_, fun z => ?_, fun z z2 => hs o o0 o1 z z2, fun z => by omega⟩
  · rw [hk _ (by omega), hk _ (by omega), hk _ (by omega), hk _ (by omega), hk _ (by omega)]; exact ra
  · rw [hk _ (by omega), hk _ (by omega), hk _ (by omega)]; exact rb z
  · rw [hk _ (by omega)]; exact rt z
theorem kOp_0 (τ : aM) (u p : Int) (hu : u ≤ 0) : kOp 60 τ u p = τ := by
  show kOp (59 + 1) τ u p = τ
  rw [kOp, if_pos hu]
theorem c_Md_crosses {τ σ : aM} {B p vol : Int} (hS : Sim τ σ (-1) B) (hB : B + 60 < 2147483647) (h : vol ≤ 0 ∨ ((1 ≤ p ∧ p ≤ 999) ∧ vol ≤ bV τ p ∧ vol ≤ sV τ p ∧ vol ≤ 60000)) : ∃ σ', ev 185 0 [aR 25 0, aI p, aI vol, aU, aU, aU, aU] [] σ = some (none, σ') ∧ Sim (kOp 60 τ vol p) σ' (-1) (B + 60) ∧ FrZ σ σ' := by
  have hc6 := hS.1.1.2
  obtain ⟨σ1, z1, z2, z3, z4⟩ := l_zero33 (p := p) (vol := vol) (u := vol) (a5 := aU) (a6 := aU) 60 0 σ (Int.le_refl _) (by omega) (fun o o0 o1 => by omega)
  have hP : Sim τ (pt τ σ1) (-1) B := Sim_seen hS (fun k hk => by rw [pt_k _ _ _ hk, z4]) (fun o o0 o1 _ _ => pt_s _ _ _ (by omega))
  have hQ : Qs τ σ1 := fun o o0 o1 h5 h1 => Or.inr ⟨z3 o o0 (by omega), by rw [z4]; exact (RO.p hS.1 o0 o1).2.2.2.1 h5 h1⟩
  have main : ∃ σ2 u' a4' a5' a6', ev 185 26 [aR 25 0, aI p, aI vol, aI vol, aI 60, aU, aU] [] σ1 = ev 185 205 [aR 25 0, aI p, aI vol, aI u', a4', a5', a6'] [] σ2 ∧ Sim (kOp 60 τ vol p) (pt (kOp 60 τ vol p) σ2) (-1) (B + 60) ∧ Qs (kOp 60 τ vol p) σ2 ∧ FrZ σ1 σ2 := by
    rcases h with h | ⟨hp, h1, h2, h3⟩
    · rw [kOp_0 τ vol p h]
      refine ⟨σ1, vol, aI 60, aU, aU, ?_, Sim_mono hP (by omega), hQ, FrZ.rfl σ1⟩
      rw [e_Md_crosses_26]
      simp (disch := omega) only [e_Md_crosses_27, if_pos h]
    · exact l_crosses (vol := vol) hp 60 τ σ1 vol B (aI 60) aU aU hP hQ h1 h2 h3 (Or.inr (by have := (cnF_le τ 1 (gI τ 6 0 2).toNat 0).2; unfold cnI; omega)) (by omega)
  obtain ⟨σ2, u', b4, b5, b6, m1, m2, m3, m4⟩ := main
  have hR := R1_pt m2.1
  have hc2 := m2.1.1.2
  have e600 : gI σ2 26 0 600 = gI (kOp 60 τ vol p) 6 0 2 := hR.1.1
  obtain ⟨σ3, f1, f2, f3, f4⟩ := l_fresh (p := p) (vol := vol) (u := u') (a5 := b5) (a6 := b6) (gI σ2 26 0 600).toNat 0 σ2 (Int.le_refl _) (by omega) (by omega)
  refine ⟨σ3, ?_, Sim_seen m2 (fun k hk => by rw [pt_k _ _ _ hk, f3 k (by omega)]) (fun o o0 o1 h5 h1 => ?_), (z2.trans m4).trans f2⟩
  · simp (disch := omega) only [e_Md_crosses_0, e_Md_crosses_1, e_Md_crosses_2, e_Md_crosses_3]
    rw [z1, m1]
    simp (disch := omega) only [e_Md_crosses_205, e_Md_crosses_206]
    exact f1
  · rw [f4 o o0 (by omega)]
    obtain ⟨r1, r2, r3, r4, r5⟩ := hR.2 o o0 o1
    have r2 := r2 (by omega)
    have hl := (IO_p m2.2.1 o0 o1).2.2.2.2.2 h5
    rcases m3 o o0 o1 h5 h1 with ⟨q1, q2⟩ | ⟨q1, q2⟩
    · rw [if_pos ⟨by omega, by rw [r1.1]; exact h1, by rw [r2.1]; omega⟩, r1.2.2.2.2, r2.1, q2]
      rfl
    · rw [if_neg (fun y => y.1 q1), q2]
theorem Inv_step3 {μ μ1 μ2 : aM} {B B' : Int} (hI : Inv μ B) (hC1 : μ1.2 = μ.2) (hC : ∀ t i j, ¬ (chC 120 t i j ∨ (13 ≤ t ∧ t ≤ 15)) → gI μ1 t i j = gI μ t i j) (hM1 : μ2.2 = μ1.2) (hM : ∀ t i j, ¬ (t = 26 ∨ t = 33 ∨ (t = 25 ∧ ¬ j = 3 ∧ ¬ j = 18)) → gI μ2 t i j = gI μ1 t i j) (hS : Sim μ1 μ2 (-1) B') (hCO : CO μ1 B') (hcnt : gI μ 6 0 2 ≤ gI μ1 6 0 2) (hB : B ≤ B') : Inv μ2 B' := by
  obtain ⟨i1, i2, i3, i4, i5, i6, i7⟩ := hI
  have m : ∀ t i j, ¬ (t = 26 ∨ t = 33 ∨ (t = 25 ∧ ¬ j = 3 ∧ ¬ j = 18)) → gI μ2 t i j = gI μ1 t i j := hM
  have c : ∀ t i j, ¬ (chC 120 t i j ∨ (13 ≤ t ∧ t ≤ 15)) → gI μ1 t i j = gI μ t i j := hC
  refine ⟨?_, ?_, fun s s0 s1 => ?_, fun r r0 r1 => ?_, ?_, ?_, fun z => ?_⟩
  · exact Sim_cg hS (fun j _ _ => m _ _ _ (by omega)) (fun i j _ _ _ _ => m _ _ _ (by omega)) (fun i => m _ _ _ (by omega)) ⟨m _ _ _ (by omega), m _ _ _ (by omega)⟩ (fun j _ _ => m _ _ _ (by omega)) (fun j _ _ => ⟨m _ _ _ (by omega), m _ _ _ (by omega)⟩) (fun k _ _ => rfl)
  · exact CO_cg hCO (m _ _ _ (by omega)) (fun i _ _ => m _ _ _ (by omega)) (m _ _ _ (by omega)) (Int.le_refl _)
  · exact ShP_cg (i3 s s0 s1) (fun j => by rw [m _ _ _ (by omega), c _ _ _ (by omega)]) (by rw [m _ _ _ (by omega), c _ _ _ (by omega)]) (by rw [m _ _ _ (by omega), c _ _ _ (by omega)]) (gL_of2 (hM1.trans hC1)) (by rw [m _ _ _ (by omega)]; exact hcnt)
  · rw [m _ _ _ (by omega), m _ _ _ (by omega), c _ _ _ (by omega), c _ _ _ (by omega)]; exact i4 r r0 r1
  · rw [m _ _ _ (by omega), m _ _ _ (by omega), c _ _ _ (by omega), c _ _ _ (by omega)]; exact i5
  · rw [m _ _ _ (by omega), m _ _ _ (by omega), c _ _ _ (by omega), c _ _ _ (by omega)]; exact i6
  · rw [m _ _ _ (by omega), c _ _ _ (by omega)] at z
    refine Sim_vw (i7 z) (fun k => ?_) (fun i j i0 i1 => ?_) (fun i => ?_) (fun t j ht => ?_) hB
    · rw [m _ _ _ (by omega), c _ _ _ (by omega)]
    · rw [m _ _ _ (by omega), c _ _ _ (by omega)]
    · rw [m _ _ _ (by omega), c _ _ _ (by omega)]
    · rw [m _ _ _ (by omega), c _ _ _ (by omega)]
theorem bV_A {μ τ : aM} (h : FrA μ τ) (p : Int) : bV τ p = bV μ p ∧ sV τ p = sV μ p := by
  have h8 : ∀ i j, gI τ 8 i j = gI μ 8 i j := fun i j => h.2 _ _ _ (by decide) (by decide) (by decide)
  have h6 : ∀ i j, gI τ 6 i j = gI μ 6 i j := fun i j => h.2 _ _ _ (by decide) (by decide) (by decide)
  have hn : nC τ = nC μ := by unfold nC; rw [h6]
  have hb : bV1 τ p = bV1 μ p := funext fun k => by unfold bV1 elA; simp only [h8]
  have hs : sV1 τ p = sV1 μ p := funext fun k => by unfold sV1 elA; simp only [h8]
  unfold bV sV
  rw [hn, hb, hs]
  exact ⟨rfl, rfl⟩
theorem crL_A {μ τ : aM} (h : FrA μ τ) (aim : Int) : ∀ (n : Nat) (p fd ls vl : Int), crL τ aim n p fd ls vl = crL μ aim n p fd ls vl := by
  intro n
  induction n with
  | zero => intro p fd ls vl; rfl
  | succ n ih =>
    intro p fd ls vl
    rw [crL, crL, (bV_A h p).1, (bV_A h p).2, ih, ih]
theorem PR_uncross {μ : aM} {B : Int} (hI : Inv μ B) (hB : B + 2000000 < 2147483647) : PR B μ (fun σ => ev 95 0 [aR 0 0] [] σ) (fun σ => ev 187 0 [aR 25 0, aU, aU] [] σ) := by
  obtain ⟨hc, h600, hR, hnum, h601, hph⟩ := Inv_f hI
  by_cases h1 : gI μ 6 0 3 = 1
  · refine PR_rf (a := -6) (r := 6) hI ?_ ?_
    · have hre := c_Ub_refuse (-6) μ (by omega)
      show ev 95 0 [aR 0 0] [] μ = _
      simp (disch := omega) only [e_Ub_uncross_0, e_Ub_uncross_1, e_Ub_uncross_4, e_Ub_uncross_7, e_Ub_uncross_10, e_Ub_uncross_11, e_Ub_uncross_13, e_Ub_uncross_16, e_Ub_uncross_17, e_Ub_uncross_18, e_Ub_uncross_21, e_Ub_uncross_22, e_Ub_uncross_25, e_Ub_uncross_28, e_Ub_uncross_29, e_Ub_uncross_32, e_Ub_uncross_33, e_Ub_uncross_36, e_Ub_uncross_39, e_Ub_uncross_40, e_Ub_uncross_43, e_Ub_uncross_46, e_Ub_uncross_49, e_Ub_uncross_50, e_Ub_uncross_53, e_Ub_uncross_56, h1, one_ne, if_false, evK_i, hre]
      rfl
    · have hre := c_Md_refused (-6) (rf4 μ 6) (by omega)
      have e1 : gI (rf4 μ 6) 26 0 601 = 1 := by rw [g_rf4 _ _ _ _ _ (by decide), h601, h1]
      show ev 187 0 [aR 25 0, aU, aU] [] (rf4 μ 6) = _
      simp (disch := omega) only [e_Md_uncross_0, e_Md_uncross_1, e_Md_uncross_4, e_Md_uncross_7, e_Md_uncross_8, e_Md_uncross_9, e_Md_uncross_12, e_Md_uncross_13, e_Md_uncross_15, e_Md_uncross_18, e_Md_uncross_19, e_Md_uncross_20, e_Md_uncross_23, e_Md_uncross_24, e_Md_uncross_25, e_Md_uncross_28, e_Md_uncross_29, e_Md_uncross_30, e_Md_uncross_31, e_Md_uncross_32, e_Md_uncross_35, e_Md_uncross_36, e_Md_uncross_39, e_Md_uncross_42, e_Md_uncross_43, e_Md_uncross_44, e_Md_uncross_45, e_Md_uncross_48, e_Md_uncross_49, e1, not_true_eq_false, if_false, evK_i, hre]
      rfl
  · have h0 : gI μ 6 0 3 = 0 := by omega
    have hl := hI.1.2.2.2.2.1
    obtain ⟨τa, a1, a2, a3, a4⟩ := c_Auc_find μ B hI.2.1 hR hl
    have A : ∀ t i j, ¬ t = 13 → ¬ t = 14 → ¬ t = 15 → gI τa t i j = gI μ t i j := a2.2
    have hCO : CO τa B := CO_cg hI.2.1 (A _ _ _ (by decide) (by decide) (by decide)) (fun i _ _ => A _ _ _ (by decide) (by decide) (by decide)) (A _ _ _ (by decide) (by decide) (by decide)) (Int.le_refl _)
    have hop := c_Dk_open (fdN μ).1 (fdN μ).2 B τa hCO (by omega)
    have hc2 : 0 ≤ gI τa 6 0 2 ∧ gI τa 6 0 2 ≤ 60 := by rw [A _ _ _ (by decide) (by decide) (by decide)]; exact hc
    obtain ⟨p, v, hpv⟩ : ∃ p v, fdN μ = (p, v) := ⟨_, _, rfl⟩
    have hprop := fdN_prop μ
    have hcr := fd_crN (Inv_vol hI)
    rw [hpv] at a3 a4 hop hprop hcr
    have hprop : v = 0 ∨ (v = mnI (bV μ p) (sV μ p) ∧ 1 ≤ p ∧ p ≤ 999) := hprop
    have f0 : FrC 120 τa (kOp 60 τa v p) := kOp_frc 60 τa v p hc2
    have c60 : gI (kOp 60 τa v p) 6 0 2 = gI τa 6 0 2 := (kOp_fr 60 τa v p).g (by simp [chg])
    have f1 : FrC 120 τa (kOn τa p v) := (f0.u (t := 6) (i := 0) (j := 3) (v := 1) (by omega)).trans (kWs_frc (by rw [gI_nj _ _ _ _ _ _ _ _ (by decide), c60]; exact hc2))
    have hCO2 : CO (kOn τa p v) (B + 63600) := (kWs_CO (ph_CO (kOp_CO 60 τa v p B hCO (by omega)) 1) (by omega)).mono (by omega)
    have c61 : gI (kOn τa p v) 6 0 2 = gI τa 6 0 2 := by
      unfold kOn
      rw [(kWs_fr _).g (by simp [chg]), gI_nj _ _ _ _ _ _ _ _ (by decide), c60]
    have k26 : ∀ k, gI (kOn τa p v) 26 0 k = gI μ 26 0 k := fun k => by rw [frc_26 f1, A _ _ _ (by decide) (by decide) (by decide)]
    have hSa : Sim τa (kOn τa p v) (-1) B := Sim_cg hI.1 (fun j _ _ => A _ _ _ (by decide) (by decide) (by decide)) (fun i j _ _ _ _ => A _ _ _ (by decide) (by decide) (by decide)) (fun i => A _ _ _ (by decide) (by decide) (by decide)) ⟨A _ _ _ (by decide) (by decide) (by decide), A _ _ _ (by decide) (by decide) (by decide)⟩ (fun j _ _ => A _ _ _ (by decide) (by decide) (by decide)) (fun j _ _ => ⟨A _ _ _ (by decide) (by decide) (by decide), A _ _ _ (by decide) (by decide) (by decide)⟩) (fun k _ _ => k26 k)
    have e603 : gI (kOn τa p v) 26 0 603 = gI τa 9 0 4 := hSa.2.2.2.1.1.2.2.1
    obtain ⟨σ1, b1, b2, b3⟩ := c_Md_crossPrice hSa.1 hSa.2.1 hCO (IO_RG hSa.2.1) (by rw [A _ _ _ (by decide) (by decide) (by decide)]; exact hl) e603 (FrV.rfl (kOn τa p v))
    have eaim : aimN τa = aimN μ := by unfold aimN; rw [A _ _ _ (by decide) (by decide) (by decide)]
    rw [eaim, crL_A a2] at b1 b3
    obtain ⟨p2, v2, hp2⟩ : ∃ p2 v2, crL μ (aimN μ) 999 1 0 0 (-1) = (p2, v2) := ⟨_, _, rfl⟩
    rw [hp2] at b1 b3 hcr
    have b3 : gI σ1 25 0 21 = v2 := b3
    have hcr : (0 < v ∧ (p2, v2) = (p, v)) ∨ ((p, v) = ((0 : Int), (0 : Int)) ∧ v2 = 0) := hcr
    have hv : v2 = v := by
      rcases hcr with ⟨_, q⟩ | ⟨q, q2⟩
      · exact congrArg Prod.snd q
      · have : v = 0 := congrArg Prod.snd q
        omega
    have hvp : v ≤ 0 ∨ p2 = p := by
      rcases hcr with ⟨_, q⟩ | ⟨q, q2⟩
      · exact Or.inr (congrArg Prod.fst q)
      · have : v = 0 := congrArg Prod.snd q
        omega
    have hkp : kOp 60 τa v p2 = kOp 60 τa v p := by
      rcases hvp with y | y
      · rw [kOp_0 _ _ _ y, kOp_0 _ _ _ y]
      · rw [y]
    have hS1 : Sim τa σ1 (-1) B := Sim_25 hSa (fun k => b2.k k)
    have hw : v ≤ 0 ∨ ((1 ≤ p2 ∧ p2 ≤ 999) ∧ v ≤ bV τa p2 ∧ v ≤ sV τa p2 ∧ v ≤ 60000) := by
      rcases hvp with y | y
      · exact Or.inl y
      · rcases hprop with z | z
        · exact Or.inl (by omega)
        · have rg := vol_rg hI.2.1 hR p
          have := z.1
          unfold mnI at this
          rw [y, (bV_A a2 p).1, (bV_A a2 p).2]
          split at this <;> exact Or.inr ⟨z.2, by omega, by omega, by omega⟩
    obtain ⟨σ2, d1, d2, d3⟩ := c_Md_crosses hS1 (by omega) hw
    rw [hkp] at d2
    have hS3 : Sim (uI (kOp 60 τa v p) 6 0 3 1) (uI σ2 26 0 601 1) (-1) (B + 60) := glob_Sim d2 (fun t i j z => by rw [gI_uI, if_neg (by omega)]) (fun k z => gI_nj _ _ _ _ _ _ _ _ (by omega)) (by simp (disch := omega) only [gI_self, gI_nt, gI_nj, gL_uI, gR_uI, gI_uL, gR_uL, gI_uR, gL_uR]) (by simp (disch := omega) only [gI_self, gI_nt, gI_nj, gL_uI, gR_uI, gI_uL, gR_uL, gI_uR, gL_uR]; exact d2.2.2.2.1.1.2.1) (by simp (disch := omega) only [gI_self, gI_nt, gI_nj, gL_uI, gR_uI, gI_uL, gR_uL, gI_uR, gL_uR]; exact d2.2.2.2.1.1.2.2.2.1) (by simp (disch := omega) only [gI_self, gI_nt, gI_nj, gL_uI, gR_uI, gI_uL, gR_uL, gI_uR, gL_uR]; omega) (by simp (disch := omega) only [gI_self, gI_nt, gI_nj, gL_uI, gR_uI, gI_uL, gR_uL, gI_uR, gL_uR]; exact d2.2.2.2.2.2.1)
    obtain ⟨σ3, s1, s2, s3⟩ := c_Md_stops hS3 (by omega)
    have e13 : gI (kOn τa p v) 13 0 3 = v := by rw [f1.2 _ _ _ (by omega)]; exact a4
    have e601 : gI (kOn τa p v) 26 0 601 = 0 := by rw [k26, h601, h0]
    refine ⟨v, kOn τa p v, σ3, ?_, ?_, Inv_mono (Inv_step3 (B' := B + 60 + 63600) hI (f1.1.trans a2.1) (fun t i j z => ?_) ?_ (fun t i j z => ?_) s2 (hCO2.mono (by omega)) (by rw [c61, A _ _ _ (by decide) (by decide) (by decide)]; exact Int.le_refl _) (by omega)) (by omega)⟩
    · show ev 95 0 [aR 0 0] [] μ = _
      simp (disch := omega) only [e_Ub_uncross_0, e_Ub_uncross_1, e_Ub_uncross_4, e_Ub_uncross_7, e_Ub_uncross_10, e_Ub_uncross_11, e_Ub_uncross_13, e_Ub_uncross_16, e_Ub_uncross_17, e_Ub_uncross_18, e_Ub_uncross_21, e_Ub_uncross_22, e_Ub_uncross_25, e_Ub_uncross_28, e_Ub_uncross_29, e_Ub_uncross_32, e_Ub_uncross_33, e_Ub_uncross_36, e_Ub_uncross_39, e_Ub_uncross_40, e_Ub_uncross_43, e_Ub_uncross_46, e_Ub_uncross_49, e_Ub_uncross_50, e_Ub_uncross_53, e_Ub_uncross_56, h0, if_true, evK_v, a1, a3, a4, hop, e13]
    · show ev 187 0 [aR 25 0, aU, aU] [] (kOn τa p v) = _
      simp (disch := omega) only [e_Md_uncross_0, e_Md_uncross_1, e_Md_uncross_4, e_Md_uncross_7, e_Md_uncross_8, e_Md_uncross_9, e_Md_uncross_12, e_Md_uncross_13, e_Md_uncross_15, e_Md_uncross_18, e_Md_uncross_19, e_Md_uncross_20, e_Md_uncross_23, e_Md_uncross_24, e_Md_uncross_25, e_Md_uncross_28, e_Md_uncross_29, e_Md_uncross_30, e_Md_uncross_31, e_Md_uncross_32, e_Md_uncross_35, e_Md_uncross_36, e_Md_uncross_39, e_Md_uncross_42, e_Md_uncross_43, e_Md_uncross_44, e_Md_uncross_45, e_Md_uncross_48, e_Md_uncross_49, e601, if_pos (show ¬ (0 : Int) = 1 by omega), b1, evK_i, b3, hv, d1, evK_v, s1]
    · rw [f1.2 _ _ _ (by omega), A _ _ _ (by omega) (by omega) (by omega)]
    · exact ((s3.1.trans (show (uI σ2 26 0 601 1).2 = σ2.2 from rfl)).trans d3.1).trans b2.1
    · rw [s3.2 _ _ _ (by omega), gI_nt _ _ _ _ _ _ _ _ (by omega), d3.2 _ _ _ (by omega), b2.2 _ _ _ (by omega)]
