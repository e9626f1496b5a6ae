/-! the call read -/
theorem lts_N {μ : aM} {s p : Int} (h : gI μ 2 s 1 ≤ p) : lts μ s p = -1 := by
  unfold lts
  rw [if_neg (by omega)]
theorem PR_read {μ : aM} {B : Int} (hI : Inv μ B) (hB : B + 2000000 < 2147483647) (s : Int) : PR B μ (fun σ => ev 90 0 [aR 0 0, aI s, aU, aU, aU] [] σ) (fun σ => ev 176 0 [aR 25 0, aI s, aU, aU] [] σ) := by
  obtain ⟨hc, h600, hR, hnum, h601, hph⟩ := Inv_f hI
  have hu := c_Ub_reasonR s μ
  rcases rsn_rg μ s with hr | hr
  · obtain ⟨hs, z1, z2, z3, z4, z5, z6⟩ := rsn_0 hI hr
    rw [hr] at hu
    have hfa := c_Tr_faultIn μ s z3
    -- the reference, from its text on
    have mtx : ∀ σ : aM, (∀ t i j, (t = 29 ∨ t = 30) → gI σ t i j = gI μ t i j) → σ.2 = μ.2 → TX (uI (uI σ 25 0 15 s) 25 0 18 (-1)) (lts μ s) (gI μ 2 s 1) := fun σ h29 h2 => by
      have e15 : gI (uI (uI σ 25 0 15 s) 25 0 18 (-1)) 25 0 15 = s := by rw [gI_nj _ _ _ _ _ _ _ _ (by decide), gI_self]
      refine ⟨by rw [e15]; exact hs, ?_, z3, fun p p0 p1 => ?_, fun p p0 => lts_N p0⟩
      · rw [e15, gI_nt _ _ _ _ _ _ _ _ (by decide), gI_nt _ _ _ _ _ _ _ _ (by decide), h29 _ _ _ (by decide)]; exact z5
      · rw [e15]
        have : gL (uI (uI σ 25 0 15 s) 25 0 18 (-1)) 31 0 (160 * s + p) = gL μ 31 0 (160 * s + p) := gL_of2 h2 _ _ _
        rw [this, z6 p p0 p1]
        unfold lts
        rw [if_pos p1]
    have m0 : ∀ σ : aM, (∀ t i j, (t = 29 ∨ t = 30) → gI σ t i j = gI μ t i j) → ev 176 0 [aR 25 0, aI s, aU, aU] [] σ = ev 176 28 [aR 25 0, aI s, aI 0, aU] [aI 0, aR 25 0] (uI (uI σ 25 0 15 s) 25 0 18 (-1)) := fun σ h29 => by
      have hw := c_Md_wanted s σ
      rw [wnt_rsn (σ := σ) hI (fun j => h29 _ _ _ (by decide)), hr] at hw
      simp (disch := omega) only [e_Md_read_0, e_Md_read_1, e_Md_read_2, e_Md_read_5, e_Md_read_6, e_Md_read_7, e_Md_read_10, e_Md_read_11, e_Md_read_12, e_Md_read_15, e_Md_read_16, e_Md_read_17, e_Md_read_18, e_Md_read_21, e_Md_read_22, e_Md_read_23, e_Md_read_26, e_Md_read_27, hw, evK_i, if_true]
    -- the first pass
    have pass0 : ∀ ρ : aM, TX ρ (lts μ s) (gI μ 2 s 1) → gI ρ 25 0 18 = -1 → (match pTx (lts μ s) (gI μ 2 s 1) 27 0 with
        | .inl l => ∃ τ, ev 175 0 [aR 25 0, aI 0, aU] [] ρ = some (some (aI l.length), τ) ∧ FrQ ρ τ ∧ gI τ 25 0 17 = 0 ∧ gI τ 25 0 18 = -1
        | .inr k => ∃ x τ, ev 175 0 [aR 25 0, aI 0, aU] [] ρ = some (some (aI x), τ) ∧ FrQ ρ τ ∧ gI τ 25 0 17 = 1 ∧ gI τ 25 0 18 = k) := fun ρ hX h18 => by
      have hF1 : FrQ ρ (uI ρ 25 0 17 0) := (FrQ.rfl ρ).u _ _ _ (by omega)
      have hX1 := hX.to hF1.X
      have w1 : gI (uI ρ 25 0 17 0) 25 0 17 = 0 := gI_self _ _ _ _ _
      have eq0 : uI (uI ρ 25 0 16 0) 25 0 17 0 = spA (uI ρ 25 0 17 0) 0 := aM_ext (fun t i j => by simp only [gI_uI]; grind) (fun _ _ _ => rfl) (fun _ => rfl)
      have s0 : ev 175 0 [aR 25 0, aI 0, aU] [] ρ = ev 175 14 [aR 25 0, aI 0, aI 1] [aI 0, aR 25 0] (spA (uI ρ 25 0 17 0) 0) := by
        simp (disch := omega) only [e_Md_goesThrough_0, e_Md_goesThrough_1, e_Md_goesThrough_2, e_Md_goesThrough_5, e_Md_goesThrough_6, e_Md_goesThrough_7, e_Md_goesThrough_10, e_Md_goesThrough_11, e_Md_goesThrough_12, e_Md_goesThrough_13, eq0]
      have hit := gm_0 hX1 w1 0 0 (by omega)
      rw [s0, pTx_eq]
      cases hp : pIt (lts μ s) 0 with
      | inr k =>
        rw [hp] at hit
        obtain ⟨τ, i1, i2, i3, i4⟩ := hit rfl
        dsimp only
        refine ⟨1, τ, ?_, hF1.trans i2, i3, i4⟩
        simp (disch := omega) only [e_Md_goesThrough_14, i1, evK_v]
        rw [e_Md_goesThrough_17]
        simp (disch := omega) only [e_Md_goesThrough_18, e_Md_goesThrough_21, e_Md_goesThrough_67, e_Md_goesThrough_68, i3, one_ne, not_false_eq_true, if_true]
      | inl a =>
        obtain ⟨p1, it⟩ := a
        rw [hp] at hit
        have hit : _ = _ := hit
        rw [b149] at hit
        obtain ⟨j1, j2, j3⟩ := pIt_N hX1 hp
        have hl := l_gt0 26 p1 1 (uI ρ 25 0 17 0) hX1 w1 (by omega) j3 (by omega) (by omega)
        have s1 : ev 175 14 [aR 25 0, aI 0, aI 1] [aI 0, aR 25 0] (spA (uI ρ 25 0 17 0) 0) = ev 175 17 [aR 25 0, aI 0, aI 1] [] (spA (uI ρ 25 0 17 0) p1) := by
          simp (disch := omega) only [e_Md_goesThrough_14, hit, evK_v]
        rw [s1]
        dsimp only
        cases ht : tT (lts μ s) (gI μ 2 s 1) 26 p1 with
        | inr k =>
          rw [ht] at hl
          obtain ⟨x, τ, k1, k2, k3⟩ := hl
          exact ⟨x, τ, k1, hF1.trans k2, k3⟩
        | inl l =>
          rw [ht] at hl
          obtain ⟨τ, k1, k2, k3, k4⟩ := hl
          refine ⟨τ, ?_, hF1.trans k2, k3, by rw [k4, gI_nj _ _ _ _ _ _ _ _ (by decide)]; exact h18⟩
          rw [k1, List.length_cons, show 1 + (l.length : Int) = ((l.length + 1 : Nat) : Int) by omega]
    cases hp : pTx (lts μ s) (gI μ 2 s 1) 27 0 with
    | inr k =>
      rw [hp] at hfa
      obtain ⟨τ, f1, f2, f3⟩ := hfa
      have ha : ∀ t i j, ¬ ((19 ≤ t ∧ t ≤ 24) ∨ (t = 0 ∧ i = 0 ∧ j = 9)) → gI (uI τ 0 0 9 k) t i j = gI μ t i j := fun t i j z => by
        rw [gI_uI, if_neg (fun y => z (Or.inr y)), f2.2 _ _ _ (fun y => z (Or.inl y))]
      have ha9 : gI (uI τ 0 0 9 k) 0 0 9 = k := gI_self _ _ _ _ _
      have ha2 : (uI τ 0 0 9 k).2 = μ.2 := f2.1
      obtain ⟨A, hA⟩ : ∃ A, A = uI τ 0 0 9 k := ⟨_, rfl⟩
      rw [← hA] at ha9 ha2
      simp only [← hA] at ha
      have hX := mtx (rf4 A 6) (fun t i j h => by rw [g_rf4 _ _ _ _ _ (by omega), ha _ _ _ (by omega)]) ha2
      have p0 := pass0 _ hX (gI_self _ _ _ _ _)
      rw [hp] at p0
      obtain ⟨x, W, w1, w2, w3, w4⟩ := p0
      have hW : ∀ t i j, ¬ (t = 25 ∧ 15 ≤ j ∧ j ≤ 18) → ¬ t = 4 → gI W t i j = gI A t i j := fun t i j y1 y2 => by
        rw [w2.2 _ _ _ (by omega), gI_uI, if_neg (by omega), gI_uI, if_neg (by omega), g_rf4 _ _ _ _ _ y2]
      have hW4 : ∀ j, gI W 4 0 j = gI (rf4 A 6) 4 0 j := fun j => by
        rw [w2.2 _ _ _ (by omega), gI_nt _ _ _ _ _ _ _ _ (by decide), gI_nt _ _ _ _ _ _ _ _ (by decide)]
      have hW2 : W.2 = μ.2 := w2.1.trans ha2
      refine ⟨-6, rf4 A 6, rf28 W 6, ?_, ?_, Inv_mono (Inv_tx hI hW2 (fun t i j z => ?_) (fun r r0 r1 => ?_) ?_) (by omega)⟩
      · have hre := c_Ub_refuse (-6) A (by omega)
        show ev 90 0 [aR 0 0, aI s, aU, aU, aU] [] μ = _
        simp (disch := omega) only [e_Ub_read_0, e_Ub_read_1, e_Ub_read_2, e_Ub_read_5, e_Ub_read_6, e_Ub_read_7, e_Ub_read_10, e_Ub_read_11, e_Ub_read_12, e_Ub_read_15, e_Ub_read_16, e_Ub_read_17, e_Ub_read_18, e_Ub_read_21, e_Ub_read_22, e_Ub_read_25, e_Ub_read_26, e_Ub_read_27, e_Ub_read_30, e_Ub_read_33, e_Ub_read_34, e_Ub_read_37, e_Ub_read_38, e_Ub_read_41, e_Ub_read_42, e_Ub_read_44, e_Ub_read_47, hu, evK_i, if_true, Int.zero_add, Int.mul_zero, f1, ← hA, ha9, if_neg (show ¬ k = -1 by omega), hre]
        rfl
      · have hre := c_Md_refused (-6) W (by omega)
        show ev 176 0 [aR 25 0, aI s, aU, aU] [] (rf4 A 6) = _
        rw [m0 _ (fun t i j h => by rw [g_rf4 _ _ _ _ _ (by omega), ha _ _ _ (by omega)])]
        simp (disch := omega) only [e_Md_read_28, e_Md_read_31, e_Md_read_32, e_Md_read_33, e_Md_read_36, e_Md_read_39, e_Md_read_40, e_Md_read_42, e_Md_read_45, w1, evK_i, w3, one_ne, if_false, hre]
        rfl
      · unfold rf28
        rw [gI_nt _ _ _ _ _ _ _ _ (by omega), hW _ _ _ (by omega) (by omega), ha _ _ _ (by omega)]
      · have i4 := hI.2.2.2.1
        have e28 : ∀ j, gI W 28 0 j = gI μ 28 0 j := fun j => by rw [hW _ _ _ (by omega) (by omega), ha _ _ _ (by omega)]
        have e4 : ∀ j, gI A 4 0 j = gI μ 4 0 j := fun j => ha _ _ _ (by omega)
        unfold rf28
        rw [gI_nt _ _ _ _ _ _ _ _ (by decide), hW4, gI_uI, e28, e28]
        unfold rf4
        rw [gI_uI, e4, e4]
        by_cases y : r = 6
        · subst y
          rw [if_pos ⟨rfl, rfl, rfl⟩, if_pos ⟨rfl, rfl, rfl⟩, i4 _ r0 r1]
        · rw [if_neg (fun q => y q.2.2), if_neg (fun q => y q.2.2)]
          exact i4 _ r0 r1
      · unfold rf28
        rw [gI_nt _ _ _ _ _ _ _ _ (by decide), gI_nt _ _ _ _ _ _ _ _ (by decide), hW _ _ _ (by omega) (by omega), ha9, w4]
    | inl l =>
      rw [hp] at hfa
      obtain ⟨f1, f2, f3, f4⟩ := hfa
      have fT : FrT μ (atP (kIts (kFr μ) l) (gI μ 2 s 1)) := ((kFr_FrT μ).trans (kIts_FrT l _)).u _ _ _ (by omega)
      have ha : ∀ t i j, ¬ ((19 ≤ t ∧ t ≤ 24) ∨ (t = 0 ∧ i = 0 ∧ j = 9)) → gI (uI (atP (kIts (kFr μ) l) (gI μ 2 s 1)) 0 0 9 (-1)) t i j = gI μ t i j := fun t i j z => by
        rw [gI_uI, if_neg (fun y => z (Or.inr y)), fT.2 _ _ _ (fun y => z (Or.inl y))]
      have ha9 : gI (uI (atP (kIts (kFr μ) l) (gI μ 2 s 1)) 0 0 9 (-1)) 0 0 9 = -1 := gI_self _ _ _ _ _
      have ha2 : (uI (atP (kIts (kFr μ) l) (gI μ 2 s 1)) 0 0 9 (-1)).2 = μ.2 := fT.1
      have k5 : gI (kFr μ) 19 0 5 = 0 := by unfold kFr; rw [gI_nj _ _ _ _ _ _ _ _ (by decide), gI_self]
      have ha5 : gI (uI (atP (kIts (kFr μ) l) (gI μ 2 s 1)) 0 0 9 (-1)) 19 0 5 = l.length := by
        rw [gI_nt _ _ _ _ _ _ _ _ (by decide), gI_nj _ _ _ _ _ _ _ _ (by decide), kIts_5, k5, Int.zero_add]
      have haR : RD (uI (atP (kIts (kFr μ) l) (gI μ 2 s 1)) 0 0 9 (-1)) 0 l := by
        have h := kIts_RD l (kFr μ)
        rw [k5] at h
        exact RD_cg (fun t j t0 t1 => by rw [gI_nt _ _ _ _ _ _ _ _ (by omega), gI_nt _ _ _ _ _ _ _ _ (by omega)]) l 0 h
      obtain ⟨A, hA⟩ : ∃ A, A = uI (atP (kIts (kFr μ) l) (gI μ 2 s 1)) 0 0 9 (-1) := ⟨_, rfl⟩
      rw [← hA] at ha9 ha2 ha5 haR
      simp only [← hA] at ha
      have a6 : gI A 6 0 2 = gI μ 6 0 2 := ha _ _ _ (by omega)
      have hSA : Sim A μ (-1) B := Sim_cg hI.1 (fun j _ _ => ha _ _ _ (by omega)) (fun i j _ _ _ _ => ha _ _ _ (by omega)) (fun i => ha _ _ _ (by omega)) ⟨ha _ _ _ (by omega), ha _ _ _ (by omega)⟩ (fun j _ _ => ha _ _ _ (by omega)) (fun j _ _ => ⟨ha _ _ _ (by omega), ha _ _ _ (by omega)⟩) (fun k _ _ => rfl)
      have hCA : CO A B := CO_cg hI.2.1 a6 (fun i _ _ => ha _ _ _ (by omega)) (ha _ _ _ (by omega)) (Int.le_refl _)
      have u0 : ev 90 0 [aR 0 0, aI s, aU, aU, aU] [] μ = ev 90 48 [aR 0 0, aI s, aI 0, aU, aU] [] A := by
        simp (disch := omega) only [e_Ub_read_0, e_Ub_read_1, e_Ub_read_2, e_Ub_read_5, e_Ub_read_6, e_Ub_read_7, e_Ub_read_10, e_Ub_read_11, e_Ub_read_12, e_Ub_read_15, e_Ub_read_16, e_Ub_read_17, e_Ub_read_18, e_Ub_read_21, e_Ub_read_22, e_Ub_read_25, e_Ub_read_26, e_Ub_read_27, e_Ub_read_30, e_Ub_read_33, e_Ub_read_34, e_Ub_read_37, e_Ub_read_38, hu, evK_i, if_true, Int.zero_add, Int.mul_zero, f1, ← hA, ha9]
      by_cases h60 : gI μ 6 0 2 + l.length ≤ 60
      · obtain ⟨r1, r2, r3, r4⟩ := l_Ub_read s 0 l 0 A μ B aU hSA hCA haR (by omega) (by omega) (by omega) f2 (by omega) (by omega)
        rw [Int.zero_add] at r1
        have g26 : ∀ t i j, (t = 26 ∨ t = 27 ∨ t = 29 ∨ t = 30 ∨ t = 25 ∨ t = 28) → gI (kBrl A l) t i j = gI μ t i j := fun t i j h => by rw [r3.2 _ _ _ (by omega), ha _ _ _ (by omega)]
        have hX := mtx (kBrl A l) (fun t i j h => g26 _ _ _ (by omega)) (r3.1.trans ha2)
        have p0 := pass0 _ hX (gI_self _ _ _ _ _)
        rw [hp] at p0
        obtain ⟨W, w1, w2, w3, w4⟩ := p0
        -- the second pass
        have hX2 := hX.to w2.X
        have hF1 : FrQ W (uI W 25 0 17 0) := (FrQ.rfl W).u _ _ _ (by omega)
        have hX3 := hX2.to hF1.X
        have w17 : gI (uI W 25 0 17 0) 25 0 17 = 0 := gI_self _ _ _ _ _
        have w18 : gI (uI W 25 0 17 0) 25 0 18 = -1 := by rw [gI_nj _ _ _ _ _ _ _ _ (by decide)]; exact w4
        have eq0 : uI (uI W 25 0 16 0) 25 0 17 0 = spA (uI W 25 0 17 0) 0 := aM_ext (fun t i j => by simp only [gI_uI]; grind) (fun _ _ _ => rfl) (fun _ => rfl)
        have W26 : ∀ k, gI W 26 0 k = gI μ 26 0 k := fun k => by rw [w2.2 _ _ _ (by omega), gI_nt _ _ _ _ _ _ _ _ (by decide), gI_nt _ _ _ _ _ _ _ _ (by decide), g26 _ _ _ (by omega)]
        have hSW : Sim A (uI W 25 0 17 0) (-1) B := Sim_25 hSA (fun k => by rw [gI_nt _ _ _ _ _ _ _ _ (by decide), W26])
        rw [pTx_eq] at hp
        cases hp0 : pIt (lts μ s) 0 with
        | inr k => rw [hp0] at hp; cases hp
        | inl a =>
          obtain ⟨p1, it⟩ := a
          rw [hp0] at hp
          dsimp only at hp
          cases ht : tT (lts μ s) (gI μ 2 s 1) 26 p1 with
          | inr k => rw [ht] at hp; cases hp
          | inl l' =>
            rw [ht] at hp
            cases hp
            rw [List.length_cons] at *
            obtain ⟨j1, j2, j3⟩ := pIt_N hX3 hp0
            obtain ⟨σ1, m1, m2, m3, m4, m5, m6⟩ := m_item1 hX3 w17 (show (0 : Int) ≤ 0 ∧ (0 : Int) ≤ 840 by omega) hp0 hSW (by omega) (by omega) j1
            have hct := kBr_cnt (σ := A) ⟨by omega, by omega⟩ (if it.2.2.2.2 = 0 then 1 else 2) it.1 it.2.1 it.2.2.1 it.2.2.2.1 it.2.2.2.2 0
            rw [show kBr A (if it.2.2.2.2 = 0 then 1 else 2) it.1 it.2.1 it.2.2.1 it.2.2.2.1 it.2.2.2.2 0 = kItB A it from rfl] at hct
            obtain ⟨σ2, n1, n2, n3, n4⟩ := l_gt1 26 p1 1 (kItB A it) σ1 (B + 64660) l' (hX3.to m3) m4 m5 (by omega) j3 (by omega) ht m2 (by omega) (by omega)
            have hF2 := m3.trans n3
            have e600 : gI W 26 0 600 = gI μ 6 0 2 := by rw [W26, h600]
            refine ⟨((l'.length + 1 : Nat) : Int), kBrl A (it :: l'), σ2, ?_, ?_, Inv_mono (Inv_step2 (B' := B + 64660 * ((l'.length + 1 : Nat) : Int)) hI (r3.1.trans ha2) (fun t i j z => ?_) ?_ (fun t i j z => ?_) (Sim_mono n2 (by omega)) r2 (by omega) (by omega) ?_) (by omega)⟩
            · show ev 90 0 [aR 0 0, aI s, aU, aU, aU] [] μ = _
              rw [u0]
              simp (disch := omega) only [e_Ub_read_48, e_Ub_read_49, e_Ub_read_52, e_Ub_read_55, e_Ub_read_57, e_Ub_read_58, e_Ub_read_61, e_Ub_read_64, e_Ub_read_65, e_Ub_read_68, e_Ub_read_69, e_Ub_read_71, e_Ub_read_74, e_Ub_read_75, e_Ub_read_76, ha5, a6, wr_id, if_pos (show ((l'.length + 1 : Nat) : Int) ≤ 60 - gI μ 6 0 2 by omega), r1]
            · show ev 176 0 [aR 25 0, aI s, aU, aU] [] (kBrl A (it :: l')) = _
              rw [m0 _ (fun t i j h => g26 _ _ _ (by omega))]
              have s2 : ev 175 0 [aR 25 0, aI 1, aU] [] W = some (some (aI ((l'.length + 1 : Nat) : Int)), σ2) := by
                rw [show 1 + (l'.length : Int) = ((l'.length + 1 : Nat) : Int) by omega] at n1
                rw [← n1]
                simp (disch := omega) only [e_Md_goesThrough_0, e_Md_goesThrough_1, e_Md_goesThrough_2, e_Md_goesThrough_5, e_Md_goesThrough_6, e_Md_goesThrough_7, e_Md_goesThrough_10, e_Md_goesThrough_11, e_Md_goesThrough_12, e_Md_goesThrough_13, e_Md_goesThrough_14, eq0, m1, evK_v]
              simp (disch := omega) only [e_Md_read_28, e_Md_read_31, e_Md_read_32, e_Md_read_33, e_Md_read_36, e_Md_read_39, e_Md_read_40, e_Md_read_42, e_Md_read_45, e_Md_read_46, e_Md_read_47, e_Md_read_50, e_Md_read_53, e_Md_read_54, e_Md_read_55, e_Md_read_56, e_Md_read_58, e_Md_read_61, e_Md_read_62, e_Md_read_64, e_Md_read_67, e_Md_read_68, e_Md_read_69, e_Md_read_70, e_Md_read_73, w1, evK_i, w3, if_true, e600, wr_id, if_pos (show gI μ 6 0 2 + ((l'.length + 1 : Nat) : Int) ≤ 60 by omega), s2]
            · rw [r3.2 _ _ _ (fun y => z (Or.inl y)), ha _ _ _ (by omega)]
            · exact hF2.1.trans w2.1
            · rw [hF2.2 _ _ _ (by omega), gI_uI, if_neg (by omega), w2.2 _ _ _ (by omega), gI_uI, if_neg (by omega), gI_uI, if_neg (by omega)]
            · rw [n4, m6, w18, hF2.2 _ _ _ (by omega), gI_nt _ _ _ _ _ _ _ _ (by decide), w2.2 _ _ _ (by omega), gI_nt _ _ _ _ _ _ _ _ (by decide), gI_nt _ _ _ _ _ _ _ _ (by decide), r3.2 _ _ _ (by omega), ha9]
      · have hX := mtx (rf4 A 7) (fun t i j h => by rw [g_rf4 _ _ _ _ _ (by omega), ha _ _ _ (by omega)]) ha2
        have p0 := pass0 _ hX (gI_self _ _ _ _ _)
        rw [hp] at p0
        obtain ⟨W, w1, w2, w3, w4⟩ := p0
        have hW : ∀ t i j, ¬ (t = 25 ∧ 15 ≤ j ∧ j ≤ 18) → ¬ t = 4 → gI W t i j = gI A t i j := fun t i j y1 y2 => by
          rw [w2.2 _ _ _ (by omega), gI_uI, if_neg (by omega), gI_uI, if_neg (by omega), g_rf4 _ _ _ _ _ y2]
        have hW4 : ∀ j, gI W 4 0 j = gI (rf4 A 7) 4 0 j := fun j => by
          rw [w2.2 _ _ _ (by omega), gI_nt _ _ _ _ _ _ _ _ (by decide), gI_nt _ _ _ _ _ _ _ _ (by decide)]
        have hW2 : W.2 = μ.2 := w2.1.trans ha2
        have e600 : gI W 26 0 600 = gI μ 6 0 2 := by rw [hW _ _ _ (by omega) (by omega), ha _ _ _ (by omega), h600]
        refine ⟨-7, rf4 A 7, rf28 W 7, ?_, ?_, Inv_mono (Inv_tx hI hW2 (fun t i j z => ?_) (fun r r0 r1 => ?_) ?_) (by omega)⟩
        · have hre := c_Ub_refuse (-7) A (by omega)
          show ev 90 0 [aR 0 0, aI s, aU, aU, aU] [] μ = _
          rw [u0]
          simp (disch := omega) only [e_Ub_read_48, e_Ub_read_49, e_Ub_read_52, e_Ub_read_55, e_Ub_read_57, e_Ub_read_58, e_Ub_read_61, e_Ub_read_64, e_Ub_read_65, e_Ub_read_68, e_Ub_read_69, e_Ub_read_71, e_Ub_read_74, ha5, a6, wr_id, if_neg (show ¬ (l.length : Int) ≤ 60 - gI μ 6 0 2 by omega), hre, evK_i]
          rfl
        · have hre := c_Md_refused (-7) W (by omega)
          show ev 176 0 [aR 25 0, aI s, aU, aU] [] (rf4 A 7) = _
          rw [m0 _ (fun t i j h => by rw [g_rf4 _ _ _ _ _ (by omega), ha _ _ _ (by omega)])]
          simp (disch := omega) only [e_Md_read_28, e_Md_read_31, e_Md_read_32, e_Md_read_33, e_Md_read_36, e_Md_read_39, e_Md_read_40, e_Md_read_42, e_Md_read_45, e_Md_read_46, e_Md_read_47, e_Md_read_50, e_Md_read_53, e_Md_read_54, e_Md_read_55, e_Md_read_56, e_Md_read_58, e_Md_read_61, e_Md_read_62, e_Md_read_64, e_Md_read_67, w1, evK_i, w3, if_true, e600, wr_id, if_neg (show ¬ gI μ 6 0 2 + (l.length : Int) ≤ 60 by omega), hre]
          rfl
        · unfold rf28
          rw [gI_nt _ _ _ _ _ _ _ _ (by omega), hW _ _ _ (by omega) (by omega), ha _ _ _ (by omega)]
        · have i4 := hI.2.2.2.1
          have e28 : ∀ j, gI W 28 0 j = gI μ 28 0 j := fun j => by rw [hW _ _ _ (by omega) (by omega), ha _ _ _ (by omega)]
          have e4 : ∀ j, gI A 4 0 j = gI μ 4 0 j := fun j => ha _ _ _ (by omega)
          unfold rf28
          rw [gI_nt _ _ _ _ _ _ _ _ (by decide), hW4, gI_uI, e28, e28]
          unfold rf4
          rw [gI_uI, e4, e4]
          by_cases y : r = 7
          · subst y
            rw [if_pos ⟨rfl, rfl, rfl⟩, if_pos ⟨rfl, rfl, rfl⟩, i4 _ r0 r1]
          · rw [if_neg (fun q => y q.2.2), if_neg (fun q => y q.2.2)]
            exact i4 _ r0 r1
        · unfold rf28
          rw [gI_nt _ _ _ _ _ _ _ _ (by decide), gI_nt _ _ _ _ _ _ _ _ (by decide), hW _ _ _ (by omega) (by omega), ha9, w4]
  · refine PR_rfE (r := rsn μ s) hI hr ?_ ?_
    · rw [c_Ub_refuse _ _ hr]
      show ev 90 0 [aR 0 0, aI s, aU, aU, aU] [] μ = _
      simp (disch := omega) only [e_Ub_read_0, e_Ub_read_1, e_Ub_read_2, e_Ub_read_5, e_Ub_read_6, e_Ub_read_7, e_Ub_read_10, e_Ub_read_11, e_Ub_read_12, e_Ub_read_15, hu, evK_i, if_neg (show ¬ rsn μ s = 0 by omega), c_Ub_refuse]
    · rw [c_Md_refused _ _ hr]
      have hw := c_Md_wanted s (rf4 μ (-(rsn μ s)))
      rw [wnt_rsn hI (fun j => g_rf4 _ _ _ _ _ (by decide))] at hw
      show ev 176 0 [aR 25 0, aI s, aU, aU] [] (rf4 μ (-(rsn μ s))) = _
      simp (disch := omega) only [e_Md_read_0, e_Md_read_1, e_Md_read_2, e_Md_read_5, e_Md_read_6, e_Md_read_7, e_Md_read_10, e_Md_read_11, e_Md_read_12, e_Md_read_15, hw, evK_i, if_neg (show ¬ rsn μ s = 0 by omega), c_Md_refused]
