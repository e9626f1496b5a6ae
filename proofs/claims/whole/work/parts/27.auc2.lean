/-! the auction's price and volume -/
abbrev mnI (a b : Int) : Int := if b < a then b else a
abbrev abI (a : Int) : Int := if 0 ≤ a then a else 0 - a
/-- p is better than what was found so far -/
abbrev btr (σ : aM) (aim p pr vol gap : Int) : Prop := vol < mnI (bV σ p) (sV σ p) ∨ (mnI (bV σ p) (sV σ p) = vol ∧ 0 < mnI (bV σ p) (sV σ p) ∧ (abI (bV σ p - sV σ p) < gap ∨ (abI (bV σ p - sV σ p) = gap ∧ abI (p - aim) < abI (pr - aim))))
def fdL (σ : aM) (aim : Int) : Nat → Int → Int → Int → Int → Int × Int
  | 0, _, pr, vol, _ => (pr, vol)
  | n + 1, p, pr, vol, gap => if btr σ aim p pr vol gap then fdL σ aim n (p + 1) p (mnI (bV σ p) (sV σ p)) (abI (bV σ p - sV σ p)) else fdL σ aim n (p + 1) pr vol gap
def aimN (σ : aM) : Int := if gI σ 9 0 4 = 0 then 500 else gI σ 9 0 4
def fdN (σ : aM) : Int × Int := fdL σ (aimN σ) 999 1 0 0 0
theorem vol_rg {σ : aM} {B : Int} (h : CO σ B) (hr : RG σ) (p : Int) : (0 ≤ bV σ p ∧ bV σ p ≤ 59940) ∧ (0 ≤ sV σ p ∧ sV σ p ≤ 59940) := by
  have hc := h.1
  have k1 := suF_rg (f := bV1 σ p) (m := 0) (nC σ) 0 (fun k h1 h2 => by
    have := (hr k h1 (by unfold nC at h2; omega)).1
    unfold bV1
    split <;> omega)
  have k2 := suF_rg (f := sV1 σ p) (m := 0) (nC σ) 0 (fun k h1 h2 => by
    have := (hr k h1 (by unfold nC at h2; omega)).1
    unfold sV1
    split <;> omega)
  have hn : (nC σ : Int) ≤ 60 := by unfold nC; omega
  unfold bV sV
  omega
theorem l_Auc_find (σ : aM) (aim B : Int) (h : CO σ B) (hr : RG σ) (haim : 0 ≤ aim ∧ aim ≤ 999) : ∀ (n : Nat) (p pr vol gap bu se : Int) (τ : aM) (a7 a8 a9 : AV), 1 ≤ p → p + n = 1000 → bu = bV σ p → se = sV σ (p - 1) → FrA σ τ → gI τ 13 0 2 = pr → gI τ 13 0 3 = vol → (0 ≤ pr ∧ pr ≤ 999) → (∀ q, 1 ≤ q → q < 1000 → gI τ 14 0 q = suF (bA1 σ q) (nC σ) 0 ∧ gI τ 15 0 q = suF (sA1 σ q) (nC σ) 0) → ∃ τ', ev 1 49 [aR 13 0, aR 6 0, aI aim, aI bu, aI se, aI gap, aI p, a7, a8, a9] [] τ = some (none, τ') ∧ FrA σ τ' ∧ gI τ' 13 0 2 = (fdL σ aim n p pr vol gap).1 ∧ gI τ' 13 0 3 = (fdL σ aim n p pr vol gap).2 := by
  intro n
  induction n with
  | zero =>
    intro p pr vol gap bu se τ a7 a8 a9 h0 h1 hbu hse hF hpr hvol hprr hq
    have hle : 999 < p := by omega
    refine ⟨τ, ?_, hF, hpr, hvol⟩
    rw [e_Auc_find_49]
    simp (disch := omega) only [e_Auc_find_51, e_Auc_find_54, if_pos hle]
    simp (disch := omega) only [e_Auc_find_193]
  | succ n ih =>
    intro p pr vol gap bu se τ a7 a8 a9 h0 h1 hbu hse hF hpr hvol hprr hq
    have hle : ¬ 999 < p := by omega
    have hp := hq p h0 (by omega)
    have v1 := vol_rg h hr p
    have v2 := vol_rg h hr (p - 1)
    have v3 := vol_rg h hr (p + 1)
    have s1 := bV_s σ p
    have s2 := sV_s σ (p - 1)
    rw [show p - 1 + 1 = p by omega] at s2
    have e1 : wr (se + gI τ 15 0 p) = sV σ p := by rw [hp.2, hse, ← s2, wr_id (by omega) (by omega)]
    have e2 : wr (bu - gI τ 14 0 p) = bV σ (p + 1) := by rw [hp.1, hbu, wr_id (by omega) (by omega)]; omega
    have e2' : bV σ p - gI τ 14 0 p = bV σ (p + 1) := by rw [hp.1]; omega
    have e3 : sV σ p = sV σ (p + 1 - 1) := by rw [show p + 1 - 1 = p by omega]
    rw [e_Auc_find_49, fdL]
    subst hbu
    have eH : ∃ z, z = mnI (bV σ p) (sV σ p) := ⟨_, rfl⟩
    have eG : ∃ z, z = abI (bV σ p - sV σ p) := ⟨_, rfl⟩
    have eP : ∃ z, z = abI (p - aim) := ⟨_, rfl⟩
    have eQ : ∃ z, z = abI (pr - aim) := ⟨_, rfl⟩
    obtain ⟨zH, eH⟩ := eH
    obtain ⟨zG, eG⟩ := eG
    obtain ⟨zP, eP⟩ := eP
    obtain ⟨zQ, eQ⟩ := eQ
    have hbt : btr σ aim p pr vol gap ↔ (vol < zH ∨ (zH = vol ∧ 0 < zH ∧ (zG < gap ∨ (zG = gap ∧ zP < zQ)))) := by rw [eH, eG, eP, eQ]
    have e5 : fdL σ aim n (p + 1) p (mnI (bV σ p) (sV σ p)) (abI (bV σ p - sV σ p)) = fdL σ aim n (p + 1) p zH zG := by rw [eH, eG]
    rw [e5]
    have pos : btr σ aim p pr vol gap → ∃ τ', ev 1 49 [aR 13 0, aR 6 0, aI aim, aI (bV σ (p + 1)), aI (sV σ p), aI zG, aI (p + 1), aI zH, aI zG, aI 1] [] (uI (uI τ 13 0 2 p) 13 0 3 zH) = some (none, τ') ∧ FrA σ τ' ∧ gI τ' 13 0 2 = (fdL σ aim n (p + 1) p zH zG).1 ∧ gI τ' 13 0 3 = (fdL σ aim n (p + 1) p zH zG).2 := fun _ =>
      ih (p + 1) p zH zG (bV σ (p + 1)) (sV σ p) _ _ _ _ (by omega) (by omega) rfl e3 ((hF.u _ _ _ (by omega)).u _ _ _ (by omega)) (by simp (disch := omega) only [gI_self, gI_nt, gI_nj, gL_uI, gR_uI, gI_uL, gR_uL, gI_uR, gL_uR]) (by simp (disch := omega) only [gI_self, gI_nt, gI_nj, gL_uI, gR_uI, gI_uL, gR_uL, gI_uR, gL_uR]) (by omega) (fun q q1 q2 => by simp (disch := omega) only [gI_self, gI_nt, gI_nj, gL_uI, gR_uI, gI_uL, gR_uL, gI_uR, gL_uR]; exact hq q q1 q2)
    have neg : ∃ τ', ev 1 49 [aR 13 0, aR 6 0, aI aim, aI (bV σ (p + 1)), aI (sV σ p), aI gap, aI (p + 1), aI zH, aI zG, aI 0] [] τ = some (none, τ') ∧ FrA σ τ' ∧ gI τ' 13 0 2 = (fdL σ aim n (p + 1) pr vol gap).1 ∧ gI τ' 13 0 3 = (fdL σ aim n (p + 1) pr vol gap).2 :=
      ih (p + 1) pr vol gap (bV σ (p + 1)) (sV σ p) τ _ _ _ (by omega) (by omega) rfl e3 hF hpr hvol hprr hq
    have rH : (if sV σ p < bV σ p then sV σ p else bV σ p) = zH := eH.symm
    have rG : (if 0 ≤ bV σ p - sV σ p then bV σ p - sV σ p else 0 - (bV σ p - sV σ p)) = zG := eG.symm
    have rP : (if 0 ≤ p - aim then p - aim else 0 - (p - aim)) = zP := eP.symm
    have rQ : (if 0 ≤ pr - aim then pr - aim else 0 - (pr - aim)) = zQ := eQ.symm
    simp (disch := omega) only [e_Auc_find_51, e_Auc_find_54, if_neg hle]
    simp (disch := omega) only [e_Auc_find_0, e_Auc_find_1, e_Auc_find_4, e_Auc_find_7, e_Auc_find_10, e_Auc_find_13, e_Auc_find_16, e_Auc_find_17, e_Auc_find_20, e_Auc_find_23, e_Auc_find_24, e_Auc_find_25, e_Auc_find_26, e_Auc_find_29, e_Auc_find_30, e_Auc_find_31, e_Auc_find_33, e_Auc_find_34, e_Auc_find_36, e_Auc_find_37, e_Auc_find_38, e_Auc_find_41, e_Auc_find_42, e_Auc_find_43, e_Auc_find_46, e_Auc_find_47, e_Auc_find_57, e_Auc_find_59, e_Auc_find_60, e_Auc_find_63, e_Auc_find_65, e_Auc_find_66, e_Auc_find_67, e_Auc_find_69, e_Auc_find_70, e_Auc_find_72, e_Auc_find_75, e_Auc_find_77, e_Auc_find_78, e_Auc_find_80, e_Auc_find_81, e_Auc_find_84, e_Auc_find_86, e_Auc_find_88, e_Auc_find_89, e_Auc_find_95, e_Auc_find_96, e_Auc_find_99, e_Auc_find_100, e_Auc_find_102, e_Auc_find_104, e_Auc_find_105, e_Auc_find_111, e_Auc_find_116, e_Auc_find_118, e_Auc_find_123, e_Auc_find_125, e_Auc_find_130, e_Auc_find_132, e_Auc_find_133, e_Auc_find_134, e_Auc_find_137, e_Auc_find_138, e_Auc_find_141, e_Auc_find_142, e_Auc_find_143, e_Auc_find_149, e_Auc_find_150, e_Auc_find_153, e_Auc_find_154, e_Auc_find_156, e_Auc_find_161, e_Auc_find_162, e_Auc_find_164, e_Auc_find_167, e_Auc_find_168, e_Auc_find_170, e_Auc_find_173, e_Auc_find_175, e_Auc_find_177, e_Auc_find_178, e_Auc_find_179, e_Auc_find_182, e_Auc_find_184, e_Auc_find_185, e_Auc_find_186, e_Auc_find_187, e_Auc_find_190, e_Auc_find_193, e1, wr_id, hvol, rH, rG]
    by_cases c1 : zH ≤ vol
    · by_cases c2 : zH = vol
      · by_cases c3 : zH ≤ 0
        · rw [if_neg (fun q => by have := hbt.mp q; omega)]
          obtain ⟨τ', k1, k2⟩ := neg
          refine ⟨τ', ?_, k2⟩
          subst c2
          simp (disch := omega) only [e_Auc_find_0, e_Auc_find_1, e_Auc_find_4, e_Auc_find_7, e_Auc_find_10, e_Auc_find_13, e_Auc_find_16, e_Auc_find_17, e_Auc_find_20, e_Auc_find_23, e_Auc_find_24, e_Auc_find_25, e_Auc_find_26, e_Auc_find_29, e_Auc_find_30, e_Auc_find_31, e_Auc_find_33, e_Auc_find_34, e_Auc_find_36, e_Auc_find_37, e_Auc_find_38, e_Auc_find_41, e_Auc_find_42, e_Auc_find_43, e_Auc_find_46, e_Auc_find_47, e_Auc_find_57, e_Auc_find_59, e_Auc_find_60, e_Auc_find_63, e_Auc_find_65, e_Auc_find_66, e_Auc_find_67, e_Auc_find_69, e_Auc_find_70, e_Auc_find_72, e_Auc_find_75, e_Auc_find_77, e_Auc_find_78, e_Auc_find_80, e_Auc_find_81, e_Auc_find_84, e_Auc_find_86, e_Auc_find_88, e_Auc_find_89, e_Auc_find_92, e_Auc_find_95, e_Auc_find_96, e_Auc_find_99, e_Auc_find_100, e_Auc_find_102, e_Auc_find_104, e_Auc_find_105, e_Auc_find_108, e_Auc_find_111, e_Auc_find_113, e_Auc_find_116, e_Auc_find_118, e_Auc_find_120, e_Auc_find_123, e_Auc_find_125, e_Auc_find_127, e_Auc_find_130, e_Auc_find_132, e_Auc_find_133, e_Auc_find_134, e_Auc_find_137, e_Auc_find_138, e_Auc_find_141, e_Auc_find_142, e_Auc_find_143, e_Auc_find_146, e_Auc_find_149, e_Auc_find_150, e_Auc_find_153, e_Auc_find_154, e_Auc_find_156, e_Auc_find_158, e_Auc_find_161, e_Auc_find_162, e_Auc_find_164, e_Auc_find_167, e_Auc_find_168, e_Auc_find_170, e_Auc_find_173, e_Auc_find_175, e_Auc_find_177, e_Auc_find_178, e_Auc_find_179, e_Auc_find_182, e_Auc_find_184, e_Auc_find_185, e_Auc_find_186, e_Auc_find_187, e_Auc_find_190, e_Auc_find_193, if_pos c1, not_true_eq_false, if_pos c3, hvol, if_true, if_false, e2, e2', wr_id, k1]
        · by_cases c4 : zG < gap
          · have hb := hbt.mpr (by omega)
            rw [if_pos hb]
            obtain ⟨τ', k1, k2⟩ := pos hb
            refine ⟨τ', ?_, k2⟩
            subst c2
            simp (disch := omega) only [e_Auc_find_0, e_Auc_find_1, e_Auc_find_4, e_Auc_find_7, e_Auc_find_10, e_Auc_find_13, e_Auc_find_16, e_Auc_find_17, e_Auc_find_20, e_Auc_find_23, e_Auc_find_24, e_Auc_find_25, e_Auc_find_26, e_Auc_find_29, e_Auc_find_30, e_Auc_find_31, e_Auc_find_33, e_Auc_find_34, e_Auc_find_36, e_Auc_find_37, e_Auc_find_38, e_Auc_find_41, e_Auc_find_42, e_Auc_find_43, e_Auc_find_46, e_Auc_find_47, e_Auc_find_57, e_Auc_find_59, e_Auc_find_60, e_Auc_find_63, e_Auc_find_65, e_Auc_find_66, e_Auc_find_67, e_Auc_find_69, e_Auc_find_70, e_Auc_find_72, e_Auc_find_75, e_Auc_find_77, e_Auc_find_78, e_Auc_find_80, e_Auc_find_81, e_Auc_find_84, e_Auc_find_86, e_Auc_find_88, e_Auc_find_89, e_Auc_find_92, e_Auc_find_95, e_Auc_find_96, e_Auc_find_99, e_Auc_find_100, e_Auc_find_102, e_Auc_find_104, e_Auc_find_105, e_Auc_find_108, e_Auc_find_111, e_Auc_find_113, e_Auc_find_116, e_Auc_find_118, e_Auc_find_120, e_Auc_find_123, e_Auc_find_125, e_Auc_find_127, e_Auc_find_130, e_Auc_find_132, e_Auc_find_133, e_Auc_find_134, e_Auc_find_137, e_Auc_find_138, e_Auc_find_141, e_Auc_find_142, e_Auc_find_143, e_Auc_find_146, e_Auc_find_149, e_Auc_find_150, e_Auc_find_153, e_Auc_find_154, e_Auc_find_156, e_Auc_find_158, e_Auc_find_161, e_Auc_find_162, e_Auc_find_164, e_Auc_find_167, e_Auc_find_168, e_Auc_find_170, e_Auc_find_173, e_Auc_find_175, e_Auc_find_177, e_Auc_find_178, e_Auc_find_179, e_Auc_find_182, e_Auc_find_184, e_Auc_find_185, e_Auc_find_186, e_Auc_find_187, e_Auc_find_190, e_Auc_find_193, if_pos c1, not_true_eq_false, if_neg c3, if_pos c4, hvol, if_true, if_false, one_ne, e2, e2', wr_id, k1, gI_self, gI_nt, gI_nj, gL_uI, gR_uI, gI_uL, gR_uL, gI_uR, gL_uR]
          · by_cases c5 : zG = gap
            · by_cases c6 : zQ ≤ zP
              · rw [if_neg (fun q => by have := hbt.mp q; omega)]
                obtain ⟨τ', k1, k2⟩ := neg
                refine ⟨τ', ?_, k2⟩
                subst c2; subst c5
                simp (disch := omega) only [e_Auc_find_0, e_Auc_find_1, e_Auc_find_4, e_Auc_find_7, e_Auc_find_10, e_Auc_find_13, e_Auc_find_16, e_Auc_find_17, e_Auc_find_20, e_Auc_find_23, e_Auc_find_24, e_Auc_find_25, e_Auc_find_26, e_Auc_find_29, e_Auc_find_30, e_Auc_find_31, e_Auc_find_33, e_Auc_find_34, e_Auc_find_36, e_Auc_find_37, e_Auc_find_38, e_Auc_find_41, e_Auc_find_42, e_Auc_find_43, e_Auc_find_46, e_Auc_find_47, e_Auc_find_57, e_Auc_find_59, e_Auc_find_60, e_Auc_find_63, e_Auc_find_65, e_Auc_find_66, e_Auc_find_67, e_Auc_find_69, e_Auc_find_70, e_Auc_find_72, e_Auc_find_75, e_Auc_find_77, e_Auc_find_78, e_Auc_find_80, e_Auc_find_81, e_Auc_find_84, e_Auc_find_86, e_Auc_find_88, e_Auc_find_89, e_Auc_find_92, e_Auc_find_95, e_Auc_find_96, e_Auc_find_99, e_Auc_find_100, e_Auc_find_102, e_Auc_find_104, e_Auc_find_105, e_Auc_find_108, e_Auc_find_111, e_Auc_find_113, e_Auc_find_116, e_Auc_find_118, e_Auc_find_120, e_Auc_find_123, e_Auc_find_125, e_Auc_find_127, e_Auc_find_130, e_Auc_find_132, e_Auc_find_133, e_Auc_find_134, e_Auc_find_137, e_Auc_find_138, e_Auc_find_141, e_Auc_find_142, e_Auc_find_143, e_Auc_find_146, e_Auc_find_149, e_Auc_find_150, e_Auc_find_153, e_Auc_find_154, e_Auc_find_156, e_Auc_find_158, e_Auc_find_161, e_Auc_find_162, e_Auc_find_164, e_Auc_find_167, e_Auc_find_168, e_Auc_find_170, e_Auc_find_173, e_Auc_find_175, e_Auc_find_177, e_Auc_find_178, e_Auc_find_179, e_Auc_find_182, e_Auc_find_184, e_Auc_find_185, e_Auc_find_186, e_Auc_find_187, e_Auc_find_190, e_Auc_find_193, if_pos c1, not_true_eq_false, if_neg c3, if_neg c4, wr_id, hpr, rP, rQ, if_pos c6, hvol, if_true, if_false, e2, e2', k1]
              · have hb := hbt.mpr (by omega)
                rw [if_pos hb]
                obtain ⟨τ', k1, k2⟩ := pos hb
                refine ⟨τ', ?_, k2⟩
                subst c2; subst c5
                simp (disch := omega) only [e_Auc_find_0, e_Auc_find_1, e_Auc_find_4, e_Auc_find_7, e_Auc_find_10, e_Auc_find_13, e_Auc_find_16, e_Auc_find_17, e_Auc_find_20, e_Auc_find_23, e_Auc_find_24, e_Auc_find_25, e_Auc_find_26, e_Auc_find_29, e_Auc_find_30, e_Auc_find_31, e_Auc_find_33, e_Auc_find_34, e_Auc_find_36, e_Auc_find_37, e_Auc_find_38, e_Auc_find_41, e_Auc_find_42, e_Auc_find_43, e_Auc_find_46, e_Auc_find_47, e_Auc_find_57, e_Auc_find_59, e_Auc_find_60, e_Auc_find_63, e_Auc_find_65, e_Auc_find_66, e_Auc_find_67, e_Auc_find_69, e_Auc_find_70, e_Auc_find_72, e_Auc_find_75, e_Auc_find_77, e_Auc_find_78, e_Auc_find_80, e_Auc_find_81, e_Auc_find_84, e_Auc_find_86, e_Auc_find_88, e_Auc_find_89, e_Auc_find_92, e_Auc_find_95, e_Auc_find_96, e_Auc_find_99, e_Auc_find_100, e_Auc_find_102, e_Auc_find_104, e_Auc_find_105, e_Auc_find_108, e_Auc_find_111, e_Auc_find_113, e_Auc_find_116, e_Auc_find_118, e_Auc_find_120, e_Auc_find_123, e_Auc_find_125, e_Auc_find_127, e_Auc_find_130, e_Auc_find_132, e_Auc_find_133, e_Auc_find_134, e_Auc_find_137, e_Auc_find_138, e_Auc_find_141, e_Auc_find_142, e_Auc_find_143, e_Auc_find_146, e_Auc_find_149, e_Auc_find_150, e_Auc_find_153, e_Auc_find_154, e_Auc_find_156, e_Auc_find_158, e_Auc_find_161, e_Auc_find_162, e_Auc_find_164, e_Auc_find_167, e_Auc_find_168, e_Auc_find_170, e_Auc_find_173, e_Auc_find_175, e_Auc_find_177, e_Auc_find_178, e_Auc_find_179, e_Auc_find_182, e_Auc_find_184, e_Auc_find_185, e_Auc_find_186, e_Auc_find_187, e_Auc_find_190, e_Auc_find_193, if_pos c1, not_true_eq_false, if_neg c3, if_neg c4, wr_id, hpr, rP, rQ, if_neg c6, hvol, if_true, if_false, one_ne, e2, e2', k1, gI_self, gI_nt, gI_nj, gL_uI, gR_uI, gI_uL, gR_uL, gI_uR, gL_uR]
            · rw [if_neg (fun q => by have := hbt.mp q; omega)]
              obtain ⟨τ', k1, k2⟩ := neg
              refine ⟨τ', ?_, k2⟩
              subst c2
              simp (disch := omega) only [e_Auc_find_0, e_Auc_find_1, e_Auc_find_4, e_Auc_find_7, e_Auc_find_10, e_Auc_find_13, e_Auc_find_16, e_Auc_find_17, e_Auc_find_20, e_Auc_find_23, e_Auc_find_24, e_Auc_find_25, e_Auc_find_26, e_Auc_find_29, e_Auc_find_30, e_Auc_find_31, e_Auc_find_33, e_Auc_find_34, e_Auc_find_36, e_Auc_find_37, e_Auc_find_38, e_Auc_find_41, e_Auc_find_42, e_Auc_find_43, e_Auc_find_46, e_Auc_find_47, e_Auc_find_57, e_Auc_find_59, e_Auc_find_60, e_Auc_find_63, e_Auc_find_65, e_Auc_find_66, e_Auc_find_67, e_Auc_find_69, e_Auc_find_70, e_Auc_find_72, e_Auc_find_75, e_Auc_find_77, e_Auc_find_78, e_Auc_find_80, e_Auc_find_81, e_Auc_find_84, e_Auc_find_86, e_Auc_find_88, e_Auc_find_89, e_Auc_find_92, e_Auc_find_95, e_Auc_find_96, e_Auc_find_99, e_Auc_find_100, e_Auc_find_102, e_Auc_find_104, e_Auc_find_105, e_Auc_find_108, e_Auc_find_111, e_Auc_find_113, e_Auc_find_116, e_Auc_find_118, e_Auc_find_120, e_Auc_find_123, e_Auc_find_125, e_Auc_find_127, e_Auc_find_130, e_Auc_find_132, e_Auc_find_133, e_Auc_find_134, e_Auc_find_137, e_Auc_find_138, e_Auc_find_141, e_Auc_find_142, e_Auc_find_143, e_Auc_find_146, e_Auc_find_149, e_Auc_find_150, e_Auc_find_153, e_Auc_find_154, e_Auc_find_156, e_Auc_find_158, e_Auc_find_161, e_Auc_find_162, e_Auc_find_164, e_Auc_find_167, e_Auc_find_168, e_Auc_find_170, e_Auc_find_173, e_Auc_find_175, e_Auc_find_177, e_Auc_find_178, e_Auc_find_179, e_Auc_find_182, e_Auc_find_184, e_Auc_find_185, e_Auc_find_186, e_Auc_find_187, e_Auc_find_190, e_Auc_find_193, if_pos c1, not_true_eq_false, not_false_eq_true, if_neg c3, if_neg c4, c5, hvol, if_true, if_false, e2, e2', wr_id, k1]
      · rw [if_neg (fun q => by have := hbt.mp q; omega)]
        obtain ⟨τ', k1, k2⟩ := neg
        refine ⟨τ', ?_, k2⟩
        simp (disch := omega) only [e_Auc_find_0, e_Auc_find_1, e_Auc_find_4, e_Auc_find_7, e_Auc_find_10, e_Auc_find_13, e_Auc_find_16, e_Auc_find_17, e_Auc_find_20, e_Auc_find_23, e_Auc_find_24, e_Auc_find_25, e_Auc_find_26, e_Auc_find_29, e_Auc_find_30, e_Auc_find_31, e_Auc_find_33, e_Auc_find_34, e_Auc_find_36, e_Auc_find_37, e_Auc_find_38, e_Auc_find_41, e_Auc_find_42, e_Auc_find_43, e_Auc_find_46, e_Auc_find_47, e_Auc_find_57, e_Auc_find_59, e_Auc_find_60, e_Auc_find_63, e_Auc_find_65, e_Auc_find_66, e_Auc_find_67, e_Auc_find_69, e_Auc_find_70, e_Auc_find_72, e_Auc_find_75, e_Auc_find_77, e_Auc_find_78, e_Auc_find_80, e_Auc_find_81, e_Auc_find_84, e_Auc_find_86, e_Auc_find_88, e_Auc_find_89, e_Auc_find_92, e_Auc_find_95, e_Auc_find_96, e_Auc_find_99, e_Auc_find_100, e_Auc_find_102, e_Auc_find_104, e_Auc_find_105, e_Auc_find_108, e_Auc_find_111, e_Auc_find_113, e_Auc_find_116, e_Auc_find_118, e_Auc_find_120, e_Auc_find_123, e_Auc_find_125, e_Auc_find_127, e_Auc_find_130, e_Auc_find_132, e_Auc_find_133, e_Auc_find_134, e_Auc_find_137, e_Auc_find_138, e_Auc_find_141, e_Auc_find_142, e_Auc_find_143, e_Auc_find_146, e_Auc_find_149, e_Auc_find_150, e_Auc_find_153, e_Auc_find_154, e_Auc_find_156, e_Auc_find_158, e_Auc_find_161, e_Auc_find_162, e_Auc_find_164, e_Auc_find_167, e_Auc_find_168, e_Auc_find_170, e_Auc_find_173, e_Auc_find_175, e_Auc_find_177, e_Auc_find_178, e_Auc_find_179, e_Auc_find_182, e_Auc_find_184, e_Auc_find_185, e_Auc_find_186, e_Auc_find_187, e_Auc_find_190, e_Auc_find_193, if_pos c1, c2, not_false_eq_true, hvol, if_true, if_false, e2, e2', wr_id, k1]
    · have hb := hbt.mpr (by omega)
      rw [if_pos hb]
      obtain ⟨τ', k1, k2⟩ := pos hb
      refine ⟨τ', ?_, k2⟩
      have c2 : ¬ zH = vol := by omega
      simp (disch := omega) only [e_Auc_find_0, e_Auc_find_1, e_Auc_find_4, e_Auc_find_7, e_Auc_find_10, e_Auc_find_13, e_Auc_find_16, e_Auc_find_17, e_Auc_find_20, e_Auc_find_23, e_Auc_find_24, e_Auc_find_25, e_Auc_find_26, e_Auc_find_29, e_Auc_find_30, e_Auc_find_31, e_Auc_find_33, e_Auc_find_34, e_Auc_find_36, e_Auc_find_37, e_Auc_find_38, e_Auc_find_41, e_Auc_find_42, e_Auc_find_43, e_Auc_find_46, e_Auc_find_47, e_Auc_find_57, e_Auc_find_59, e_Auc_find_60, e_Auc_find_63, e_Auc_find_65, e_Auc_find_66, e_Auc_find_67, e_Auc_find_69, e_Auc_find_70, e_Auc_find_72, e_Auc_find_75, e_Auc_find_77, e_Auc_find_78, e_Auc_find_80, e_Auc_find_81, e_Auc_find_84, e_Auc_find_86, e_Auc_find_88, e_Auc_find_89, e_Auc_find_92, e_Auc_find_95, e_Auc_find_96, e_Auc_find_99, e_Auc_find_100, e_Auc_find_102, e_Auc_find_104, e_Auc_find_105, e_Auc_find_108, e_Auc_find_111, e_Auc_find_113, e_Auc_find_116, e_Auc_find_118, e_Auc_find_120, e_Auc_find_123, e_Auc_find_125, e_Auc_find_127, e_Auc_find_130, e_Auc_find_132, e_Auc_find_133, e_Auc_find_134, e_Auc_find_137, e_Auc_find_138, e_Auc_find_141, e_Auc_find_142, e_Auc_find_143, e_Auc_find_146, e_Auc_find_149, e_Auc_find_150, e_Auc_find_153, e_Auc_find_154, e_Auc_find_156, e_Auc_find_158, e_Auc_find_161, e_Auc_find_162, e_Auc_find_164, e_Auc_find_167, e_Auc_find_168, e_Auc_find_170, e_Auc_find_173, e_Auc_find_175, e_Auc_find_177, e_Auc_find_178, e_Auc_find_179, e_Auc_find_182, e_Auc_find_184, e_Auc_find_185, e_Auc_find_186, e_Auc_find_187, e_Auc_find_190, e_Auc_find_193, if_neg c1, c2, not_false_eq_true, hvol, if_true, if_false, one_ne, e2, e2', wr_id, k1, gI_self, gI_nt, gI_nj, gL_uI, gR_uI, gI_uL, gR_uL, gI_uR, gL_uR]
theorem c_Auc_find (σ : aM) (B : Int) (h : CO σ B) (hr : RG σ) (hl : 0 ≤ gI σ 9 0 4 ∧ gI σ 9 0 4 ≤ 999) : ∃ τ, ev 1 0 [aR 13 0, aR 6 0, aU, aU, aU, aU, aU, aU, aU, aU] [] σ = some (none, τ) ∧ FrA σ τ ∧ gI τ 13 0 2 = (fdN σ).1 ∧ gI τ 13 0 3 = (fdN σ).2 := by
  have hc := h.1
  have f1 := fun τ => c_Arr_fillI τ 14 0 0 rfl rfl (by decide) 1000 rfl (by decide)
  have f2 := fun τ => c_Arr_fillI τ 15 0 0 rfl rfl (by decide) 1000 rfl (by decide)
  have hF0 : FrA σ (flI (flI σ 14 0 0 (1000 : Nat)) 15 0 0 (1000 : Nat)) := ⟨rfl, fun t i j _ h14 h15 => by
    rw [gI_flI, gI_flI, if_neg (fun q => h15 q.1), if_neg (fun q => h14 q.1)]⟩
  obtain ⟨τ1, k1, k2, k3⟩ := l_Auc_gather σ hc.2 (fun i h1 h2 => (hr i h1 h2).1) (nC σ) 0 0 _ aU (by omega) (by unfold nC; omega) (by omega) hF0 (fun p q1 q2 => by
    rw [gI_flI, gI_flI, gI_flI]
    grind)
  have hg : ev 2 0 [aR 13 0, aR 6 0, aU, aU, aU] [] σ = some (some (aI (bV σ 1)), τ1) := by
    simp (disch := omega) only [e_Auc_gather_0, e_Auc_gather_1, e_Auc_gather_4, e_Auc_gather_5, e_Auc_gather_8, e_Auc_gather_9, e_Auc_gather_12, e_Auc_gather_13, e_Auc_gather_16, e_Auc_gather_17, e_Auc_gather_18, e_Auc_gather_19, e_Auc_gather_21, e_Auc_gather_22, e_Auc_gather_25, e_Auc_gather_28, e_Auc_gather_29, e_Auc_gather_32, e_Auc_gather_33, e_Auc_gather_34, e_Auc_gather_36, e_Auc_gather_38, e_Auc_gather_41, e_Auc_gather_42, e_Auc_gather_45, e_Auc_gather_47, e_Auc_gather_50, e_Auc_gather_51, e_Auc_gather_54, e_Auc_gather_56, e_Auc_gather_59, e_Auc_gather_62, e_Auc_gather_65, e_Auc_gather_68, e_Auc_gather_70, e_Auc_gather_73, e_Auc_gather_76, e_Auc_gather_77, e_Auc_gather_80, e_Auc_gather_82, e_Auc_gather_85, e_Auc_gather_86, e_Auc_gather_87, e_Auc_gather_89, e_Auc_gather_92, e_Auc_gather_93, e_Auc_gather_94, e_Auc_gather_95, e_Auc_gather_97, e_Auc_gather_100, e_Auc_gather_101, e_Auc_gather_102, e_Auc_gather_105, e_Auc_gather_106, e_Auc_gather_109, e_Auc_gather_111, e_Auc_gather_114, e_Auc_gather_115, e_Auc_gather_116, e_Auc_gather_118, e_Auc_gather_121, e_Auc_gather_122, e_Auc_gather_123, e_Auc_gather_126, e_Auc_gather_129, e_Auc_gather_130, f1, f2, evK_v, k1]
    rw [bV_1, Int.zero_add]
  have haim : 0 ≤ aimN σ ∧ aimN σ ≤ 999 := by
    unfold aimN
    split <;> omega
  have hF1 : FrA σ (uI (uI τ1 13 0 2 0) 13 0 3 0) := (k2.u _ _ _ (by omega)).u _ _ _ (by omega)
  obtain ⟨τ2, g1, g2, g3, g4⟩ := l_Auc_find σ (aimN σ) B h hr haim 999 1 0 0 0 (bV σ 1) 0 _ aU aU aU (by omega) (by omega) rfl (sV_0 σ).symm hF1 (by simp (disch := omega) only [gI_self, gI_nt, gI_nj, gL_uI, gR_uI, gI_uL, gR_uL, gI_uR, gL_uR]) (by simp (disch := omega) only [gI_self, gI_nt, gI_nj, gL_uI, gR_uI, gI_uL, gR_uL, gI_uR, gL_uR]) (by omega) (fun q q1 q2 => by
    have := k3 q q1 q2
    rw [gI_flI, gI_flI, gI_flI] at this
    simp (disch := omega) only [gI_self, gI_nt, gI_nj, gL_uI, gR_uI, gI_uL, gR_uL, gI_uR, gL_uR]
    grind)
  refine ⟨τ2, ?_, g2, g3, g4⟩
  by_cases h4 : gI σ 9 0 4 = 0
  · have : aimN σ = 500 := if_pos h4
    rw [this] at g1
    simp (disch := omega) only [e_Auc_find_0, e_Auc_find_1, e_Auc_find_4, e_Auc_find_7, e_Auc_find_10, e_Auc_find_13, e_Auc_find_16, e_Auc_find_17, e_Auc_find_20, e_Auc_find_23, e_Auc_find_24, e_Auc_find_25, e_Auc_find_26, e_Auc_find_29, e_Auc_find_30, e_Auc_find_31, e_Auc_find_33, e_Auc_find_34, e_Auc_find_36, e_Auc_find_37, e_Auc_find_38, e_Auc_find_41, e_Auc_find_42, e_Auc_find_43, e_Auc_find_46, e_Auc_find_47, e_Auc_find_51, e_Auc_find_54, e_Auc_find_57, e_Auc_find_59, e_Auc_find_60, e_Auc_find_63, e_Auc_find_65, e_Auc_find_66, e_Auc_find_67, e_Auc_find_69, e_Auc_find_70, e_Auc_find_72, e_Auc_find_75, e_Auc_find_77, e_Auc_find_78, e_Auc_find_80, e_Auc_find_81, e_Auc_find_84, e_Auc_find_86, e_Auc_find_88, e_Auc_find_89, e_Auc_find_92, e_Auc_find_95, e_Auc_find_96, e_Auc_find_99, e_Auc_find_100, e_Auc_find_102, e_Auc_find_104, e_Auc_find_105, e_Auc_find_108, e_Auc_find_111, e_Auc_find_113, e_Auc_find_116, e_Auc_find_118, e_Auc_find_120, e_Auc_find_123, e_Auc_find_125, e_Auc_find_127, e_Auc_find_130, e_Auc_find_132, e_Auc_find_133, e_Auc_find_134, e_Auc_find_137, e_Auc_find_138, e_Auc_find_141, e_Auc_find_142, e_Auc_find_143, e_Auc_find_146, e_Auc_find_149, e_Auc_find_150, e_Auc_find_153, e_Auc_find_154, e_Auc_find_156, e_Auc_find_158, e_Auc_find_161, e_Auc_find_162, e_Auc_find_164, e_Auc_find_167, e_Auc_find_168, e_Auc_find_170, e_Auc_find_173, e_Auc_find_175, e_Auc_find_177, e_Auc_find_178, e_Auc_find_179, e_Auc_find_182, e_Auc_find_184, e_Auc_find_185, e_Auc_find_186, e_Auc_find_187, e_Auc_find_190, e_Auc_find_193, h4, not_true_eq_false, if_false, hg, evK_i, g1]
  · have : aimN σ = gI σ 9 0 4 := if_neg h4
    rw [this] at g1
    simp (disch := omega) only [e_Auc_find_0, e_Auc_find_1, e_Auc_find_4, e_Auc_find_7, e_Auc_find_10, e_Auc_find_13, e_Auc_find_16, e_Auc_find_17, e_Auc_find_20, e_Auc_find_23, e_Auc_find_24, e_Auc_find_25, e_Auc_find_26, e_Auc_find_29, e_Auc_find_30, e_Auc_find_31, e_Auc_find_33, e_Auc_find_34, e_Auc_find_36, e_Auc_find_37, e_Auc_find_38, e_Auc_find_41, e_Auc_find_42, e_Auc_find_43, e_Auc_find_46, e_Auc_find_47, e_Auc_find_51, e_Auc_find_54, e_Auc_find_57, e_Auc_find_59, e_Auc_find_60, e_Auc_find_63, e_Auc_find_65, e_Auc_find_66, e_Auc_find_67, e_Auc_find_69, e_Auc_find_70, e_Auc_find_72, e_Auc_find_75, e_Auc_find_77, e_Auc_find_78, e_Auc_find_80, e_Auc_find_81, e_Auc_find_84, e_Auc_find_86, e_Auc_find_88, e_Auc_find_89, e_Auc_find_92, e_Auc_find_95, e_Auc_find_96, e_Auc_find_99, e_Auc_find_100, e_Auc_find_102, e_Auc_find_104, e_Auc_find_105, e_Auc_find_108, e_Auc_find_111, e_Auc_find_113, e_Auc_find_116, e_Auc_find_118, e_Auc_find_120, e_Auc_find_123, e_Auc_find_125, e_Auc_find_127, e_Auc_find_130, e_Auc_find_132, e_Auc_find_133, e_Auc_find_134, e_Auc_find_137, e_Auc_find_138, e_Auc_find_141, e_Auc_find_142, e_Auc_find_143, e_Auc_find_146, e_Auc_find_149, e_Auc_find_150, e_Auc_find_153, e_Auc_find_154, e_Auc_find_156, e_Auc_find_158, e_Auc_find_161, e_Auc_find_162, e_Auc_find_164, e_Auc_find_167, e_Auc_find_168, e_Auc_find_170, e_Auc_find_173, e_Auc_find_175, e_Auc_find_177, e_Auc_find_178, e_Auc_find_179, e_Auc_find_182, e_Auc_find_184, e_Auc_find_185, e_Auc_find_186, e_Auc_find_187, e_Auc_find_190, e_Auc_find_193, h4, not_false_eq_true, if_true, hg, evK_i, g1]
