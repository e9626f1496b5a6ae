/-! is there enough; one that is settled comes in -/
theorem l_Md_enough {τ σ : aM} {c B : Int} (hS : Sim τ σ c B) (hc : 0 ≤ c ∧ c < gI τ 6 0 2) (hk : ¬ gI τ 8 c 1 = 3) : ∀ (n : Nat) (i a : Int) (a4 : AV), 0 ≤ i → i + n = gI τ 6 0 2 → (0 ≤ a ∧ a ≤ 999 * i) → ev 161 4 [aR 25 0, aI c, aI a, aI i, a4] [] σ = some (some (aI (if gI σ 26 0 (180 + c) ≤ a + enF τ c (oth (gI τ 8 c 3)) (bsP τ (oth (gI τ 8 c 3))) n i then 1 else 0)), σ) := by
  obtain ⟨hO, hI, hD, hG, hg⟩ := hS
  have hm := hO.1.1
  have hc6 := hO.1.2
  obtain ⟨ra, rb, rt, rv, rc⟩ := RO.p hO hc.1 hc.2
  obtain ⟨ia, ib, ip, idd, is, ir⟩ := IO_p hI hc.1 hc.2
  have rc := rc rfl
  have k2 := ra.2.1
  have k3 := ra.2.2.1
  have k7 := ra.2.2.2.1
  have hru := hG.1.2.1
  have ew : (1 : Int) - gI τ 8 c 3 = oth (gI τ 8 c 3) := by
    unfold oth
    have := ia.2.1
    split <;> omega
  intro n
  induction n with
  | zero =>
    intro i a a4 h0 h1 h2
    rw [e_Md_isEnough_4]
    by_cases z : gI σ 26 0 (180 + c) ≤ a
    · simp (disch := omega) only [e_Md_isEnough_5, e_Md_isEnough_6, e_Md_isEnough_9, e_Md_isEnough_12, e_Md_isEnough_13, e_Md_isEnough_137, e_Md_isEnough_138, e_Md_isEnough_139, e_Md_isEnough_142, e_Md_isEnough_145, e_Md_isEnough_146, e_Md_isEnough_147, e_Md_isEnough_148, e_Md_isEnough_151, e_Md_isEnough_152, e_Md_isEnough_155, e_Md_isEnough_156, hm, if_pos (show gI τ 6 0 2 ≤ i by omega), enF, Int.add_zero, wr_id, if_neg (show ¬ a < gI σ 26 0 (180 + c) by omega), if_pos z]
    · simp (disch := omega) only [e_Md_isEnough_5, e_Md_isEnough_6, e_Md_isEnough_9, e_Md_isEnough_12, e_Md_isEnough_13, e_Md_isEnough_137, e_Md_isEnough_138, e_Md_isEnough_139, e_Md_isEnough_142, e_Md_isEnough_145, e_Md_isEnough_146, e_Md_isEnough_147, e_Md_isEnough_148, e_Md_isEnough_151, e_Md_isEnough_152, e_Md_isEnough_155, e_Md_isEnough_156, hm, if_pos (show gI τ 6 0 2 ≤ i by omega), enF, Int.add_zero, wr_id, if_pos (show a < gI σ 26 0 (180 + c) by omega), if_neg z]
  | succ n ih =>
    intro i a a4 h0 h1 h2
    have hle : ¬ gI τ 6 0 2 ≤ i := by omega
    obtain ⟨sa, sb, st, sv, sc⟩ := RO.p hO h0 (show i < gI τ 6 0 2 by omega)
    obtain ⟨ja, jb, jp, jd, js, jr⟩ := IO_p hI h0 (show i < gI τ 6 0 2 by omega)
    have hrk := c_Md_isRanked i (oth (gI τ 8 c 3)) hO hI h0 (show i < gI τ 6 0 2 by omega)
    have hpr := c_Md_priceOf i hO hI h0 (show i < gI τ 6 0 2 by omega)
    have hwi := c_Md_isWithin (gI τ 8 c 3) (pO τ i) (gI τ 8 c 7) σ
    have q2 := sa.2.1
    have hsi := ja.2.1
    have tail0 : ev 161 77 [aR 25 0, aI c, aI a, aI i, aI 0] [] σ = some (some (aI (if gI σ 26 0 (180 + c) ≤ a + (0 + enF τ c (oth (gI τ 8 c 3)) (bsP τ (oth (gI τ 8 c 3))) n (i + 1)) then 1 else 0)), σ) := by
      have ih' := fun a4 => ih (i + 1) a a4 (by omega) (by omega) (by omega)
      simp (disch := omega) only [e_Md_isEnough_77, e_Md_isEnough_78, e_Md_isEnough_80, e_Md_isEnough_128, e_Md_isEnough_129, e_Md_isEnough_130, e_Md_isEnough_131, e_Md_isEnough_134, if_true, Int.add_zero, Int.zero_add, wr_id, ih']
    have tail1 : (0 ≤ gI σ 26 0 (180 + i) ∧ gI σ 26 0 (180 + i) ≤ 999) → ev 161 77 [aR 25 0, aI c, aI a, aI i, aI 1] [] σ = some (some (aI (if gI σ 26 0 (180 + c) ≤ a + ((if gI τ 6 0 4 = 0 ∨ ¬ gI τ 8 i 2 = gI τ 8 c 2 then gI σ 26 0 (180 + i) else 0) + enF τ c (oth (gI τ 8 c 3)) (bsP τ (oth (gI τ 8 c 3))) n (i + 1)) then 1 else 0)), σ) := fun hl => by
      have ih' := fun a4 => ih (i + 1) a a4 (by omega) (by omega) (by omega)
      have ih2 := fun a4 => ih (i + 1) (a + gI σ 26 0 (180 + i)) a4 (by omega) (by omega) (by omega)
      by_cases r0 : gI τ 6 0 4 = 0
      · rw [if_pos (show gI τ 6 0 4 = 0 ∨ ¬ gI τ 8 i 2 = gI τ 8 c 2 from Or.inl r0), ← Int.add_assoc]
        simp (disch := omega) only [e_Md_isEnough_77, e_Md_isEnough_78, e_Md_isEnough_80, e_Md_isEnough_83, e_Md_isEnough_84, e_Md_isEnough_87, e_Md_isEnough_90, e_Md_isEnough_91, e_Md_isEnough_115, e_Md_isEnough_116, e_Md_isEnough_119, e_Md_isEnough_122, e_Md_isEnough_123, e_Md_isEnough_124, e_Md_isEnough_125, e_Md_isEnough_128, e_Md_isEnough_129, e_Md_isEnough_130, e_Md_isEnough_131, e_Md_isEnough_134, one_ne, if_false, if_true, hru, r0, wr_id, ih2]
      · by_cases r1 : gI τ 8 i 2 = gI τ 8 c 2
        · rw [if_neg (show ¬ (gI τ 6 0 4 = 0 ∨ ¬ gI τ 8 i 2 = gI τ 8 c 2) from fun z => z.elim r0 (fun y => y r1)), Int.zero_add]
          simp (disch := omega) only [e_Md_isEnough_77, e_Md_isEnough_78, e_Md_isEnough_80, e_Md_isEnough_83, e_Md_isEnough_84, e_Md_isEnough_87, e_Md_isEnough_90, e_Md_isEnough_91, e_Md_isEnough_94, e_Md_isEnough_95, e_Md_isEnough_98, e_Md_isEnough_100, e_Md_isEnough_101, e_Md_isEnough_102, e_Md_isEnough_103, e_Md_isEnough_104, e_Md_isEnough_107, e_Md_isEnough_109, e_Md_isEnough_110, e_Md_isEnough_111, e_Md_isEnough_112, e_Md_isEnough_128, e_Md_isEnough_129, e_Md_isEnough_130, e_Md_isEnough_131, e_Md_isEnough_134, one_ne, if_false, hru, if_neg r0, k2, q2, if_pos r1, wr_id, Int.add_zero, ih']
        · rw [if_pos (show gI τ 6 0 4 = 0 ∨ ¬ gI τ 8 i 2 = gI τ 8 c 2 from Or.inr r1), ← Int.add_assoc]
          simp (disch := omega) only [e_Md_isEnough_77, e_Md_isEnough_78, e_Md_isEnough_80, e_Md_isEnough_83, e_Md_isEnough_84, e_Md_isEnough_87, e_Md_isEnough_90, e_Md_isEnough_91, e_Md_isEnough_94, e_Md_isEnough_95, e_Md_isEnough_98, e_Md_isEnough_100, e_Md_isEnough_101, e_Md_isEnough_102, e_Md_isEnough_103, e_Md_isEnough_104, e_Md_isEnough_107, e_Md_isEnough_109, e_Md_isEnough_110, e_Md_isEnough_111, e_Md_isEnough_112, e_Md_isEnough_115, e_Md_isEnough_116, e_Md_isEnough_119, e_Md_isEnough_122, e_Md_isEnough_123, e_Md_isEnough_124, e_Md_isEnough_125, e_Md_isEnough_128, e_Md_isEnough_129, e_Md_isEnough_130, e_Md_isEnough_131, e_Md_isEnough_134, one_ne, if_false, hru, if_neg r0, k2, q2, if_neg r1, wr_id, ih2]
    rw [e_Md_isEnough_4, enF]
    by_cases zc : i = c
    · rw [if_neg (show ¬ ((gI τ 8 i 5 = 1 ∧ gI τ 8 i 3 = oth (gI τ 8 c 3)) ∧ (gI τ 6 0 4 = 0 ∨ ¬ gI τ 8 i 2 = gI τ 8 c 2) ∧ wth τ c (prB τ i (bsP τ (oth (gI τ 8 c 3)))) (gI τ 8 c 7)) from fun z => rc.2 (zc ▸ z.1.1))]
      simp (disch := omega) only [e_Md_isEnough_5, e_Md_isEnough_6, e_Md_isEnough_9, e_Md_isEnough_12, e_Md_isEnough_13, e_Md_isEnough_16, e_Md_isEnough_17, e_Md_isEnough_18, e_Md_isEnough_74, e_Md_isEnough_75, hm, if_neg hle, if_pos zc, tail0]
    · by_cases ze : elK τ (oth (gI τ 8 c 3)) i
      · have hpe : pO τ i = prB τ i (bsP τ (oth (gI τ 8 c 3))) := by
          unfold pO pfB
          rw [if_pos ze.1.1, ze.1.2]
        have hne : ¬ prB τ i (bsP τ (oth (gI τ 8 c 3))) = 0 := ze.2
        have hl := hO.lf h0 (show i < gI τ 6 0 2 by omega) ze.1.1
        rw [if_pos ze] at hrk
        rw [hpe] at hpr hwi
        by_cases zw : gI τ 8 c 7 = 0 ∨ (gI τ 8 c 3 = 0 ∧ prB τ i (bsP τ (oth (gI τ 8 c 3))) ≤ gI τ 8 c 7) ∨ (¬ gI τ 8 c 3 = 0 ∧ gI τ 8 c 7 ≤ prB τ i (bsP τ (oth (gI τ 8 c 3))))
        · have hwt : wth τ c (prB τ i (bsP τ (oth (gI τ 8 c 3)))) (gI τ 8 c 7) := ⟨hne, zw.elim (fun y => by have := ip hk; omega) id⟩
          rw [if_pos zw] at hwi
          have e : (if (gI τ 8 i 5 = 1 ∧ gI τ 8 i 3 = oth (gI τ 8 c 3)) ∧ (gI τ 6 0 4 = 0 ∨ ¬ gI τ 8 i 2 = gI τ 8 c 2) ∧ wth τ c (prB τ i (bsP τ (oth (gI τ 8 c 3)))) (gI τ 8 c 7) then gI τ 8 i 4 else 0) = if gI τ 6 0 4 = 0 ∨ ¬ gI τ 8 i 2 = gI τ 8 c 2 then gI σ 26 0 (180 + i) else 0 := by
            by_cases r : gI τ 6 0 4 = 0 ∨ ¬ gI τ 8 i 2 = gI τ 8 c 2
            · rw [if_pos ⟨ze.1, r, hwt⟩, if_pos r, hl]
            · rw [if_neg (fun z => r z.2.1), if_neg r]
          rw [e, ← tail1 (by rw [hl]; exact jb.1)]
          simp (disch := omega) only [e_Md_isEnough_5, e_Md_isEnough_6, e_Md_isEnough_9, e_Md_isEnough_12, e_Md_isEnough_13, e_Md_isEnough_16, e_Md_isEnough_17, e_Md_isEnough_18, e_Md_isEnough_21, e_Md_isEnough_22, e_Md_isEnough_23, e_Md_isEnough_24, e_Md_isEnough_25, e_Md_isEnough_28, e_Md_isEnough_30, e_Md_isEnough_31, e_Md_isEnough_32, e_Md_isEnough_33, e_Md_isEnough_34, e_Md_isEnough_37, e_Md_isEnough_40, e_Md_isEnough_41, e_Md_isEnough_44, e_Md_isEnough_46, e_Md_isEnough_47, e_Md_isEnough_48, e_Md_isEnough_49, e_Md_isEnough_50, e_Md_isEnough_51, e_Md_isEnough_54, e_Md_isEnough_55, e_Md_isEnough_58, e_Md_isEnough_61, e_Md_isEnough_62, e_Md_isEnough_63, e_Md_isEnough_64, e_Md_isEnough_67, e_Md_isEnough_70, e_Md_isEnough_71, e_Md_isEnough_74, e_Md_isEnough_75, hm, if_neg hle, if_neg zc, k3, ew, k7, wr_id, hrk, hpr, hwi, evK_i, one_ne, if_false]
        · rw [if_neg zw] at hwi
          rw [if_neg (show ¬ ((gI τ 8 i 5 = 1 ∧ gI τ 8 i 3 = oth (gI τ 8 c 3)) ∧ (gI τ 6 0 4 = 0 ∨ ¬ gI τ 8 i 2 = gI τ 8 c 2) ∧ wth τ c (prB τ i (bsP τ (oth (gI τ 8 c 3)))) (gI τ 8 c 7)) from fun z => zw (Or.inr z.2.2.2))]
          simp (disch := omega) only [e_Md_isEnough_5, e_Md_isEnough_6, e_Md_isEnough_9, e_Md_isEnough_12, e_Md_isEnough_13, e_Md_isEnough_16, e_Md_isEnough_17, e_Md_isEnough_18, e_Md_isEnough_21, e_Md_isEnough_22, e_Md_isEnough_23, e_Md_isEnough_24, e_Md_isEnough_25, e_Md_isEnough_28, e_Md_isEnough_30, e_Md_isEnough_31, e_Md_isEnough_32, e_Md_isEnough_33, e_Md_isEnough_34, e_Md_isEnough_37, e_Md_isEnough_40, e_Md_isEnough_41, e_Md_isEnough_44, e_Md_isEnough_46, e_Md_isEnough_47, e_Md_isEnough_48, e_Md_isEnough_49, e_Md_isEnough_50, e_Md_isEnough_51, e_Md_isEnough_54, e_Md_isEnough_55, e_Md_isEnough_58, e_Md_isEnough_61, e_Md_isEnough_62, e_Md_isEnough_63, e_Md_isEnough_64, e_Md_isEnough_67, e_Md_isEnough_70, e_Md_isEnough_71, e_Md_isEnough_74, e_Md_isEnough_75, hm, if_neg hle, if_neg zc, k3, ew, k7, wr_id, hrk, hpr, hwi, evK_i, one_ne, if_false, if_true, tail0]
      · rw [if_neg ze] at hrk
        rw [if_neg (show ¬ ((gI τ 8 i 5 = 1 ∧ gI τ 8 i 3 = oth (gI τ 8 c 3)) ∧ (gI τ 6 0 4 = 0 ∨ ¬ gI τ 8 i 2 = gI τ 8 c 2) ∧ wth τ c (prB τ i (bsP τ (oth (gI τ 8 c 3)))) (gI τ 8 c 7)) from fun z => ze ⟨z.1, z.2.2.1⟩)]
        simp (disch := omega) only [e_Md_isEnough_5, e_Md_isEnough_6, e_Md_isEnough_9, e_Md_isEnough_12, e_Md_isEnough_13, e_Md_isEnough_16, e_Md_isEnough_17, e_Md_isEnough_18, e_Md_isEnough_21, e_Md_isEnough_22, e_Md_isEnough_23, e_Md_isEnough_24, e_Md_isEnough_25, e_Md_isEnough_28, e_Md_isEnough_30, e_Md_isEnough_31, e_Md_isEnough_32, e_Md_isEnough_33, e_Md_isEnough_34, e_Md_isEnough_37, e_Md_isEnough_74, e_Md_isEnough_75, hm, if_neg hle, if_neg zc, k3, ew, wr_id, hrk, evK_i, if_true, tail0]
theorem c_Md_isEnough {τ σ : aM} {c B : Int} (hS : Sim τ σ c B) (hc : 0 ≤ c ∧ c < gI τ 6 0 2) (hk : ¬ gI τ 8 c 1 = 3) (hL : gI σ 26 0 (180 + c) = gI τ 8 c 4) : ev 161 0 [aR 25 0, aI c, aU, aU, aU] [] σ = some (some (aI (if enou τ c then 1 else 0)), σ) := by
  have h := fun a4 => l_Md_enough hS hc hk (gI τ 6 0 2).toNat 0 0 a4 (by omega) (by omega) (by omega)
  simp only [hL, Int.zero_add] at h
  simp (disch := omega) only [e_Md_isEnough_0, e_Md_isEnough_1, e_Md_isEnough_2, e_Md_isEnough_3, h]
