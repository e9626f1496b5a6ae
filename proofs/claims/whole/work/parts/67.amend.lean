/-! amendments -/
theorem keep_Sim {τ σ σ' : aM} {o q B : Int} (hS : Sim τ σ (-1) B) (ho : 0 ≤ o ∧ o < gI τ 6 0 2) (h5 : gI τ 8 o 5 = 1) (hq : 1 ≤ q ∧ q ≤ gI τ 8 o 4) (ss : ∀ k, ¬ k = 180 + o → ¬ k = 420 + o → gI σ' 26 0 k = gI σ 26 0 k) (s4 : gI σ' 26 0 (180 + o) = q) (s9 : gI τ 8 o 1 = 2 → gI σ' 26 0 (420 + o) = if q < gI τ 8 o 9 then q else gI τ 8 o 9) : Sim (kLs τ o q) σ' (-1) B := by
  have c4 : gI (kLs τ o q) 8 o 4 = q := by unfold kLs; simp (disch := omega) only [gI_self, gI_nt, gI_nj, gL_uI, gR_uI, gI_uL, gR_uL, gI_uR, gL_uR]
  have c9 : gI (kLs τ o q) 8 o 9 = if q < gI τ 8 o 9 then q else gI τ 8 o 9 := by unfold kLs; simp (disch := omega) only [gI_self, gI_nt, gI_nj, gL_uI, gR_uI, gI_uL, gR_uL, gI_uR, gL_uR]
  have ct : ∀ t i j, ¬ (t = 8 ∧ i = o ∧ (j = 4 ∨ j = 9)) → gI (kLs τ o q) t i j = gI τ t i j := fun t i j z => by
    unfold kLs
    rw [gI_uI, if_neg (fun y => z ⟨y.1, y.2.1, Or.inr y.2.2⟩), gI_uI, if_neg (fun y => z ⟨y.1, y.2.1, Or.inl y.2.2⟩)]
  generalize kLs τ o q = τ' at c4 c9 ct ⊢
  obtain ⟨hO, hI, hD, hG, hg⟩ := hS
  have hc6 := hO.1.2
  obtain ⟨ra, rb, rt, rv, rc⟩ := RO.p hO ho.1 ho.2
  obtain ⟨ia, ib, ip, idd, is, ir⟩ := IO_p hI ho.1 ho.2
  have rb := rb (by omega)
  have ir := ir h5
  have kj : ∀ j, ¬ (j = 4 ∨ j = 9) → gI τ' 8 o j = gI τ 8 o j := fun j z => ct _ _ _ (fun y => z y.2.2)
  have k5 : gI τ' 8 o 5 = 1 := by rw [kj 5 (by omega)]; exact h5
  have hU := updO (τ' := τ') (σ' := σ') (c' := -1) (f0 := o) (fun i => i = o) hO hI hD (ct _ _ _ (by omega)) (by rw [ct _ _ _ (by omega)]; exact Int.le_refl _) (ss _ (by omega) (by omega)) (fun i i0 i1 hm => ⟨EqC_of (fun j => ct _ _ _ (fun z => hm z.2.1)), EqS_of i0 (by omega) (fun k _ _ _ => ss k (by omega) (by omega)), Iff.rfl⟩) (fun i i0 i1 hm => ?_)
  · exact ⟨hU.1, hU.2.1, hU.2.2, GL_same hG (fun k _ => ss k (by omega) (by omega)) (fun t i j z => ct _ _ _ (fun y => z y.1)), IG_same hg (fun t i j z => ct _ _ _ (fun y => z y.1)) (fun i => ct _ _ _ (by omega))⟩
  · subst hm
    refine ⟨⟨?_, fun _ => ⟨?_, ?_, ?_⟩, fun _ => ?_, fun _ z2 => ?_, fun z => by omega⟩, ⟨?_, ?_, ?_, ?_, fun _ => ?_, fun _ => ?_⟩, fun _ => Or.inl ⟨h5, kj 10 (by omega)⟩⟩
    · rw [ss _ (by omega) (by omega), ss _ (by omega) (by omega), ss _ (by omega) (by omega), ss _ (by omega) (by omega), ss _ (by omega) (by omega), kj 1 (by omega), kj 2 (by omega), kj 3 (by omega), kj 7 (by omega), kj 8 (by omega)]; exact ra
    · rw [s4, c4]
    · rw [ss _ (by omega) (by omega), k5, rb.2.1, h5]
    · rw [ss _ (by omega) (by omega), kj 6 (by omega), rb.2.2]
    · rw [ss _ (by omega) (by omega), kj 10 (by omega)]; exact rt h5
    · rw [kj 1 (by omega)] at z2
      rw [s9 z2, c9]
    · rw [kj 1 (by omega), kj 2 (by omega), kj 3 (by omega)]; exact ia
    · rw [c4, kj 7 (by omega), kj 8 (by omega), kj 6 (by omega)]; exact ⟨by omega, ib.2⟩
    · rw [kj 1 (by omega), kj 7 (by omega)]; exact ip
    · rw [kj 1 (by omega), kj 8 (by omega)]; exact idd
    · rw [k5]; exact ⟨by omega, fun z => by omega⟩
    · rw [kj 1 (by omega), c4, kj 10 (by omega), ct 6 0 6 (by omega), c9]
      refine ⟨ir.1, hq.1, ir.2.2.1, fun z => ?_⟩
      have := ir.2.2.2 z
      split <;> omega
theorem kAl_CO {σ : aM} {B : Int} (h : CO σ B) (hB : B + 64599 < 2147483647) (i q p : Int) : CO (kAl σ i q p) (B + 64599) := (kWs_CO (kA1_CO h (by omega) i q p) (by omega)).mono (by omega)
theorem kAl_cnt (σ : aM) (i q p : Int) : gI (kAl σ i q p) 6 0 2 = gI σ 6 0 2 := by
  unfold kAl
  rw [(kWs_fr _).g (by simp [chg]), kA1_cnt]
/-- what the reference makes of an amendment, behind its tests -/
theorem amend_M {τ σ : aM} {o q p B : Int} (hS : Sim τ σ (-1) B) (hB : B + 64660 < 2147483647) (ho : 0 ≤ o ∧ o < gI τ 6 0 2) (h5 : gI τ 8 o 5 = 1 ∨ gI τ 8 o 5 = 0) (h3 : ¬ gI τ 8 o 1 = 3) (hq : 1 ≤ q ∧ q ≤ 999) (hp : 1 ≤ p ∧ p ≤ 999) :
    ∃ σ', ev 180 55 [aR 25 0, aI o, aI q, aI p, aU, aU] [] σ = some (some (aI (wr (gI (kAl τ o q p) 8 o 6 - gI τ 8 o 6))), σ') ∧ Sim (kAl τ o q p) σ' (-1) (B + 64660) ∧ FrM σ σ' := by
  have hc6 := hS.1.1.2
  obtain ⟨ra, rb, rt, rv, rc⟩ := RO.p hS.1 ho.1 ho.2
  obtain ⟨ia, ib, ip, idd, is, ir⟩ := IO_p hS.2.1 ho.1 ho.2
  have rb := rb (by omega)
  have is := is (by omega)
  obtain ⟨M, hM⟩ : ∃ M, M = uI (uI σ 26 0 (180 + o) q) 26 0 (300 + o) p := ⟨_, rfl⟩
  have mk : ∀ k, ¬ k = 180 + o → ¬ k = 300 + o → gI M 26 0 k = gI σ 26 0 k := fun k z1 z2 => by rw [hM, gI_nj _ _ _ _ _ _ _ _ z2, gI_nj _ _ _ _ _ _ _ _ z1]
  have m4 : gI M 26 0 (180 + o) = q := by rw [hM, gI_nj _ _ _ _ _ _ _ _ (by omega), gI_self]
  have m7 : gI M 26 0 (300 + o) = p := by rw [hM, gI_self]
  have hFM : FrM σ M := by rw [hM]; exact ((FrM.rfl σ).u _ _ _ (Or.inl rfl)).u _ _ _ (Or.inl rfl)
  have hdr := c_Md_doesRest o σ ⟨ho.1, by omega⟩
  have e1 := ra.1
  have e5 := rb.2.1
  have e4 := rb.1
  have e6 := rb.2.2
  have e7 := ra.2.2.2.1
  rw [e5] at hdr
  have cnt : gI (kAl τ o q p) 6 0 2 = gI τ 6 0 2 := kAl_cnt τ o q p
  have fin : ∀ (a5 : Int) (σ2 : aM), Sim (kAl τ o q p) σ2 (-1) (B + 64660) → ev 180 206 [aR 25 0, aI o, aI q, aI p, aI (gI τ 8 o 6), aI a5] [] σ2 = some (some (aI (wr (gI (kAl τ o q p) 8 o 6 - gI τ 8 o 6))), σ2) := fun a5 σ2 hS2 => by
    have h6 := ((RO.p hS2.1 ho.1 (by omega)).2.1 (by omega)).2.2
    simp (disch := omega) only [e_Md_amend_206, e_Md_amend_207, e_Md_amend_210, e_Md_amend_213, e_Md_amend_214, e_Md_amend_215, e_Md_amend_216, e_Md_amend_218, e_Md_amend_219, wr_id, h6]
  have keep : ∃ a5 : Int, (a5 = 0 ∨ a5 = 1) ∧ (a5 = 1 ↔ (gI τ 8 o 5 = 1 ∧ gI τ 8 o 7 = p ∧ q ≤ gI τ 8 o 4)) ∧ ev 180 55 [aR 25 0, aI o, aI q, aI p, aU, aU] [] σ = ev 180 132 [aR 25 0, aI o, aI q, aI p, aI (gI τ 8 o 6), aI a5] [] M := by
    by_cases z1 : gI τ 8 o 5 = 1
    · by_cases z2 : gI τ 8 o 7 = p
      · by_cases z3 : q ≤ gI τ 8 o 4
        · refine ⟨1, by omega, ⟨fun _ => ⟨z1, z2, z3⟩, fun _ => rfl⟩, ?_⟩
          rw [if_pos z1] at hdr
          simp (disch := omega) only [e_Md_amend_55, e_Md_amend_56, e_Md_amend_59, e_Md_amend_62, e_Md_amend_63, e_Md_amend_64, e_Md_amend_65, e_Md_amend_67, e_Md_amend_68, e_Md_amend_69, e_Md_amend_72, e_Md_amend_75, e_Md_amend_76, e_Md_amend_79, e_Md_amend_82, e_Md_amend_83, e_Md_amend_84, e_Md_amend_85, e_Md_amend_86, e_Md_amend_89, e_Md_amend_90, e_Md_amend_91, e_Md_amend_94, e_Md_amend_97, e_Md_amend_98, e_Md_amend_99, e_Md_amend_100, e_Md_amend_103, e_Md_amend_104, e_Md_amend_107, e_Md_amend_108, e_Md_amend_110, e_Md_amend_111, e_Md_amend_114, e_Md_amend_117, e_Md_amend_118, e_Md_amend_119, e_Md_amend_120, e_Md_amend_121, e_Md_amend_122, e_Md_amend_125, e_Md_amend_128, e_Md_amend_129, e_Md_amend_130, e_Md_amend_131, wr_id, hdr, evK_i, one_ne, if_false, e7, z2, not_true_eq_false, e4, if_neg (show ¬ gI τ 8 o 4 < q by omega), e6, hM]
        · refine ⟨0, by omega, ⟨fun y => by omega, fun y => absurd y.2.2 z3⟩, ?_⟩
          rw [if_pos z1] at hdr
          simp (disch := omega) only [e_Md_amend_55, e_Md_amend_56, e_Md_amend_59, e_Md_amend_62, e_Md_amend_63, e_Md_amend_64, e_Md_amend_65, e_Md_amend_67, e_Md_amend_68, e_Md_amend_69, e_Md_amend_72, e_Md_amend_75, e_Md_amend_76, e_Md_amend_79, e_Md_amend_82, e_Md_amend_83, e_Md_amend_84, e_Md_amend_85, e_Md_amend_86, e_Md_amend_89, e_Md_amend_90, e_Md_amend_91, e_Md_amend_94, e_Md_amend_97, e_Md_amend_98, e_Md_amend_99, e_Md_amend_100, e_Md_amend_103, e_Md_amend_104, e_Md_amend_107, e_Md_amend_108, e_Md_amend_110, e_Md_amend_111, e_Md_amend_114, e_Md_amend_117, e_Md_amend_118, e_Md_amend_119, e_Md_amend_120, e_Md_amend_121, e_Md_amend_122, e_Md_amend_125, e_Md_amend_128, e_Md_amend_129, e_Md_amend_130, e_Md_amend_131, wr_id, hdr, evK_i, one_ne, if_false, e7, z2, not_true_eq_false, e4, if_pos (show gI τ 8 o 4 < q by omega), e6, hM]
      · refine ⟨0, by omega, ⟨fun y => by omega, fun y => absurd y.2.1 z2⟩, ?_⟩
        rw [if_pos z1] at hdr
        simp (disch := omega) only [e_Md_amend_55, e_Md_amend_56, e_Md_amend_59, e_Md_amend_62, e_Md_amend_63, e_Md_amend_64, e_Md_amend_65, e_Md_amend_67, e_Md_amend_68, e_Md_amend_69, e_Md_amend_72, e_Md_amend_75, e_Md_amend_76, e_Md_amend_79, e_Md_amend_82, e_Md_amend_83, e_Md_amend_84, e_Md_amend_85, e_Md_amend_86, e_Md_amend_89, e_Md_amend_90, e_Md_amend_91, e_Md_amend_94, e_Md_amend_97, e_Md_amend_98, e_Md_amend_99, e_Md_amend_100, e_Md_amend_103, e_Md_amend_104, e_Md_amend_107, e_Md_amend_108, e_Md_amend_110, e_Md_amend_111, e_Md_amend_114, e_Md_amend_117, e_Md_amend_118, e_Md_amend_119, e_Md_amend_120, e_Md_amend_121, e_Md_amend_122, e_Md_amend_125, e_Md_amend_128, e_Md_amend_129, e_Md_amend_130, e_Md_amend_131, wr_id, hdr, evK_i, one_ne, if_false, e7, z2, not_false_eq_true, if_true, e6, hM]
    · refine ⟨0, by omega, ⟨fun y => by omega, fun y => absurd y.1 z1⟩, ?_⟩
      rw [if_neg z1] at hdr
      simp (disch := omega) only [e_Md_amend_55, e_Md_amend_56, e_Md_amend_59, e_Md_amend_62, e_Md_amend_63, e_Md_amend_64, e_Md_amend_65, e_Md_amend_67, e_Md_amend_68, e_Md_amend_69, e_Md_amend_72, e_Md_amend_75, e_Md_amend_76, e_Md_amend_79, e_Md_amend_82, e_Md_amend_83, e_Md_amend_84, e_Md_amend_85, e_Md_amend_86, e_Md_amend_89, e_Md_amend_90, e_Md_amend_91, e_Md_amend_94, e_Md_amend_97, e_Md_amend_98, e_Md_amend_99, e_Md_amend_100, e_Md_amend_103, e_Md_amend_104, e_Md_amend_107, e_Md_amend_108, e_Md_amend_110, e_Md_amend_111, e_Md_amend_114, e_Md_amend_117, e_Md_amend_118, e_Md_amend_119, e_Md_amend_120, e_Md_amend_121, e_Md_amend_122, e_Md_amend_125, e_Md_amend_128, e_Md_amend_129, e_Md_amend_130, e_Md_amend_131, wr_id, hdr, evK_i, if_true, e6, hM]
  obtain ⟨a5, ha, hk, h0⟩ := keep
  rw [h0]
  have m1 : gI M 26 0 o = gI τ 8 o 1 := by rw [mk _ (by omega) (by omega)]; exact e1
  -- one that leaves and comes
  have lv : ∀ τ1, (∀ t i k, ¬ (t = 8 ∧ i = o ∧ (k = 4 ∨ k = 5 ∨ k = 7)) → gI τ1 t i k = gI τ t i k) → gI τ1 8 o 5 = 4 → gI τ1 8 o 4 = q → gI τ1 8 o 7 = p → Sim τ1 (uI M 26 0 (240 + o) 3) o B ∧ CC τ1 o := fun τ1 tt t5 t4 t7 => leave_Sim (q := q) (p := p) hS ho (by omega) ⟨by omega, fun _ => hp.1⟩ t5 t4 t7 tt (gI_self _ _ _ _ _) (by rw [gI_nj _ _ _ _ _ _ _ _ (by omega)]; exact m7) (fun k y1 y2 y3 => by rw [gI_nj _ _ _ _ _ _ _ _ y1, mk k y2 y3])
  by_cases c4 : gI τ 8 o 1 = 4
  · have eA : kAl τ o q p = kWs (uI (uI τ 8 o 4 q) 8 o 7 p) := by unfold kAl kA1; rw [if_pos c4]
    rw [eA] at fin ⊢
    have s0 : gI τ 8 o 5 = 0 := h5.elim (fun y => absurd c4 (ir y).1) id
    obtain ⟨k1, k2⟩ := lv (uI (uI (uI τ 8 o 4 q) 8 o 7 p) 8 o 5 4) (fun t i k z => by
      rw [gI_uI, if_neg (fun y => z ⟨y.1, y.2.1, Or.inr (Or.inl y.2.2)⟩), gI_uI, if_neg (fun y => z ⟨y.1, y.2.1, Or.inr (Or.inr y.2.2)⟩), gI_uI, if_neg (fun y => z ⟨y.1, y.2.1, Or.inl y.2.2⟩)]) (gI_self _ _ _ _ _) (by simp (disch := omega) only [gI_self, gI_nt, gI_nj, gL_uI, gR_uI, gI_uL, gR_uL, gI_uR, gL_uR]) (by simp (disch := omega) only [gI_self, gI_nt, gI_nj, gL_uI, gR_uI, gI_uL, gR_uL, gI_uR, gL_uR])
    have hst := settle (τ' := uI (uI τ 8 o 4 q) 8 o 7 p) (σ' := M) (v := 0) k1 ⟨ho.1, by simp (disch := omega) only [gI_self, gI_nt, gI_nj, gL_uI, gR_uI, gI_uL, gR_uL, gI_uR, gL_uR]; exact ho.2⟩ (by simp (disch := omega) only [gI_self, gI_nt, gI_nj, gL_uI, gR_uI, gI_uL, gR_uL, gI_uR, gL_uR]; exact m4) (by simp (disch := omega) only [gI_self, gI_nt, gI_nj, gL_uI, gR_uI, gI_uL, gR_uL, gI_uR, gL_uR]; rw [mk _ (by omega) (by omega), e6]) (Or.inr (Or.inr ⟨rfl, by simp (disch := omega) only [gI_self, gI_nt, gI_nj, gL_uI, gR_uI, gI_uL, gR_uL, gI_uR, gL_uR]; exact c4, by simp (disch := omega) only [gI_self, gI_nt, gI_nj, gL_uI, gR_uI, gI_uL, gR_uL, gI_uR, gL_uR]; omega⟩)) (by simp (disch := omega) only [gI_self, gI_nt, gI_nj, gL_uI, gR_uI, gI_uL, gR_uL, gI_uR, gL_uR]; exact s0) (fun t i j z => (by rw [gI_uI, if_neg z] : gI (uI (uI (uI τ 8 o 4 q) 8 o 7 p) 8 o 5 4) t i j = gI (uI (uI τ 8 o 4 q) 8 o 7 p) t i j).symm) (by rw [mk _ (by omega) (by omega), e5, s0]) (fun k z => (gI_nj _ _ _ _ _ _ _ _ z).symm)
    obtain ⟨σ2, j1, j2, j3⟩ := c_Md_stops hst (by omega)
    refine ⟨σ2, ?_, Sim_mono j2 (by omega), hFM.trans j3⟩
    have f := fin a5 σ2 (Sim_mono j2 (by omega))
    simp (disch := omega) only [e_Md_amend_132, e_Md_amend_133, e_Md_amend_136, e_Md_amend_137, e_Md_amend_138, e_Md_amend_139, e_Md_amend_140, e_Md_amend_141, e_Md_amend_144, e_Md_amend_145, e_Md_amend_148, wr_id, Int.zero_add, m1, c4, not_true_eq_false, if_false, j1, evK_v, f]
  · have s1 : gI τ 8 o 5 = 1 := h5.elim id (fun y => absurd (is.2 y).1 c4)
    by_cases kp : gI τ 8 o 7 = p ∧ q ≤ gI τ 8 o 4
    · have a1 : a5 = 1 := hk.mpr ⟨s1, kp.1, kp.2⟩
      have eA : kAl τ o q p = kWs (kLs τ o q) := by unfold kAl kA1; rw [if_neg c4, if_pos ⟨kp.1.symm, kp.2⟩]
      rw [eA] at fin ⊢
      have m9 : gI τ 8 o 1 = 2 → gI M 26 0 (420 + o) = gI τ 8 o 9 := fun z => by rw [mk _ (by omega) (by omega)]; exact rv s1 z
      have mm : ∀ k, ¬ k = 180 + o → gI M 26 0 k = gI σ 26 0 k := fun k z1 => by
        by_cases z2 : k = 300 + o
        · rw [z2, m7, e7, kp.1]
        · exact mk k z1 z2
      by_cases g : gI τ 8 o 1 = 2 ∧ q < gI τ 8 o 9
      · have hst := keep_Sim (σ' := uI M 26 0 (420 + o) q) hS ho s1 ⟨hq.1, kp.2⟩ (fun k y1 y2 => by rw [gI_nj _ _ _ _ _ _ _ _ y2, mm k y1]) (by rw [gI_nj _ _ _ _ _ _ _ _ (by omega)]; exact m4) (fun z => by rw [gI_self, if_pos g.2])
        obtain ⟨σ2, j1, j2, j3⟩ := c_Md_stops hst (by omega)
        refine ⟨σ2, ?_, Sim_mono j2 (by omega), (hFM.u _ _ _ (Or.inl rfl)).trans j3⟩
        have f := fin a5 σ2 (Sim_mono j2 (by omega))
        subst a1
        simp (disch := omega) only [e_Md_amend_132, e_Md_amend_133, e_Md_amend_136, e_Md_amend_137, e_Md_amend_138, e_Md_amend_139, e_Md_amend_140, e_Md_amend_141, e_Md_amend_144, e_Md_amend_145, e_Md_amend_148, e_Md_amend_151, e_Md_amend_153, e_Md_amend_156, e_Md_amend_157, e_Md_amend_160, e_Md_amend_161, e_Md_amend_162, e_Md_amend_163, e_Md_amend_164, e_Md_amend_165, e_Md_amend_168, e_Md_amend_169, e_Md_amend_172, e_Md_amend_175, e_Md_amend_176, e_Md_amend_177, e_Md_amend_178, e_Md_amend_179, e_Md_amend_182, e_Md_amend_183, e_Md_amend_186, e_Md_amend_189, e_Md_amend_190, e_Md_amend_191, e_Md_amend_192, e_Md_amend_193, e_Md_amend_194, e_Md_amend_197, wr_id, Int.zero_add, m1, g.1, not_true_eq_false, not_false_eq_true, if_true, if_false, one_ne, m9 g.1, if_neg (show ¬ gI τ 8 o 9 ≤ q by omega), j1, evK_v, f, show ¬ (2 : Int) = 4 by decide]
      · have hst := keep_Sim (σ' := M) hS ho s1 ⟨hq.1, kp.2⟩ (fun k y1 y2 => mm k y1) m4 (fun z => by rw [m9 z, if_neg (fun y => g ⟨z, y⟩)])
        obtain ⟨σ2, j1, j2, j3⟩ := c_Md_stops hst (by omega)
        refine ⟨σ2, ?_, Sim_mono j2 (by omega), hFM.trans j3⟩
        have f := fin a5 σ2 (Sim_mono j2 (by omega))
        subst a1
        by_cases g1 : gI τ 8 o 1 = 2
        · simp (disch := omega) only [e_Md_amend_132, e_Md_amend_133, e_Md_amend_136, e_Md_amend_137, e_Md_amend_138, e_Md_amend_139, e_Md_amend_140, e_Md_amend_141, e_Md_amend_144, e_Md_amend_145, e_Md_amend_148, e_Md_amend_151, e_Md_amend_153, e_Md_amend_156, e_Md_amend_157, e_Md_amend_160, e_Md_amend_161, e_Md_amend_162, e_Md_amend_163, e_Md_amend_164, e_Md_amend_165, e_Md_amend_168, e_Md_amend_169, e_Md_amend_172, e_Md_amend_175, e_Md_amend_176, e_Md_amend_177, e_Md_amend_178, e_Md_amend_179, e_Md_amend_182, e_Md_amend_183, e_Md_amend_186, e_Md_amend_189, e_Md_amend_190, e_Md_amend_191, e_Md_amend_192, e_Md_amend_193, e_Md_amend_194, e_Md_amend_197, wr_id, Int.zero_add, m1, g1, not_true_eq_false, not_false_eq_true, if_true, if_false, one_ne, m9 g1, if_pos (show gI τ 8 o 9 ≤ q from Int.not_lt.mp (fun y => g ⟨g1, y⟩)), j1, evK_v, f, show ¬ (2 : Int) = 4 by decide]
        · simp (disch := omega) only [e_Md_amend_132, e_Md_amend_133, e_Md_amend_136, e_Md_amend_137, e_Md_amend_138, e_Md_amend_139, e_Md_amend_140, e_Md_amend_141, e_Md_amend_144, e_Md_amend_145, e_Md_amend_148, e_Md_amend_151, e_Md_amend_153, e_Md_amend_156, e_Md_amend_157, e_Md_amend_160, e_Md_amend_161, e_Md_amend_162, e_Md_amend_163, e_Md_amend_164, e_Md_amend_165, e_Md_amend_168, e_Md_amend_169, e_Md_amend_172, e_Md_amend_175, e_Md_amend_176, e_Md_amend_177, e_Md_amend_178, e_Md_amend_179, e_Md_amend_182, e_Md_amend_183, e_Md_amend_186, e_Md_amend_189, e_Md_amend_190, e_Md_amend_191, e_Md_amend_192, e_Md_amend_193, e_Md_amend_194, e_Md_amend_197, wr_id, Int.zero_add, m1, if_pos c4, if_pos g1, one_ne, if_false, j1, evK_v, f]
    · have a0 : a5 = 0 := ha.elim id (fun y => absurd (hk.mp y).2 kp)
      have eA : kAl τ o q p = kWs (kEn (uI (uI (uI τ 8 o 4 q) 8 o 7 p) 8 o 5 4) o) := by unfold kAl kA1; rw [if_neg c4, if_neg (fun y => kp ⟨y.1.symm, y.2⟩)]
      have eL : kAl τ o q p = kLC (uI (uI (uI τ 8 o 4 q) 8 o 7 p) 8 o 5 4) o 0 := by rw [eA]; unfold kLC; rw [if_pos rfl]
      rw [eL] at fin ⊢
      obtain ⟨k1, k2⟩ := lv (uI (uI (uI τ 8 o 4 q) 8 o 7 p) 8 o 5 4) (fun t i k z => by
        rw [gI_uI, if_neg (fun y => z ⟨y.1, y.2.1, Or.inr (Or.inl y.2.2)⟩), gI_uI, if_neg (fun y => z ⟨y.1, y.2.1, Or.inr (Or.inr y.2.2)⟩), gI_uI, if_neg (fun y => z ⟨y.1, y.2.1, Or.inl y.2.2⟩)]) (gI_self _ _ _ _ _) (by simp (disch := omega) only [gI_self, gI_nt, gI_nj, gL_uI, gR_uI, gI_uL, gR_uL, gI_uR, gL_uR]) (by simp (disch := omega) only [gI_self, gI_nt, gI_nj, gL_uI, gR_uI, gI_uL, gR_uL, gI_uR, gL_uR])
      obtain ⟨σ2, j1, j2, j3⟩ := c_Md_limitComes (how := 0) k1 hB k2 ⟨ho.1, by simp (disch := omega) only [gI_self, gI_nt, gI_nj, gL_uI, gR_uI, gI_uL, gR_uL, gI_uR, gL_uR]; exact ho.2⟩ (gI_self _ _ _ _ _) (by simp (disch := omega) only [gI_self, gI_nt, gI_nj, gL_uI, gR_uI, gI_uL, gR_uL, gI_uR, gL_uR]; omega) ⟨by simp (disch := omega) only [gI_self, gI_nt, gI_nj, gL_uI, gR_uI, gI_uL, gR_uL, gI_uR, gL_uR]; exact c4, by simp (disch := omega) only [gI_self, gI_nt, gI_nj, gL_uI, gR_uI, gI_uL, gR_uL, gI_uR, gL_uR]; exact h3⟩ (by simp (disch := omega) only [gI_self, gI_nt, gI_nj, gL_uI, gR_uI, gI_uL, gR_uL, gI_uR, gL_uR]; exact m4) (by simp (disch := omega) only [gI_self, gI_nt, gI_nj, gL_uI, gR_uI, gI_uL, gR_uL, gI_uR, gL_uR]; rw [mk _ (by omega) (by omega), e6]) (by omega)
      refine ⟨σ2, ?_, j2, hFM.trans j3⟩
      have f := fin a5 σ2 j2
      subst a0
      simp (disch := omega) only [e_Md_amend_132, e_Md_amend_133, e_Md_amend_136, e_Md_amend_137, e_Md_amend_138, e_Md_amend_139, e_Md_amend_140, e_Md_amend_141, e_Md_amend_144, e_Md_amend_145, e_Md_amend_148, e_Md_amend_151, e_Md_amend_153, e_Md_amend_156, e_Md_amend_157, e_Md_amend_160, e_Md_amend_161, e_Md_amend_162, e_Md_amend_163, e_Md_amend_164, e_Md_amend_165, e_Md_amend_168, e_Md_amend_169, e_Md_amend_172, e_Md_amend_175, e_Md_amend_176, e_Md_amend_177, e_Md_amend_178, e_Md_amend_179, e_Md_amend_182, e_Md_amend_183, e_Md_amend_186, e_Md_amend_189, e_Md_amend_190, e_Md_amend_191, e_Md_amend_192, e_Md_amend_193, e_Md_amend_194, e_Md_amend_197, e_Md_amend_200, e_Md_amend_201, e_Md_amend_202, e_Md_amend_203, wr_id, Int.zero_add, m1, if_pos c4, if_true, j1, evK_v, f]
theorem PR_amend {μ : aM} {B : Int} (hI : Inv μ B) (hB : B + 2000000 < 2147483647) (o q p : Int) : PR B μ (fun σ => ev 93 0 [aR 0 0, aI o, aI q, aI p, aU, aU] [] σ) (fun σ => ev 180 0 [aR 25 0, aI o, aI q, aI p, aU, aU] [] σ) := by
  obtain ⟨hc, h600, hR, hnum, h601, hph⟩ := Inv_f hI
  have hat := c_Bk_orderAt o μ hc.2
  by_cases h : 0 ≤ o ∧ o < gI μ 6 0 2
  · rw [if_pos h] at hat
    obtain ⟨ia, ib, ip, idd, is, ir⟩ := IO_p hI.1.2.1 h.1 h.2
    have is := is (by omega)
    have hcb := c_Ord_canBeAmended o μ
    have hcc : ((gI μ 8 o 1 = 4 ∧ gI μ 8 o 5 = 0) ∨ (¬ gI μ 8 o 1 = 4 ∧ ¬ gI μ 8 o 1 = 3 ∧ gI μ 8 o 5 = 1)) = ((gI μ 8 o 5 = 1 ∨ gI μ 8 o 5 = 0) ∧ ¬ gI μ 8 o 1 = 3) := propext ⟨fun z => by omega, fun z => by
      rcases z.1 with y | y
      · have := (ir y).1; omega
      · have := (is.2 y).1; omega⟩
    simp only [hcc] at hcb
    by_cases hh : (1 ≤ q ∧ q < 1000) ∧ (1 ≤ p ∧ p < 1000) ∧ (gI μ 8 o 5 = 1 ∨ gI μ 8 o 5 = 0) ∧ ¬ gI μ 8 o 1 = 3
    · obtain ⟨hq, hp, h5, h3⟩ := hh
      rw [if_pos ⟨h5, h3⟩] at hcb
      have hf := kAl_frc (y0 := 120) (σ := μ) (i := o) (by omega) hc q p
      have hal := c_Dk_alter o q p B μ hI.2.1 (by omega) (by omega) (by omega)
      obtain ⟨σ', k1, k2, k3⟩ := amend_M (q := q) (p := p) (Sim_25 hI.1 (frc_26 hf)) (by omega) h h5 h3 (by omega) (by omega)
      refine ⟨wr (gI (kAl μ o q p) 8 o 6 - gI μ 8 o 6), kAl μ o q p, σ', ?_, ?_, Inv_mono (Inv_step hI hf k3 k2 ((kAl_CO hI.2.1 (by omega) o q p).mono (by omega)) (by rw [kAl_cnt]; exact Int.le_refl _) (by omega)) (by omega)⟩
      · show ev 93 0 [aR 0 0, aI o, aI q, aI p, aU, aU] [] μ = _
        simp (disch := omega) only [e_Ub_amend_0, e_Ub_amend_1, e_Ub_amend_4, e_Ub_amend_5, e_Ub_amend_8, e_Ub_amend_10, e_Ub_amend_12, e_Ub_amend_15, e_Ub_amend_16, e_Ub_amend_17, e_Ub_amend_20, e_Ub_amend_21, e_Ub_amend_22, e_Ub_amend_25, e_Ub_amend_28, e_Ub_amend_29, e_Ub_amend_32, e_Ub_amend_35, e_Ub_amend_37, e_Ub_amend_40, e_Ub_amend_43, e_Ub_amend_44, e_Ub_amend_46, e_Ub_amend_49, e_Ub_amend_50, e_Ub_amend_52, e_Ub_amend_55, e_Ub_amend_57, e_Ub_amend_58, e_Ub_amend_61, e_Ub_amend_63, e_Ub_amend_64, e_Ub_amend_65, e_Ub_amend_68, e_Ub_amend_70, e_Ub_amend_73, e_Ub_amend_75, e_Ub_amend_76, hat, evK_i, evK_v, reduceCtorEq, not_false_eq_true, if_true, c_Ub_isMeasure, if_pos hq, if_pos hp, one_ne, if_false, hcb, hal]
      · have hio := c_Md_isOrder (kAl μ o q p) o (by rw [frc_26 hf]; omega)
        rw [frc_26 hf, h600, if_pos h] at hio
        have hit := c_Md_isThere (τ := μ) (σ := kAl μ o q p) o (Sim_25 hI.1 (frc_26 hf)) h.1 h.2
        rw [if_pos h5] at hit
        have hk : gI (kAl μ o q p) 26 0 o = gI μ 8 o 1 := by rw [frc_26 hf]; exact (RO.p hI.1.1 h.1 h.2).1.1
        show ev 180 0 [aR 25 0, aI o, aI q, aI p, aU, aU] [] (kAl μ o q p) = _
        simp (disch := omega) only [e_Md_amend_0, e_Md_amend_1, e_Md_amend_2, e_Md_amend_5, e_Md_amend_8, e_Md_amend_9, e_Md_amend_10, e_Md_amend_13, e_Md_amend_14, e_Md_amend_15, e_Md_amend_18, e_Md_amend_21, e_Md_amend_22, e_Md_amend_25, e_Md_amend_28, e_Md_amend_29, e_Md_amend_30, e_Md_amend_33, e_Md_amend_36, e_Md_amend_37, e_Md_amend_40, e_Md_amend_41, e_Md_amend_42, e_Md_amend_43, e_Md_amend_44, e_Md_amend_45, e_Md_amend_48, e_Md_amend_49, e_Md_amend_51, e_Md_amend_54, hio, hit, evK_i, one_ne, not_false_eq_true, if_true, if_false, c_Md_is999, if_pos hq, if_pos hp, wr_id, Int.zero_add, hk, if_pos h3, k1]
    · refine PR_rf (a := -6) (r := 6) hI ?_ ?_
      · have hre := c_Ub_refuse (-6) μ (by omega)
        show ev 93 0 [aR 0 0, aI o, aI q, aI p, aU, aU] [] μ = _
        by_cases hq : 1 ≤ q ∧ q < 1000
        · by_cases hp : 1 ≤ p ∧ p < 1000
          · rw [if_neg (fun z => hh ⟨hq, hp, z⟩)] at hcb
            simp (disch := omega) only [e_Ub_amend_0, e_Ub_amend_1, e_Ub_amend_4, e_Ub_amend_5, e_Ub_amend_8, e_Ub_amend_10, e_Ub_amend_12, e_Ub_amend_15, e_Ub_amend_16, e_Ub_amend_17, e_Ub_amend_20, e_Ub_amend_21, e_Ub_amend_22, e_Ub_amend_25, e_Ub_amend_28, e_Ub_amend_29, e_Ub_amend_32, e_Ub_amend_35, e_Ub_amend_37, e_Ub_amend_40, e_Ub_amend_43, e_Ub_amend_44, e_Ub_amend_46, e_Ub_amend_49, e_Ub_amend_50, e_Ub_amend_52, e_Ub_amend_55, e_Ub_amend_57, e_Ub_amend_58, e_Ub_amend_61, e_Ub_amend_63, e_Ub_amend_64, e_Ub_amend_65, e_Ub_amend_68, e_Ub_amend_70, e_Ub_amend_73, e_Ub_amend_75, e_Ub_amend_76, hat, evK_i, reduceCtorEq, not_false_eq_true, if_true, c_Ub_isMeasure, if_pos hq, if_pos hp, one_ne, if_false, hcb, not_true_eq_false, hre]
            rfl
          · simp (disch := omega) only [e_Ub_amend_0, e_Ub_amend_1, e_Ub_amend_4, e_Ub_amend_5, e_Ub_amend_8, e_Ub_amend_10, e_Ub_amend_12, e_Ub_amend_15, e_Ub_amend_16, e_Ub_amend_17, e_Ub_amend_20, e_Ub_amend_21, e_Ub_amend_22, e_Ub_amend_25, e_Ub_amend_28, e_Ub_amend_29, e_Ub_amend_32, e_Ub_amend_35, e_Ub_amend_37, e_Ub_amend_40, e_Ub_amend_43, e_Ub_amend_44, e_Ub_amend_46, e_Ub_amend_49, e_Ub_amend_50, e_Ub_amend_52, e_Ub_amend_55, e_Ub_amend_57, e_Ub_amend_58, e_Ub_amend_61, e_Ub_amend_63, e_Ub_amend_64, e_Ub_amend_65, e_Ub_amend_68, e_Ub_amend_70, e_Ub_amend_73, e_Ub_amend_75, e_Ub_amend_76, hat, evK_i, reduceCtorEq, not_false_eq_true, if_true, c_Ub_isMeasure, if_pos hq, if_neg hp, one_ne, if_false, hre]
            rfl
        · simp (disch := omega) only [e_Ub_amend_0, e_Ub_amend_1, e_Ub_amend_4, e_Ub_amend_5, e_Ub_amend_8, e_Ub_amend_10, e_Ub_amend_12, e_Ub_amend_15, e_Ub_amend_16, e_Ub_amend_17, e_Ub_amend_20, e_Ub_amend_21, e_Ub_amend_22, e_Ub_amend_25, e_Ub_amend_28, e_Ub_amend_29, e_Ub_amend_32, e_Ub_amend_35, e_Ub_amend_37, e_Ub_amend_40, e_Ub_amend_43, e_Ub_amend_44, e_Ub_amend_46, e_Ub_amend_49, e_Ub_amend_50, e_Ub_amend_52, e_Ub_amend_55, e_Ub_amend_57, e_Ub_amend_58, e_Ub_amend_61, e_Ub_amend_63, e_Ub_amend_64, e_Ub_amend_65, e_Ub_amend_68, e_Ub_amend_70, e_Ub_amend_73, e_Ub_amend_75, e_Ub_amend_76, hat, evK_i, reduceCtorEq, not_false_eq_true, if_true, c_Ub_isMeasure, if_neg hq, hre]
          rfl
      · have hre := c_Md_refused (-6) (rf4 μ 6) (by omega)
        have hio := c_Md_isOrder (rf4 μ 6) o (by rw [g_rf4 _ _ _ _ _ (by decide)]; omega)
        rw [g_rf4 _ _ _ _ _ (by decide), h600, if_pos h] at hio
        have hit := c_Md_isThere (τ := μ) (σ := rf4 μ 6) o (Sim_25 hI.1 (fun k => g_rf4 _ _ _ _ _ (by decide))) h.1 h.2
        have hk : gI (rf4 μ 6) 26 0 o = gI μ 8 o 1 := by rw [g_rf4 _ _ _ _ _ (by decide)]; exact (RO.p hI.1.1 h.1 h.2).1.1
        show ev 180 0 [aR 25 0, aI o, aI q, aI p, aU, aU] [] (rf4 μ 6) = _
        by_cases hq : 1 ≤ q ∧ q < 1000
        · by_cases hp : 1 ≤ p ∧ p < 1000
          · by_cases h5 : gI μ 8 o 5 = 1 ∨ gI μ 8 o 5 = 0
            · rw [if_pos h5] at hit
              simp (disch := omega) only [e_Md_amend_0, e_Md_amend_1, e_Md_amend_2, e_Md_amend_5, e_Md_amend_8, e_Md_amend_9, e_Md_amend_10, e_Md_amend_13, e_Md_amend_14, e_Md_amend_15, e_Md_amend_18, e_Md_amend_21, e_Md_amend_22, e_Md_amend_25, e_Md_amend_28, e_Md_amend_29, e_Md_amend_30, e_Md_amend_33, e_Md_amend_36, e_Md_amend_37, e_Md_amend_40, e_Md_amend_41, e_Md_amend_42, e_Md_amend_43, e_Md_amend_44, e_Md_amend_45, e_Md_amend_48, e_Md_amend_49, e_Md_amend_51, e_Md_amend_54, hio, hit, evK_i, one_ne, not_false_eq_true, if_true, if_false, c_Md_is999, if_pos hq, if_pos hp, wr_id, Int.zero_add, hk, if_neg (show ¬ ¬ gI μ 8 o 1 = 3 from fun z => hh ⟨hq, hp, h5, z⟩), hre]
              rfl
            · rw [if_neg h5] at hit
              simp (disch := omega) only [e_Md_amend_0, e_Md_amend_1, e_Md_amend_2, e_Md_amend_5, e_Md_amend_8, e_Md_amend_9, e_Md_amend_10, e_Md_amend_13, e_Md_amend_14, e_Md_amend_15, e_Md_amend_18, e_Md_amend_21, e_Md_amend_22, e_Md_amend_25, e_Md_amend_28, e_Md_amend_29, e_Md_amend_30, e_Md_amend_33, e_Md_amend_36, e_Md_amend_37, e_Md_amend_40, e_Md_amend_41, e_Md_amend_42, e_Md_amend_43, e_Md_amend_44, e_Md_amend_45, e_Md_amend_48, e_Md_amend_49, e_Md_amend_51, e_Md_amend_54, hio, hit, evK_i, one_ne, not_false_eq_true, if_true, if_false, c_Md_is999, if_pos hq, if_pos hp, hre]
              rfl
          · simp (disch := omega) only [e_Md_amend_0, e_Md_amend_1, e_Md_amend_2, e_Md_amend_5, e_Md_amend_8, e_Md_amend_9, e_Md_amend_10, e_Md_amend_13, e_Md_amend_14, e_Md_amend_15, e_Md_amend_18, e_Md_amend_21, e_Md_amend_22, e_Md_amend_25, e_Md_amend_28, e_Md_amend_29, e_Md_amend_30, e_Md_amend_33, e_Md_amend_36, e_Md_amend_37, e_Md_amend_40, e_Md_amend_41, e_Md_amend_42, e_Md_amend_43, e_Md_amend_44, e_Md_amend_45, e_Md_amend_48, e_Md_amend_49, e_Md_amend_51, e_Md_amend_54, hio, evK_i, one_ne, not_false_eq_true, if_true, if_false, c_Md_is999, if_pos hq, if_neg hp, hre]
            rfl
        · simp (disch := omega) only [e_Md_amend_0, e_Md_amend_1, e_Md_amend_2, e_Md_amend_5, e_Md_amend_8, e_Md_amend_9, e_Md_amend_10, e_Md_amend_13, e_Md_amend_14, e_Md_amend_15, e_Md_amend_18, e_Md_amend_21, e_Md_amend_22, e_Md_amend_25, e_Md_amend_28, e_Md_amend_29, e_Md_amend_30, e_Md_amend_33, e_Md_amend_36, e_Md_amend_37, e_Md_amend_40, e_Md_amend_41, e_Md_amend_42, e_Md_amend_43, e_Md_amend_44, e_Md_amend_45, e_Md_amend_48, e_Md_amend_49, e_Md_amend_51, e_Md_amend_54, hio, evK_i, one_ne, not_false_eq_true, if_true, c_Md_is999, if_neg hq, hre]
          rfl
  · rw [if_neg h] at hat
    refine PR_rf (a := -1) (r := 1) hI ?_ ?_
    · have hre := c_Ub_refuse (-1) μ (by omega)
      show ev 93 0 [aR 0 0, aI o, aI q, aI p, aU, aU] [] μ = _
      simp (disch := omega) only [e_Ub_amend_0, e_Ub_amend_1, e_Ub_amend_4, e_Ub_amend_5, e_Ub_amend_8, e_Ub_amend_10, e_Ub_amend_12, e_Ub_amend_15, e_Ub_amend_16, e_Ub_amend_17, e_Ub_amend_20, e_Ub_amend_21, e_Ub_amend_22, e_Ub_amend_25, e_Ub_amend_28, e_Ub_amend_29, e_Ub_amend_32, e_Ub_amend_35, e_Ub_amend_37, e_Ub_amend_40, e_Ub_amend_43, e_Ub_amend_44, e_Ub_amend_46, e_Ub_amend_49, e_Ub_amend_50, e_Ub_amend_52, e_Ub_amend_55, e_Ub_amend_57, e_Ub_amend_58, e_Ub_amend_61, e_Ub_amend_63, e_Ub_amend_64, e_Ub_amend_65, e_Ub_amend_68, e_Ub_amend_70, e_Ub_amend_73, e_Ub_amend_75, e_Ub_amend_76, hat, evK_i, not_true_eq_false, if_false, hre]
      rfl
    · have hre := c_Md_refused (-1) (rf4 μ 1) (by omega)
      have hio := c_Md_isOrder (rf4 μ 1) o (by rw [g_rf4 _ _ _ _ _ (by decide)]; omega)
      rw [g_rf4 _ _ _ _ _ (by decide), h600, if_neg h] at hio
      show ev 180 0 [aR 25 0, aI o, aI q, aI p, aU, aU] [] (rf4 μ 1) = _
      simp (disch := omega) only [e_Md_amend_0, e_Md_amend_1, e_Md_amend_2, e_Md_amend_5, e_Md_amend_8, e_Md_amend_9, e_Md_amend_10, e_Md_amend_13, e_Md_amend_14, e_Md_amend_15, e_Md_amend_18, e_Md_amend_21, e_Md_amend_22, e_Md_amend_25, e_Md_amend_28, e_Md_amend_29, e_Md_amend_30, e_Md_amend_33, e_Md_amend_36, e_Md_amend_37, e_Md_amend_40, e_Md_amend_41, e_Md_amend_42, e_Md_amend_43, e_Md_amend_44, e_Md_amend_45, e_Md_amend_48, e_Md_amend_49, e_Md_amend_51, e_Md_amend_54, hio, evK_i, not_true_eq_false, if_false, hre]
      rfl
