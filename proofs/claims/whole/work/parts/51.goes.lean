/-! going in, on both sides -/
theorem wr_sbr (a b : Int) : wr (a - wr b) = wr (a - b) := by rw [wr_eq, wr_eq, wr_eq, Int.sub_bmod_bmod]
/-- the reference alone changes: its orders, and what it notes of one that comes -/
def FrM (σ τ : aM) : Prop := τ.2 = σ.2 ∧ ∀ t i j, ¬ (t = 26 ∨ (t = 25 ∧ 9 ≤ j ∧ j ≤ 14)) → gI τ t i j = gI σ t i j
theorem FrM.rfl (σ : aM) : FrM σ σ := ⟨Eq.refl _, fun _ _ _ _ => Eq.refl _⟩
theorem FrM.trans {a b c : aM} (h1 : FrM a b) (h2 : FrM b c) : FrM a c := ⟨h2.1.trans h1.1, fun t i j h => (h2.2 t i j h).trans (h1.2 t i j h)⟩
theorem FrM.u {σ τ : aM} (h : FrM σ τ) {t : Nat} (i j v : Int) (ht : t = 26 ∨ (t = 25 ∧ 9 ≤ j ∧ j ≤ 14)) : FrM σ (uI τ t i j v) := ⟨h.1, fun t' i' j' h1 => by
  rw [gI_uI, if_neg (fun q => h1 (by rw [q.1, q.2.2]; exact ht))]
  exact h.2 t' i' j' h1⟩
theorem FrM_mPy {σ τ : aM} (h : FrM σ τ) (w q c : Int) : FrM σ (mPy τ w q c) := (h.u _ _ _ (Or.inl rfl)).u _ _ _ (Or.inl rfl)
theorem FrM_mNt {σ τ : aM} (h : FrM σ τ) (x z p q : Int) : FrM σ (mNt τ x z p q) := by
  unfold mNt
  by_cases c : gI τ 26 0 606 < 200
  · rw [if_pos c]
    exact (((((h.u _ _ _ (Or.inl rfl)).u _ _ _ (Or.inl rfl)).u _ _ _ (Or.inl rfl)).u _ _ _ (Or.inl rfl)).u _ _ _ (Or.inl rfl)).u _ _ _ (Or.inl rfl)
  · rw [if_neg c]
    exact (h.u _ _ _ (Or.inl rfl)).u _ _ _ (Or.inl rfl)
theorem FrM_tM {σ τ : aM} (h : FrM σ τ) (f q : Int) : FrM σ (tM τ f q) := by
  have h1 : FrM σ (mLo1 (tL τ q) f q) := ((((h.u _ _ _ (Or.inr (by omega))).u _ _ _ (Or.inr (by omega))).u _ _ _ (Or.inr (by omega))).u _ _ _ (Or.inl rfl)).u _ _ _ (Or.inl rfl)
  have h2 : FrM σ (mLo2 (mLo1 (tL τ q) f q) f) := by
    unfold mLo2
    split
    · exact h1.u _ _ _ (Or.inl rfl)
    · exact h1
  unfold tM mLo3
  split
  · unfold mLo4 mTm mFs
    split
    · exact (((h2.u _ _ _ (Or.inl rfl)).u _ _ _ (Or.inl rfl)).u _ _ _ (Or.inl rfl)).u _ _ _ (Or.inl rfl)
    · exact h2.u _ _ _ (Or.inl rfl)
  · exact h2
theorem FrM_tS {σ τ : aM} (h : FrM σ τ) (f q w1 q1 c1 w2 q2 c2 xn zn p : Int) : FrM σ (tS τ f q w1 q1 c1 w2 q2 c2 xn zn p) := FrM_mNt (FrM_mPy (FrM_mPy (FrM_tM h _ _) _ _ _) _ _ _) _ _ _ _
theorem FrM_mMe {σ τ : aM} (h : FrM σ τ) (o : Int) : FrM σ (mMe τ o) := by
  unfold mMe
  split
  · exact h.u _ _ _ (Or.inr (by omega))
  · split
    · exact h.u _ _ _ (Or.inl rfl)
    · have h1 : ∀ l, FrM σ (mMe1 τ o l) := fun l => ((h.u _ _ _ (Or.inr (by omega))).u _ _ _ (Or.inr (by omega))).u _ _ _ (Or.inl rfl)
      have h2 : ∀ l, FrM σ (mMe2 (mMe1 τ o l) o) := fun l => by
        unfold mMe2
        split
        · exact (h1 l).u _ _ _ (Or.inl rfl)
        · exact h1 l
      have h3 : ∀ l, FrM σ (mMe3 (mMe2 (mMe1 τ o l) o) o) := fun l => by
        unfold mMe3
        split
        · exact (h2 l).u _ _ _ (Or.inl rfl)
        · exact h2 l
      exact h3 _
/-- the tail of a trade -/
theorem l_goes_tail (M : aM) (o ow sd qq lm f p sn q fo : Int) (hf : 0 ≤ f ∧ f < 60) (how : 0 ≤ ow ∧ ow < 8) (hfo : 0 ≤ fo ∧ fo < 8) (hM : gI M 26 0 (60 + f) = fo) (h6 : 0 ≤ gI M 26 0 606) (hq : 0 ≤ q ∧ q ≤ 999) :
    ev 156 181 [aR 25 0, aI o, aI ow, aI sd, aI qq, aI lm, aI f, aI p, aI sn, aI q] [] M = ev 156 288 [aR 25 0, aI o, aI ow, aI sd, aI qq, aI lm, aI f, aI p, aI sn, aI q] [] (if sd = 0 then mNt (mPy (mPy M ow q (wr ((0 - q) * p))) fo (-q) (wr (q * p))) o f p q else mNt (mPy (mPy M ow (-q) (wr (q * p))) fo q (wr ((0 - q) * p))) f o p q) := by
  have hm : ∀ a b, gI (mPy M ow a b) 26 0 (60 + f) = fo := fun a b => by rw [g_mPy _ _ _ _ _ how, if_neg (by omega), if_neg (by omega), hM]
  have hn : ∀ a b c d x z, ev 150 0 [aR 25 0, aI x, aI z, aI p, aI q, aU] [] (mPy (mPy M ow a b) fo c d) = some (none, mNt (mPy (mPy M ow a b) fo c d) x z p q) := fun a b c d x z => c_Md_notes x z p q _ (by rw [g_mPy _ _ _ _ _ hfo, if_neg (by omega), if_neg (by omega), g_mPy _ _ _ _ _ how, if_neg (by omega), if_neg (by omega)]; exact h6)
  have e0 : (0 : Int) - q = -q := by omega
  by_cases c : sd = 0
  · rw [if_pos c]
    subst c
    simp (disch := omega) only [e_Md_goesIn_181, e_Md_goesIn_182, e_Md_goesIn_183, e_Md_goesIn_184, e_Md_goesIn_187, e_Md_goesIn_189, e_Md_goesIn_192, e_Md_goesIn_194, e_Md_goesIn_195, e_Md_goesIn_196, e_Md_goesIn_199, e_Md_goesIn_201, e_Md_goesIn_202, e_Md_goesIn_204, e_Md_goesIn_205, e_Md_goesIn_208, e_Md_goesIn_210, e_Md_goesIn_212, e_Md_goesIn_213, e_Md_goesIn_216, e_Md_goesIn_217, e_Md_goesIn_218, e_Md_goesIn_221, e_Md_goesIn_223, e_Md_goesIn_225, e_Md_goesIn_226, e_Md_goesIn_227, e_Md_goesIn_228, e_Md_goesIn_231, e_Md_goesIn_233, e_Md_goesIn_234, e_Md_goesIn_237, e_Md_goesIn_239, e_Md_goesIn_240, e_Md_goesIn_243, e_Md_goesIn_245, e_Md_goesIn_247, e_Md_goesIn_248, e_Md_goesIn_251, e_Md_goesIn_253, e_Md_goesIn_254, e_Md_goesIn_256, e_Md_goesIn_257, e_Md_goesIn_260, e_Md_goesIn_261, e_Md_goesIn_262, e_Md_goesIn_265, e_Md_goesIn_266, e_Md_goesIn_269, e_Md_goesIn_271, e_Md_goesIn_272, e_Md_goesIn_275, e_Md_goesIn_277, e_Md_goesIn_280, e_Md_goesIn_281, e_Md_goesIn_283, e_Md_goesIn_285, not_true_eq_false, if_false, c_Md_pays, evK_v, wr_id, hm, hn, e0]
  · rw [if_neg c]
    simp (disch := omega) only [e_Md_goesIn_181, e_Md_goesIn_182, e_Md_goesIn_183, e_Md_goesIn_184, e_Md_goesIn_187, e_Md_goesIn_189, e_Md_goesIn_192, e_Md_goesIn_194, e_Md_goesIn_195, e_Md_goesIn_196, e_Md_goesIn_199, e_Md_goesIn_201, e_Md_goesIn_202, e_Md_goesIn_204, e_Md_goesIn_205, e_Md_goesIn_208, e_Md_goesIn_210, e_Md_goesIn_212, e_Md_goesIn_213, e_Md_goesIn_216, e_Md_goesIn_217, e_Md_goesIn_218, e_Md_goesIn_221, e_Md_goesIn_223, e_Md_goesIn_225, e_Md_goesIn_226, e_Md_goesIn_227, e_Md_goesIn_228, e_Md_goesIn_231, e_Md_goesIn_233, e_Md_goesIn_234, e_Md_goesIn_237, e_Md_goesIn_239, e_Md_goesIn_240, e_Md_goesIn_243, e_Md_goesIn_245, e_Md_goesIn_247, e_Md_goesIn_248, e_Md_goesIn_251, e_Md_goesIn_253, e_Md_goesIn_254, e_Md_goesIn_256, e_Md_goesIn_257, e_Md_goesIn_260, e_Md_goesIn_261, e_Md_goesIn_262, e_Md_goesIn_265, e_Md_goesIn_266, e_Md_goesIn_269, e_Md_goesIn_271, e_Md_goesIn_272, e_Md_goesIn_275, e_Md_goesIn_277, e_Md_goesIn_280, e_Md_goesIn_281, e_Md_goesIn_283, e_Md_goesIn_285, if_pos c, c_Md_pays, evK_v, wr_id, hm, hn, e0]
theorem mMe_540 (σ : aM) (f c : Int) (hcf : ¬ c = f) (f0 : 0 ≤ f) (f1 : f < 60) (c0 : 0 ≤ c) (c1 : c < 60) : gI (mMe σ f) 26 0 (540 + c) = gI σ 26 0 (540 + c) := by
  unfold mMe
  split
  · simp (disch := omega) only [gI_self, gI_nt, gI_nj, gL_uI, gR_uI, gI_uL, gR_uL, gI_uR, gL_uR]
  · split
    · simp (disch := omega) only [gI_self, gI_nt, gI_nj, gL_uI, gR_uI, gI_uL, gR_uL, gI_uR, gL_uR]
    · have h1 : ∀ l, gI (mMe1 σ f l) 26 0 (540 + c) = gI σ 26 0 (540 + c) := fun l => by
        unfold mMe1
        simp (disch := omega) only [gI_self, gI_nt, gI_nj, gL_uI, gR_uI, gI_uL, gR_uL, gI_uR, gL_uR]
      have h2 : ∀ M : aM, gI (mMe2 M f) 26 0 (540 + c) = gI M 26 0 (540 + c) := fun M => by
        unfold mMe2
        split
        · simp (disch := omega) only [gI_self, gI_nt, gI_nj, gL_uI, gR_uI, gI_uL, gR_uL, gI_uR, gL_uR]
        · rfl
      have h3 : ∀ M : aM, gI (mMe3 M f) 26 0 (540 + c) = gI M 26 0 (540 + c) := fun M => by
        unfold mMe3
        split
        · simp (disch := omega) only [gI_self, gI_nt, gI_nj, gL_uI, gR_uI, gI_uL, gR_uL, gI_uR, gL_uR]
        · rfl
      rw [h3, h2, h1]
theorem tS_540 (σ : aM) (f q w1 q1 c1 w2 q2 c2 xn zn p c : Int) (hcf : ¬ c = f) (f0 : 0 ≤ f) (f1 : f < 60) (o1 : 0 ≤ w1 ∧ w1 < 8) (o2 : 0 ≤ w2 ∧ w2 < 8) (h6 : 0 ≤ gI σ 26 0 606) (hF : ∀ k, ¬ k = 180 + f → ¬ k = 540 + f → ¬ k = 240 + f → ¬ k = 420 + f → ¬ k = 480 + f → ¬ k = 605 → gI (tM σ f q) 26 0 k = gI σ 26 0 k) (c0 : 0 ≤ c) (c1' : c < 60) : gI (tS σ f q w1 q1 c1 w2 q2 c2 xn zn p) 26 0 (540 + c) = gI σ 26 0 (540 + c) := by
  have py : ∀ k, ¬ (607 ≤ k ∧ k < 623) → gI (mPy (mPy (tM σ f q) w1 q1 c1) w2 q2 c2) 26 0 k = gI (tM σ f q) 26 0 k := fun k hk => by
    rw [g_mPy _ _ _ _ _ o2, if_neg (by omega), if_neg (by omega), g_mPy _ _ _ _ _ o1, if_neg (by omega), if_neg (by omega)]
  unfold tS
  rcases g_mNt (mPy (mPy (tM σ f q) w1 q1 c1) w2 q2 c2) xn zn p q (540 + c) (by omega) (by omega) (by omega) with y | y
  · rw [y, py _ (by omega), hF _ (by omega) (by omega) (by omega) (by omega) (by omega) (by omega)]
  · rw [py _ (by omega), hF _ (by omega) (by omega) (by omega) (by omega) (by omega) (by omega)] at y
    omega
/-- what both sides make of the other's first -/
theorem l_goes_step {τ σ : aM} {c B T f lm l : Int} (hS : Sim τ σ c B) (hB : B + 1 < 2147483647) (hC : CC τ c) (hR : CR τ σ c T) (h4 : gI τ 8 c 5 = 4) (hf : frs τ (oth (gI τ 8 c 3)) = some f) (qq : Int) (hw : wth τ c (gI τ 8 f 7) l)
    (hl : (lm = l ∧ 1 ≤ l) ∨ (lm = 0 ∧ l = if gI τ 8 c 3 = 0 then 999 else 1)) (a7 a8 a9 : AV) :
    ∃ σ' b7 b8 b9, ev 156 41 [aR 25 0, aI (nm c), aI (gI τ 8 c 2), aI (gI τ 8 c 3), aI qq, aI lm, aI f, a7, a8, a9] [] σ = ev 156 41 [aR 25 0, aI (nm c), aI (gI τ 8 c 2), aI (gI τ 8 c 3), aI qq, aI lm, aI (oI (frs (kSt τ c f) (oth (gI τ 8 c 3)))), b7, b8, b9] [] σ' ∧ Sim (kSt τ c f) σ' c (B + 1) ∧ CC (kSt τ c f) c ∧ CR (kSt τ c f) σ' c T ∧ FrM σ σ' ∧ (0 ≤ c → c < 60 → gI σ' 26 0 (540 + c) = gI σ 26 0 (540 + c)) := by
  have hc6 := hS.1.1.2
  have hfi := frs_in hc6.1 hf
  obtain ⟨ra, rb, rt, rv, rc⟩ := RO.p hS.1 hfi.1 hfi.2.1
  obtain ⟨ia, ib, ip, idd, is, ir⟩ := IO_p hS.2.1 hfi.1 hfi.2.1
  have ir := ir hfi.2.2.1
  have hcf : ¬ c = f := fun q => by rw [q] at h4; omega
  have rb := rb (fun q => hcf q.symm)
  have hst : 1 ≤ gI τ 8 c 4 ∧ gI σ 25 0 13 = 0 := by
    rcases hR.2.2.2 with y | y | y | y <;> omega
  have hG := hS.2.2.2.1
  have hg := hS.2.2.2.2
  have hpO : pO τ f = gI τ 8 f 7 := by
    unfold pO
    rw [if_pos hfi.2.2.1, pfB_l hfi.2.2.2.2]
  have hpr := c_Md_priceOf f hS.1 hS.2.1 hfi.1 hfi.2.1
  rw [hpO] at hpr
  have hp1 := ip hfi.2.2.2.2
  have hwi := c_Md_isWithin (gI τ 8 c 3) (gI τ 8 f 7) lm σ
  rw [if_pos (by
    unfold wth at hw
    have := ib.2.1
    rcases hl with y | y
    · rw [y.1]; omega
    · exact Or.inl y.1)] at hwi
  have i11 := hR.1
  have hnn : ¬ gI σ 25 0 11 ≤ 0 := by omega
  have hsd := hC.2.1
  have e1s : (1 : Int) - gI τ 8 c 3 = oth (gI τ 8 c 3) := by
    unfold oth
    split <;> omega
  have hfo := fun (τ' σ' : aM) (h1 : RO τ' σ' c) (h2 : IO τ' c) (h3 : DT τ') => c_Md_firstOf (oth (gI τ 8 c 3)) 0 h1 h2 h3 (Or.inl rfl)
  by_cases hown : gI τ 8 f 2 = gI τ 8 c 2 ∧ ¬ gI τ 6 0 4 = 0
  · have e0 : kSt τ c f = kMo τ c f := if_pos hown
    rw [e0]
    obtain ⟨k1, k2, k3⟩ := step_own hS hC hR h4 hf hown.2
    have hme := c_Md_meets f σ ⟨hfi.1, by omega⟩
    have hff := hfo _ _ k1.1 k1.2.1 k1.2.2.1
    have hru : ¬ gI σ 26 0 602 ≤ 0 := by rw [hG.1.2.1]; have := hg.2.1; omega
    refine ⟨mMe σ f, a7, a8, a9, ?_, Sim_mono k1 (by omega), k2, k3, FrM_mMe (FrM.rfl σ) f, fun c0 c1 => mMe_540 σ f c hcf hfi.1 (by omega) c0 c1⟩
    simp (disch := omega) only [e_Md_goesIn_41, e_Md_goesIn_42, e_Md_goesIn_45, e_Md_goesIn_48, e_Md_goesIn_49, e_Md_goesIn_52, e_Md_goesIn_55, e_Md_goesIn_57, e_Md_goesIn_58, e_Md_goesIn_61, e_Md_goesIn_62, e_Md_goesIn_63, e_Md_goesIn_65, e_Md_goesIn_68, e_Md_goesIn_70, e_Md_goesIn_73, e_Md_goesIn_76, e_Md_goesIn_77, e_Md_goesIn_80, e_Md_goesIn_82, e_Md_goesIn_84, e_Md_goesIn_85, e_Md_goesIn_86, e_Md_goesIn_87, e_Md_goesIn_90, e_Md_goesIn_91, e_Md_goesIn_94, e_Md_goesIn_97, e_Md_goesIn_98, e_Md_goesIn_101, e_Md_goesIn_102, e_Md_goesIn_104, e_Md_goesIn_107, e_Md_goesIn_288, e_Md_goesIn_289, e_Md_goesIn_290, e_Md_goesIn_291, e_Md_goesIn_292, e_Md_goesIn_293, e_Md_goesIn_296, e_Md_goesIn_298, hnn, if_false, hst.2, not_true_eq_false, hpr, hwi, evK_i, evK_v, one_ne, wr_id, ra.2.1, hown.1, hru, hme, e1s, hff, if_neg (show ¬ f = -1 by omega)]
  · have e0 : kSt τ c f = kMt τ c f := if_neg hown
    rw [e0]
    have hvs : (if gI σ 26 0 (240 + f) = 1 then (if gI σ 26 0 f = 2 then gI σ 26 0 (420 + f) else gI σ 26 0 (180 + f)) else 0) = vsN τ f := by
      unfold vsN
      rw [rb.2.1, ra.1, rb.1]
      by_cases z : gI τ 8 f 1 = 2
      · rw [if_pos z, if_pos z, rv hfi.2.2.1 z]
      · rw [if_neg z, if_neg z]
    have hse := c_Md_seenOf f σ ⟨hfi.1, by omega⟩
    rw [hvs] at hse
    have hvr : 1 ≤ vsN τ f ∧ vsN τ f ≤ 999 := by
      unfold vsN
      rw [if_pos hfi.2.2.1]
      by_cases z : gI τ 8 f 1 = 2
      · rw [if_pos z]; have := ir.2.2.2 z; omega
      · rw [if_neg z]; omega
    have hqr : 1 ≤ mtQ τ c f ∧ mtQ τ c f ≤ 999 ∧ mtQ τ c f ≤ gI τ 8 c 4 := by
      unfold mtQ
      split <;> omega
    have hmq : (if vsN τ f ≤ gI σ 25 0 11 then vsN τ f else gI σ 25 0 11) = mtQ τ c f := by
      unfold mtQ
      rw [i11]
      by_cases z : vsN τ f < gI τ 8 c 4
      · rw [if_pos (by omega), if_pos z]
      · rw [if_neg z]
        by_cases z2 : vsN τ f ≤ gI τ 8 c 4
        · rw [if_pos z2]; omega
        · rw [if_neg z2]
    obtain ⟨k1, k2, k3⟩ := step_trade (C := wr ((0 - mtQ τ c f) * gI τ 8 f 7)) (D := wr (mtQ τ c f * gI τ 8 f 7))
      (w1 := gI τ 8 c 2) (q1 := if gI τ 8 c 3 = 0 then mtQ τ c f else -mtQ τ c f) (c1 := if gI τ 8 c 3 = 0 then wr ((0 - mtQ τ c f) * gI τ 8 f 7) else wr (mtQ τ c f * gI τ 8 f 7))
      (w2 := gI τ 8 f 2) (q2 := if gI τ 8 c 3 = 0 then -mtQ τ c f else mtQ τ c f) (c2 := if gI τ 8 c 3 = 0 then wr (mtQ τ c f * gI τ 8 f 7) else wr ((0 - mtQ τ c f) * gI τ 8 f 7))
      (xn := if gI τ 8 c 3 = 0 then nm c else f) (zn := if gI τ 8 c 3 = 0 then f else nm c) hS (by omega) hC hR h4 hf
      (fun y => by rw [wr_adr, wr_sbr, show (0 - mtQ τ c f) * gI τ 8 f 7 = -(gI τ 8 f 7 * mtQ τ c f) by rw [Int.zero_sub, Int.neg_mul, Int.mul_comm], ← Int.sub_eq_add_neg])
      (fun y => by rw [Int.mul_comm])
      (by
        by_cases z : gI τ 8 c 3 = 0
        · simp only [if_pos z, and_self]
        · simp only [if_neg z, and_self])
    have htl := l_goes_tail (tM σ f (mtQ τ c f)) (nm c) (gI τ 8 c 2) (gI τ 8 c 3) qq lm f (gI τ 8 f 7) (vsN τ f) (mtQ τ c f) (gI τ 8 f 2) ⟨hfi.1, by omega⟩ hC.2.2.1 ia.2.2
    have tl : ∀ k, gI (tL σ (mtQ τ c f)) 26 0 k = gI σ 26 0 k := fun k => by
      unfold tL
      simp (disch := omega) only [gI_nt]
    obtain ⟨F1, _⟩ := mLo_eff (tL σ (mtQ τ c f)) f (mtQ τ c f) ⟨hfi.1, by omega⟩ (by omega) (by
      rw [tl, rb.1]
      refine ⟨?_, by omega⟩
      unfold mtQ vsN
      rw [if_pos hfi.2.2.1]
      by_cases z : gI τ 8 f 1 = 2
      · have := ir.2.2.2 z
        rw [if_pos z]; split <;> omega
      · rw [if_neg z]; split <;> omega) (fun z => by
      rw [tl, ra.1] at z
      rw [tl, rv hfi.2.2.1 z]
      have := ir.2.2.2 z
      omega)
    rw [show mLo3 (mLo2 (mLo1 (tL σ (mtQ τ c f)) f (mtQ τ c f)) f) f (mtQ τ c f) = tM σ f (mtQ τ c f) from rfl] at F1
    have htl := htl (by rw [F1 _ (by omega) (by omega) (by omega) (by omega) (by omega) (by omega), tl, ra.2.1]) (by rw [F1 _ (by omega) (by omega) (by omega) (by omega) (by omega) (by omega), tl, hG.1.2.2.2.2.2]; exact hg.2.2.2.2.1.1) (by omega)
    have hmem : (if gI τ 8 c 3 = 0 then mNt (mPy (mPy (tM σ f (mtQ τ c f)) (gI τ 8 c 2) (mtQ τ c f) (wr ((0 - mtQ τ c f) * gI τ 8 f 7))) (gI τ 8 f 2) (-mtQ τ c f) (wr (mtQ τ c f * gI τ 8 f 7))) (nm c) f (gI τ 8 f 7) (mtQ τ c f) else mNt (mPy (mPy (tM σ f (mtQ τ c f)) (gI τ 8 c 2) (-mtQ τ c f) (wr (mtQ τ c f * gI τ 8 f 7))) (gI τ 8 f 2) (mtQ τ c f) (wr ((0 - mtQ τ c f) * gI τ 8 f 7))) f (nm c) (gI τ 8 f 7) (mtQ τ c f)) =
      tS σ f (mtQ τ c f) (gI τ 8 c 2) (if gI τ 8 c 3 = 0 then mtQ τ c f else -mtQ τ c f) (if gI τ 8 c 3 = 0 then wr ((0 - mtQ τ c f) * gI τ 8 f 7) else wr (mtQ τ c f * gI τ 8 f 7)) (gI τ 8 f 2) (if gI τ 8 c 3 = 0 then -mtQ τ c f else mtQ τ c f) (if gI τ 8 c 3 = 0 then wr (mtQ τ c f * gI τ 8 f 7) else wr ((0 - mtQ τ c f) * gI τ 8 f 7)) (if gI τ 8 c 3 = 0 then nm c else f) (if gI τ 8 c 3 = 0 then f else nm c) (gI τ 8 f 7) := by
      unfold tS
      by_cases z : gI τ 8 c 3 = 0
      · simp only [if_pos z]
      · simp only [if_neg z]
    rw [hmem] at htl
    have hff := hfo _ _ k1.1 k1.2.1 k1.2.2.1
    have hlo := c_Md_loses f (mtQ τ c f) (tL σ (mtQ τ c f)) ⟨hfi.1, by omega⟩
    rw [show mLo3 (mLo2 (mLo1 (tL σ (mtQ τ c f)) f (mtQ τ c f)) f) f (mtQ τ c f) = tM σ f (mtQ τ c f) from rfl] at hlo
    have s110 : ev 156 110 [aR 25 0, aI (nm c), aI (gI τ 8 c 2), aI (gI τ 8 c 3), aI qq, aI lm, aI f, a7, a8, a9] [] σ = ev 156 146 [aR 25 0, aI (nm c), aI (gI τ 8 c 2), aI (gI τ 8 c 3), aI qq, aI lm, aI f, aI (gI τ 8 f 7), aI (vsN τ f), aI (mtQ τ c f)] [] σ := by
      rw [← hmq]
      simp (disch := omega) only [e_Md_goesIn_110, e_Md_goesIn_111, e_Md_goesIn_113, e_Md_goesIn_116, e_Md_goesIn_118, e_Md_goesIn_119, e_Md_goesIn_121, e_Md_goesIn_124, e_Md_goesIn_126, e_Md_goesIn_127, e_Md_goesIn_130, e_Md_goesIn_132, e_Md_goesIn_135, e_Md_goesIn_136, e_Md_goesIn_139, e_Md_goesIn_142, e_Md_goesIn_144, hpr, hse, evK_i]
      by_cases z : vsN τ f ≤ gI σ 25 0 11
      · rw [if_pos z, if_pos z]
      · rw [if_neg z, if_neg z]
    have s146 : ev 156 146 [aR 25 0, aI (nm c), aI (gI τ 8 c 2), aI (gI τ 8 c 3), aI qq, aI lm, aI f, aI (gI τ 8 f 7), aI (vsN τ f), aI (mtQ τ c f)] [] σ = ev 156 181 [aR 25 0, aI (nm c), aI (gI τ 8 c 2), aI (gI τ 8 c 3), aI qq, aI lm, aI f, aI (gI τ 8 f 7), aI (vsN τ f), aI (mtQ τ c f)] [] (tM σ f (mtQ τ c f)) := by
      have hd := hR.2.2.1
      have e9 : uI (uI (uI σ 25 0 11 (gI σ 25 0 11 - mtQ τ c f)) 25 0 14 0) 25 0 12 (gI σ 25 0 12 + mtQ τ c f) = tL σ (mtQ τ c f) := rfl
      simp (disch := omega) only [e_Md_goesIn_146, e_Md_goesIn_147, e_Md_goesIn_148, e_Md_goesIn_151, e_Md_goesIn_153, e_Md_goesIn_154, e_Md_goesIn_157, e_Md_goesIn_158, e_Md_goesIn_159, e_Md_goesIn_162, e_Md_goesIn_163, e_Md_goesIn_164, e_Md_goesIn_167, e_Md_goesIn_169, e_Md_goesIn_170, e_Md_goesIn_173, e_Md_goesIn_174, e_Md_goesIn_176, e_Md_goesIn_178, wr_id, gI_self, gI_nt, gI_nj, gL_uI, gR_uI, gI_uL, gR_uL, gI_uR, gL_uR, e9, hlo, evK_v]
    refine ⟨_, aI (gI τ 8 f 7), aI (vsN τ f), aI (mtQ τ c f), ?_, k1, k2, k3, FrM_tS (FrM.rfl σ) _ _ _ _ _ _ _ _ _ _ _, fun c0 c1 => ?_⟩
    rotate_left
    · exact tS_540 σ f _ _ _ _ _ _ _ _ _ _ c hcf hfi.1 (by omega) hC.2.2.1 ia.2.2 (by rw [hG.1.2.2.2.2.2]; exact hg.2.2.2.2.1.1) (fun k k1 k2 k3 k4 k5 k6 => (F1 k k1 k2 k3 k4 k5 k6).trans (tl k)) c0 c1
    have s288 : ∀ (M : aM), ev 147 0 [aR 25 0, aI (oth (gI τ 8 c 3)), aI 0, aU, aU, aU] [] M = some (some (aI (oI (frs (kMt τ c f) (oth (gI τ 8 c 3))))), M) → ev 156 288 [aR 25 0, aI (nm c), aI (gI τ 8 c 2), aI (gI τ 8 c 3), aI qq, aI lm, aI f, aI (gI τ 8 f 7), aI (vsN τ f), aI (mtQ τ c f)] [] M = ev 156 41 [aR 25 0, aI (nm c), aI (gI τ 8 c 2), aI (gI τ 8 c 3), aI qq, aI lm, aI (oI (frs (kMt τ c f) (oth (gI τ 8 c 3)))), aI (gI τ 8 f 7), aI (vsN τ f), aI (mtQ τ c f)] [] M := fun M hM => by
      simp (disch := omega) only [e_Md_goesIn_288, e_Md_goesIn_289, e_Md_goesIn_290, e_Md_goesIn_291, e_Md_goesIn_292, e_Md_goesIn_293, e_Md_goesIn_296, e_Md_goesIn_298, wr_id, e1s, hM, evK_i]
    have s41 : ev 156 41 [aR 25 0, aI (nm c), aI (gI τ 8 c 2), aI (gI τ 8 c 3), aI qq, aI lm, aI f, a7, a8, a9] [] σ = ev 156 110 [aR 25 0, aI (nm c), aI (gI τ 8 c 2), aI (gI τ 8 c 3), aI qq, aI lm, aI f, a7, a8, a9] [] σ := by
      by_cases z1 : gI τ 8 f 2 = gI τ 8 c 2
      · have hru : gI σ 26 0 602 ≤ 0 := by
          rw [hG.1.2.1]
          by_cases z2 : gI τ 6 0 4 = 0
          · omega
          · exact absurd ⟨z1, z2⟩ hown
        simp (disch := omega) only [e_Md_goesIn_41, e_Md_goesIn_42, e_Md_goesIn_45, e_Md_goesIn_48, e_Md_goesIn_49, e_Md_goesIn_52, e_Md_goesIn_55, e_Md_goesIn_57, e_Md_goesIn_58, e_Md_goesIn_61, e_Md_goesIn_62, e_Md_goesIn_63, e_Md_goesIn_65, e_Md_goesIn_68, e_Md_goesIn_70, e_Md_goesIn_73, e_Md_goesIn_76, e_Md_goesIn_77, e_Md_goesIn_80, e_Md_goesIn_82, e_Md_goesIn_84, e_Md_goesIn_85, e_Md_goesIn_86, e_Md_goesIn_87, e_Md_goesIn_90, e_Md_goesIn_91, e_Md_goesIn_94, e_Md_goesIn_97, e_Md_goesIn_98, hnn, if_false, hst.2, not_true_eq_false, hpr, hwi, evK_i, one_ne, wr_id, ra.2.1, z1, if_pos hru, if_neg (show ¬ f = -1 by omega)]
      · simp (disch := omega) only [e_Md_goesIn_41, e_Md_goesIn_42, e_Md_goesIn_45, e_Md_goesIn_48, e_Md_goesIn_49, e_Md_goesIn_52, e_Md_goesIn_55, e_Md_goesIn_57, e_Md_goesIn_58, e_Md_goesIn_61, e_Md_goesIn_62, e_Md_goesIn_63, e_Md_goesIn_65, e_Md_goesIn_68, e_Md_goesIn_70, e_Md_goesIn_73, e_Md_goesIn_76, e_Md_goesIn_77, e_Md_goesIn_80, e_Md_goesIn_82, e_Md_goesIn_84, e_Md_goesIn_85, e_Md_goesIn_86, e_Md_goesIn_87, hnn, if_false, hst.2, not_true_eq_false, hpr, hwi, evK_i, one_ne, wr_id, ra.2.1, z1, not_false_eq_true, if_true, if_neg (show ¬ f = -1 by omega)]
    rw [s41, s110, s146, htl]
    exact s288 _ hff
