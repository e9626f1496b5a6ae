/-! a step of going in, on both sides -/
def IG (τ : aM) (B : Int) : Prop := (0 ≤ gI τ 9 0 4 ∧ gI τ 9 0 4 ≤ 999) ∧ (0 ≤ gI τ 6 0 4 ∧ gI τ 6 0 4 ≤ 3) ∧ (0 ≤ gI τ 6 0 3 ∧ gI τ 6 0 3 ≤ 1) ∧ (0 ≤ gI τ 6 0 6 ∧ gI τ 6 0 6 ≤ B) ∧ (0 ≤ gI τ 9 0 3 ∧ gI τ 9 0 3 ≤ B) ∧ (∀ i, 0 ≤ i → i < 60 → gI τ 8 i 0 = i) ∧ gI τ 8 120 0 = -1
def Sim (τ σ : aM) (c B : Int) : Prop := RO τ σ c ∧ IO τ c ∧ DT τ ∧ GL τ σ ∧ IG τ B
/-- of one that comes -/
def CC (τ : aM) (c : Int) : Prop := ((0 ≤ c ∧ c < gI τ 6 0 2) ∨ c = 120) ∧ (0 ≤ gI τ 8 c 3 ∧ gI τ 8 c 3 ≤ 1) ∧ (0 ≤ gI τ 8 c 2 ∧ gI τ 8 c 2 < 8) ∧ (0 ≤ gI τ 8 c 4 ∧ gI τ 8 c 4 ≤ 999)
def CR (τ σ : aM) (c T : Int) : Prop := gI σ 25 0 11 = gI τ 8 c 4 ∧ gI τ 8 c 6 = wr (T + gI σ 25 0 12) ∧ (0 ≤ gI σ 25 0 12 ∧ gI σ 25 0 12 + gI τ 8 c 4 ≤ 999) ∧
  ((gI τ 8 c 5 = 4 ∧ 1 ≤ gI τ 8 c 4 ∧ gI σ 25 0 13 = 0) ∨ (gI τ 8 c 5 = 3 ∧ 1 ≤ gI τ 8 c 4 ∧ gI σ 25 0 13 = 1) ∨ (gI τ 8 c 5 = 2 ∧ gI τ 8 c 4 = 0 ∧ gI σ 25 0 13 = 0 ∧ gI σ 25 0 14 = 0) ∨ (gI τ 8 c 5 = 3 ∧ gI τ 8 c 4 = 0 ∧ gI σ 25 0 13 = 0 ∧ gI σ 25 0 14 = 1))
def nm (c : Int) : Int := if c = 120 then -1 else c
theorem numC {τ : aM} {B c : Int} (hG : IG τ B) (hC : CC τ c) (h6 : gI τ 6 0 2 ≤ 60) : gI τ 8 c 0 = nm c := by
  unfold nm
  obtain ⟨_, _, _, _, _, h1, h2⟩ := hG
  by_cases q : c = 120
  · rw [if_pos q, q]; exact h2
  · rw [if_neg q]
    exact h1 c (by have := hC.1; omega) (by have := hC.1; omega)
def tL (σ : aM) (q : Int) : aM := uI (uI (uI σ 25 0 11 (gI σ 25 0 11 - q)) 25 0 14 0) 25 0 12 (gI σ 25 0 12 + q)
def tM (σ : aM) (f q : Int) : aM := mLo3 (mLo2 (mLo1 (tL σ q) f q) f) f q
def tS (σ : aM) (f q w1 q1 c1 w2 q2 c2 xn zn p : Int) : aM := mNt (mPy (mPy (tM σ f q) w1 q1 c1) w2 q2 c2) xn zn p q
theorem step_trade {τ σ : aM} {c B T f xn zn w1 q1 c1 w2 q2 c2 C D : Int} (hS : Sim τ σ c B) (hB : B + 1 < 2147483648) (hC : CC τ c) (hR : CR τ σ c T) (h4 : gI τ 8 c 5 = 4) (hf : frs τ (oth (gI τ 8 c 3)) = some f)
    (hCC : ∀ y, wr (y + C) = wr (y - wr (gI τ 8 f 7 * mtQ τ c f))) (hDD : ∀ y, wr (y + D) = wr (y + wr (gI τ 8 f 7 * mtQ τ c f)))
    (hw : if gI τ 8 c 3 = 0 then (w1 = gI τ 8 c 2 ∧ q1 = mtQ τ c f ∧ c1 = C ∧ w2 = gI τ 8 f 2 ∧ q2 = -mtQ τ c f ∧ c2 = D ∧ xn = nm c ∧ zn = f) else (w1 = gI τ 8 c 2 ∧ q1 = -mtQ τ c f ∧ c1 = D ∧ w2 = gI τ 8 f 2 ∧ q2 = mtQ τ c f ∧ c2 = C ∧ xn = f ∧ zn = nm c)) :
    Sim (kMt τ c f) (tS σ f (mtQ τ c f) w1 q1 c1 w2 q2 c2 xn zn (gI τ 8 f 7)) c (B + 1) ∧ CC (kMt τ c f) c ∧ CR (kMt τ c f) (tS σ f (mtQ τ c f) w1 q1 c1 w2 q2 c2 xn zn (gI τ 8 f 7)) c T := by
  obtain ⟨hO, hI, hD, hG, hg⟩ := hS
  have hc6 := hO.1.2
  have hfi := frs_in hc6.1 hf
  have hnf := numC hg hC hc6.2
  have hcf : ¬ c = f := fun q => by rw [q] at h4; omega
  obtain ⟨ra, rb, rt, rv, rc⟩ := RO.p hO hfi.1 hfi.2.1
  obtain ⟨ia, ib, ip, idd, is, ir⟩ := IO_p hI hfi.1 hfi.2.1
  have ir := ir hfi.2.2.1
  have rb := rb (fun q => hcf q.symm)
  have rt := rt hfi.2.2.1
  have rv := rv hfi.2.2.1
  have hst : gI τ 8 c 5 = 4 ∧ 1 ≤ gI τ 8 c 4 ∧ gI σ 25 0 13 = 0 := by
    rcases hR.2.2.2 with y | y | y | y
    · exact y
    · omega
    · omega
    · omega
  have hvs : 1 ≤ vsN τ f ∧ vsN τ f ≤ gI τ 8 f 4 ∧ (gI τ 8 f 1 = 2 → vsN τ f = gI τ 8 f 9) := by
    unfold vsN
    rw [if_pos hfi.2.2.1]
    by_cases q : gI τ 8 f 1 = 2
    · have := ir.2.2.2 q
      rw [if_pos q]
      exact ⟨this.1, this.2, fun _ => rfl⟩
    · rw [if_neg q]
      exact ⟨ir.2.1, Int.le_refl _, fun z => absurd z q⟩
  have hq : 1 ≤ mtQ τ c f ∧ mtQ τ c f ≤ gI τ 8 f 4 ∧ mtQ τ c f ≤ gI τ 8 c 4 ∧ (gI τ 8 f 1 = 2 → mtQ τ c f ≤ gI τ 8 f 9) := by
    unfold mtQ
    by_cases q : vsN τ f < gI τ 8 c 4
    · rw [if_pos q]
      exact ⟨hvs.1, hvs.2.1, by omega, fun z => by rw [hvs.2.2 z]; omega⟩
    · rw [if_neg q]
      exact ⟨by omega, by omega, by omega, fun z => by rw [← hvs.2.2 z]; omega⟩
  obtain ⟨E1, E2, ⟨E3, E4, E5⟩, E6, ⟨E7, E8, E9⟩, E10, E11, E12⟩ := kMt_eff τ c f hcf hfi.2.2.1 ⟨by omega, hq.2.1, hq.2.2.1⟩ ⟨ib.1.2, hC.2.2.2.2⟩ (fun z => ⟨hq.2.2.2 z, by have := ir.2.2.2 z; omega⟩)
  have hKo := fun t i j h8 h6 => g_kMt_o τ c f t i j h8 h6
  have hT3 := kMt_T τ c f
  have hnz : 0 ≤ gI τ 9 0 3 ∧ gI τ 9 0 3 ≤ B := hg.2.2.2.2.1
  -- the reference's loss
  have tl : ∀ k, gI (tL σ (mtQ τ c f)) 26 0 k = gI σ 26 0 k := fun k => by
    unfold tL
    simp (disch := omega) only [gI_nt]
  have F := mLo_eff (tL σ (mtQ τ c f)) f (mtQ τ c f) (by omega) (by omega) (by rw [tl, rb.1]; omega) (fun z => by
    rw [tl, ra.1] at z
    rw [tl, rv z]
    have := ir.2.2.2 z
    omega)
  rw [show mLo3 (mLo2 (mLo1 (tL σ (mtQ τ c f)) f (mtQ τ c f)) f) f (mtQ τ c f) = tM σ f (mtQ τ c f) from rfl] at F
  have hren : rnM (tL σ (mtQ τ c f)) f (mtQ τ c f) = ren τ c f := by
    unfold rnM ren
    rw [tl, tl, tl, ra.1, rb.1]
    refine propext ⟨fun z => ⟨z.1, z.2.1, ?_⟩, fun z => ⟨z.1, z.2.1, ?_⟩⟩
    · have := rv z.1; omega
    · have := rv z.1; have := hq.2.2.2 z.1; have := z.2.2; omega
  simp only [hren] at F
  simp only [tl] at F
  obtain ⟨F1, F2, F3, F4, F5, F6, F7⟩ := F
  have rw12 : (0 ≤ w1 ∧ w1 < 8) ∧ (0 ≤ w2 ∧ w2 < 8) := by
    have o1 := hC.2.2.1
    have o2 := ia.2.2
    split at hw <;> omega
  have py : ∀ k, ¬ (607 ≤ k ∧ k < 623) → gI (mPy (mPy (tM σ f (mtQ τ c f)) w1 q1 c1) w2 q2 c2) 26 0 k = gI (tM σ f (mtQ τ c f)) 26 0 k := fun k hk => by
    rw [g_mPy _ _ _ _ _ rw12.2, if_neg (by omega), if_neg (by omega), g_mPy _ _ _ _ _ rw12.1, if_neg (by omega), if_neg (by omega)]
  have p6 : gI (mPy (mPy (tM σ f (mtQ τ c f)) w1 q1 c1) w2 q2 c2) 26 0 606 = gI τ 9 0 3 := by rw [py _ (by omega), F1 _ (by omega) (by omega) (by omega) (by omega) (by omega) (by omega)]; exact hG.1.2.2.2.2.2
  have nt : ∀ k, k ≤ 600 → gI (tS σ f (mtQ τ c f) w1 q1 c1 w2 q2 c2 xn zn (gI τ 8 f 7)) 26 0 k = gI (tM σ f (mtQ τ c f)) 26 0 k := fun k k7 => by
    rw [← py k (by omega)]
    rcases g_mNt (mPy (mPy (tM σ f (mtQ τ c f)) w1 q1 c1) w2 q2 c2) xn zn (gI τ 8 f 7) (mtQ τ c f) k (by omega) (by omega) (by omega) with y | y
    · exact y
    · rw [p6] at y; omega
  have n25 : ∀ j, gI (tS σ f (mtQ τ c f) w1 q1 c1 w2 q2 c2 xn zn (gI τ 8 f 7)) 25 0 j = gI (tL σ (mtQ τ c f)) 25 0 j := fun j => by
    unfold tS tM
    rw [g_mNt_o _ _ _ _ _ _ _ _ (by decide), g_mPy_o _ _ _ _ _ _ _ (by decide), g_mPy_o _ _ _ _ _ _ _ (by decide), g_mLo_25 _ _ _ _ _ _ (by decide)]
  have N2 : gI (kMt τ c f) 6 0 2 = gI τ 6 0 2 := by rw [E12, if_neg (fun z => by have := z.2.2; omega)]
  have N6 : gI (kMt τ c f) 6 0 6 = if ren τ c f then wr (gI τ 6 0 6 + 1) else gI τ 6 0 6 := by
    rw [E12]
    by_cases z : ren τ c f
    · rw [if_pos ⟨z, rfl, rfl⟩, if_pos z]
    · rw [if_neg (fun y => z y.1), if_neg z]
  have N6a : gI τ 6 0 6 ≤ gI (kMt τ c f) 6 0 6 ∧ gI (kMt τ c f) 6 0 6 ≤ gI τ 6 0 6 + 1 ∧ (ren τ c f → gI (kMt τ c f) 6 0 6 = gI τ 6 0 6 + 1) := by
    have hn := hg.2.2.2.1
    rw [N6]
    by_cases z : ren τ c f
    · rw [if_pos z, wr_id (by omega) (by omega)]; exact ⟨by omega, by omega, fun _ => rfl⟩
    · rw [if_neg z]; exact ⟨by omega, by omega, fun y => absurd y z⟩
  have hk6 : ∀ k : Int, 0 ≤ k → k < 60 → ¬ k = f → EqS σ (tS σ f (mtQ τ c f) w1 q1 c1 w2 q2 c2 xn zn (gI τ 8 f 7)) k := fun k k0 k1 kf => EqS_of k0 k1 (fun z z0 z1 z2 => by
    rw [nt _ (by omega), F1 _ (by omega) (by omega) (by omega) (by omega) (by omega) (by omega)])
  have hU := updO (τ' := kMt τ c f) (σ' := tS σ f (mtQ τ c f) w1 q1 c1 w2 q2 c2 xn zn (gI τ 8 f 7)) (c' := c) (f0 := f) (fun o => o = c ∨ o = f) hO hI hD N2 N6a.1 (by rw [nt _ (by omega), F1 _ (by omega) (by omega) (by omega) (by omega) (by omega) (by omega)]) (fun o o0 o1 hm => ?_) (fun o o0 o1 hm => ?_)
  · refine ⟨⟨hU.1, hU.2.1, hU.2.2, ?_, ?_⟩, ?_, ?_⟩
    · have hM : ∀ k, 600 ≤ k → ¬ k = 605 → gI (tM σ f (mtQ τ c f)) 26 0 k = gI σ 26 0 k := fun k k0 k1 => F1 _ (by omega) (by omega) (by omega) (by omega) (by omega) k1
      have hM5 : gI (tM σ f (mtQ τ c f)) 26 0 605 = gI (kMt τ c f) 6 0 6 := by rw [F7, N6, hG.1.2.2.2.2.1]
      have h6 : gI (kMt τ c f) 6 0 3 = gI τ 6 0 3 ∧ gI (kMt τ c f) 6 0 4 = gI τ 6 0 4 ∧ gI (kMt τ c f) 6 0 5 = gI τ 6 0 5 := ⟨by rw [E12, if_neg (fun z => by have := z.2.2; omega)], by rw [E12, if_neg (fun z => by have := z.2.2; omega)], by rw [E12, if_neg (fun z => by have := z.2.2; omega)]⟩
      have hnc := hnf
      have hnn : gI τ 8 f 0 = f := hg.2.2.2.2.2.1 f hfi.1 (by omega)
      by_cases h3 : gI τ 8 c 3 = 0
      · rw [if_pos h3] at hw
        obtain ⟨y1, y2, y3, y4, y5, y6, y7, y8⟩ := hw
        refine GL_trade (x := c) (z := f) (C := C) (D := D) hG hnz.1 hM hM5 h6 (fun t i j t8 t6 => ?_) (by rw [y7]; exact hnc) (by rw [y8]; exact hnn) hC.2.2.1 ia.2.2 hCC hDD (Or.inl ⟨y1, y2, y3, y4, y5, y6⟩)
        rw [hKo t i j t8 t6, if_pos h3]
      · rw [if_neg h3] at hw
        obtain ⟨y1, y2, y3, y4, y5, y6, y7, y8⟩ := hw
        refine GL_trade (x := f) (z := c) (C := C) (D := D) hG hnz.1 hM hM5 h6 (fun t i j t8 t6 => ?_) (by rw [y7]; exact hnn) (by rw [y8]; exact hnc) ia.2.2 hC.2.2.1 hCC hDD (Or.inr ⟨y1, y2, y3, y4, y5, y6⟩)
        rw [hKo t i j t8 t6, if_neg h3]
    · have eL : gI (kMt τ c f) 9 0 4 = gI τ 8 f 7 := by
        rw [hKo _ _ _ (by decide) (by decide)]
        split <;> exact g_kNtL _ _ _ _ _
      have e4 : gI (kMt τ c f) 6 0 4 = gI τ 6 0 4 := by rw [E12, if_neg (fun z => by have := z.2.2; omega)]
      have e3 : gI (kMt τ c f) 6 0 3 = gI τ 6 0 3 := by rw [E12, if_neg (fun z => by have := z.2.2; omega)]
      obtain ⟨g1, g2, g3, g4, g5, g6, g7⟩ := hg
      refine ⟨by rw [eL]; exact ib.2.1, by rw [e4]; exact g2, by rw [e3]; exact g3, by omega, by rw [hT3, wr_id (by omega) (by omega)]; omega, fun i i0 i1 => ?_, ?_⟩
      · by_cases z1 : i = c
        · subst z1; rw [E2 0 (by omega) (by omega) (by omega)]; exact g6 _ i0 i1
        · by_cases z2 : i = f
          · subst z2; rw [E6 0 (by omega) (by omega) (by omega) (by omega) (by omega)]; exact g6 _ i0 i1
          · rw [E1 i 0 z1 z2]; exact g6 i i0 i1
      · by_cases z1 : c = 120
        · have := E2 0 (by omega) (by omega) (by omega)
          rw [z1] at this ⊢
          rw [this]; exact g7
        · rw [E1 120 0 (by omega) (by omega)]; exact g7
    · obtain ⟨d1, d2, d3, d4⟩ := hC
      refine ⟨by rw [N2]; exact d1, by rw [E2 3 (by omega) (by omega) (by omega)]; exact d2, by rw [E2 2 (by omega) (by omega) (by omega)]; exact d3, by rw [E3]; omega⟩
    · obtain ⟨d1, d2, d3, d4⟩ := hR
      have u11 : gI (tL σ (mtQ τ c f)) 25 0 11 = gI σ 25 0 11 - mtQ τ c f := by unfold tL; simp (disch := omega) only [gI_self, gI_nt, gI_nj, gL_uI, gR_uI, gI_uL, gR_uL, gI_uR, gL_uR]
      have u12 : gI (tL σ (mtQ τ c f)) 25 0 12 = gI σ 25 0 12 + mtQ τ c f := by unfold tL; simp (disch := omega) only [gI_self, gI_nt, gI_nj, gL_uI, gR_uI, gI_uL, gR_uL, gI_uR, gL_uR]
      have u13 : gI (tL σ (mtQ τ c f)) 25 0 13 = gI σ 25 0 13 := by unfold tL; simp (disch := omega) only [gI_self, gI_nt, gI_nj, gL_uI, gR_uI, gI_uL, gR_uL, gI_uR, gL_uR]
      have u14 : gI (tL σ (mtQ τ c f)) 25 0 14 = 0 := by unfold tL; simp (disch := omega) only [gI_self, gI_nt, gI_nj, gL_uI, gR_uI, gI_uL, gR_uL, gI_uR, gL_uR]
      refine ⟨by rw [n25, u11, E3, d1], by rw [n25, u12, E4, d2, wr_add]; congr 1; omega, by rw [n25, u12, E3]; omega, ?_⟩
      rw [n25, n25, u13, u14, E5, E3]
      by_cases z : gI τ 8 c 4 - mtQ τ c f = 0
      · rw [if_pos z]
        exact Or.inr (Or.inr (Or.inl ⟨rfl, z, hst.2.2, rfl⟩))
      · rw [if_neg z]
        exact Or.inl ⟨h4, by omega, hst.2.2⟩
  · exact ⟨EqC_of (fun j => E1 o j (fun z => hm (Or.inl z)) (fun z => hm (Or.inr z))), hk6 o o0 (by omega) (fun z => hm (Or.inr z)), Iff.rfl⟩
  · by_cases hof : o = f
    · subst hof
      have k1 := E6 1 (by omega) (by omega) (by omega) (by omega) (by omega)
      have k2 := E6 2 (by omega) (by omega) (by omega) (by omega) (by omega)
      have k3 := E6 3 (by omega) (by omega) (by omega) (by omega) (by omega)
      have k7 := E6 7 (by omega) (by omega) (by omega) (by omega) (by omega)
      have k8 := E6 8 (by omega) (by omega) (by omega) (by omega) (by omega)
      have hn := hg.2.2.2.1
      have w6 : wr (gI τ 6 0 6 + 1) = gI τ 6 0 6 + 1 := wr_id (by omega) (by omega)
      have s605 := hG.1.2.2.2.2.1
      have st1 : gI (kMt τ c o) 8 o 5 = 1 → 1 ≤ gI τ 8 o 4 - mtQ τ c o := fun z => by
        rw [E9] at z
        by_cases y : gI τ 8 o 4 - mtQ τ c o = 0
        · rw [if_pos y] at z; omega
        · omega
      refine ⟨⟨⟨?_, ?_, ?_, ?_, ?_⟩, fun _ => ⟨?_, ?_, ?_⟩, fun z => ?_, fun z z2 => ?_, fun z => absurd z.symm hcf⟩, ⟨?_, ?_, ?_, ?_, fun _ => ?_, fun z => ?_⟩, fun z => ?_⟩
      · rw [nt _ (by omega), F1 _ (by omega) (by omega) (by omega) (by omega) (by omega) (by omega), k1, ra.1]
      · rw [nt _ (by omega), F1 _ (by omega) (by omega) (by omega) (by omega) (by omega) (by omega), k2, ra.2.1]
      · rw [nt _ (by omega), F1 _ (by omega) (by omega) (by omega) (by omega) (by omega) (by omega), k3, ra.2.2.1]
      · rw [nt _ (by omega), F1 _ (by omega) (by omega) (by omega) (by omega) (by omega) (by omega), k7, ra.2.2.2.1]
      · rw [nt _ (by omega), F1 _ (by omega) (by omega) (by omega) (by omega) (by omega) (by omega), k8, ra.2.2.2.2]
      · rw [nt _ (by omega), F2, E7, rb.1]
      · rw [nt _ (by omega), F4, E9, rb.2.1, hfi.2.2.1, rb.1]
      · rw [nt _ (by omega), F3, E8, rb.2.2]
      · rw [nt _ (by omega), F6, E11]
        by_cases y : ren τ c o
        · rw [if_pos y, if_pos y, s605, w6]
        · rw [if_neg y, if_neg y, rt]
      · rw [k1] at z2
        have s1 := st1 z
        rw [nt _ (by omega), F5 (by rw [ra.1]; exact z2), E10]
        by_cases y : ren τ c o
        · rw [if_pos y, if_pos y, rb.1, ra.2.2.2.2]
          by_cases y2 : gI τ 8 o 4 - mtQ τ c o < gI τ 8 o 8
          · rw [if_pos y2, if_neg (by omega)]
          · rw [if_neg y2]
            by_cases y3 : gI τ 8 o 8 < gI τ 8 o 4 - mtQ τ c o
            · rw [if_pos y3]
            · rw [if_neg y3]; omega
        · rw [if_neg y, if_neg y, if_pos ⟨z2, s1⟩, rv z2]
      · rw [k1, k2, k3]; exact ia
      · rw [E7, k7, k8, E8, wr_wr]; exact ⟨by omega, ib.2.1, ib.2.2.1, rfl⟩
      · rw [k1, k7]; exact ip
      · rw [k1, k8]; exact idd
      · rw [E9]
        by_cases y : gI τ 8 o 4 - mtQ τ c o = 0
        · rw [if_pos y]; exact ⟨by omega, fun z => by omega⟩
        · rw [if_neg y]; exact ⟨by omega, fun z => by omega⟩
      · have s1 := st1 z
        rw [k1, E7, E11, E10]
        refine ⟨ir.1, s1, ?_, fun y => ?_⟩
        · by_cases y : ren τ c o
          · rw [if_pos y]; have := N6a.2.2 y; omega
          · rw [if_neg y]; have := ir.2.2.1; omega
        · have hv := ir.2.2.2 y
          have hd := idd y
          by_cases y2 : ren τ c o
          · rw [if_pos y2]
            split <;> omega
          · rw [if_neg y2, if_pos ⟨y, s1⟩]
            have : ¬ gI τ 8 o 9 - mtQ τ c o ≤ 0 := fun y3 => y2 ⟨y, s1, y3⟩
            omega
      · rw [E11]
        by_cases y : ren τ c o
        · rw [if_pos y]; exact Or.inr ⟨Int.le_refl _, rfl⟩
        · rw [if_neg y]; exact Or.inl ⟨hfi.2.2.1, rfl⟩
    · have hoc : o = c := hm.elim id (fun z => absurd z hof)
      subst hoc
      have hs := hk6 o o0 (by omega) hof
      obtain ⟨qa, qb, qt, qv, qc⟩ := RO.p hO o0 o1
      obtain ⟨ja, jb, jp, jd, js, jr⟩ := IO_p hI o0 o1
      have qc := (qc rfl).1
      have k1 := E2 1 (by omega) (by omega) (by omega)
      have k2 := E2 2 (by omega) (by omega) (by omega)
      have k3 := E2 3 (by omega) (by omega) (by omega)
      have k7 := E2 7 (by omega) (by omega) (by omega)
      have k8 := E2 8 (by omega) (by omega) (by omega)
      obtain ⟨⟨s1, s2, s3, s4, s5⟩, ⟨s6, s7, s8⟩, s9, s10⟩ := hs
      have n1 : ¬ gI (kMt τ o f) 8 o 5 = 1 := by
        rw [E5]
        split <;> omega
      refine ⟨⟨?_, fun z => absurd rfl z, fun z => absurd z n1, fun z => absurd z n1, fun _ => ⟨by rw [s7]; exact qc, n1⟩⟩, ⟨?_, ?_, ?_, ?_, fun z => absurd rfl z, fun z => absurd z n1⟩, fun z => absurd z n1⟩
      · rw [s1, s2, s3, s4, s5, k1, k2, k3, k7, k8]; exact qa
      · rw [k1, k2, k3]; exact ja
      · rw [E3, k7, k8, E4, wr_wr]; exact ⟨by omega, jb.2.1, jb.2.2.1, rfl⟩
      · rw [k1, k7]; exact jp
      · rw [k1, k8]; exact jd
