/-! own orders meet, on both sides -/
theorem mMe_eff (σ : aM) (f l : Int) (h : 0 ≤ f ∧ f < 60) (hl : 0 ≤ l ∧ l ≤ gI σ 26 0 (180 + f) ∧ gI σ 26 0 (180 + f) ≤ 999) :
    (∀ k, ¬ k = 180 + f → ¬ k = 240 + f → ¬ k = 420 + f → gI (mMe3 (mMe2 (mMe1 σ f l) f) f) 26 0 k = gI σ 26 0 k) ∧
    gI (mMe3 (mMe2 (mMe1 σ f l) f) f) 26 0 (180 + f) = gI σ 26 0 (180 + f) - l ∧
    gI (mMe3 (mMe2 (mMe1 σ f l) f) f) 26 0 (240 + f) = (if gI σ 26 0 (180 + f) - l = 0 then 3 else gI σ 26 0 (240 + f)) ∧
    gI (mMe3 (mMe2 (mMe1 σ f l) f) f) 26 0 (420 + f) = (if gI σ 26 0 f = 2 ∧ gI σ 26 0 (180 + f) - l < gI σ 26 0 (420 + f) then gI σ 26 0 (180 + f) - l else gI σ 26 0 (420 + f)) ∧
    (∀ j, gI (mMe3 (mMe2 (mMe1 σ f l) f) f) 25 0 j = if j = 14 then 1 else if j = 11 then wr (gI σ 25 0 11 - l) else gI σ 25 0 j) := by
  have w1 : wr (gI σ 26 0 (180 + f) - l) = gI σ 26 0 (180 + f) - l := wr_id (by omega) (by omega)
  have a1 : gI (mMe1 σ f l) 26 0 (180 + f) = gI σ 26 0 (180 + f) - l := by
    unfold mMe1
    simp (disch := omega) only [gI_self, gI_nt, gI_nj, gL_uI, gR_uI, gI_uL, gR_uL, gI_uR, gL_uR, w1]
  have ak : ∀ k, ¬ k = 180 + f → gI (mMe1 σ f l) 26 0 k = gI σ 26 0 k := fun k k1 => by
    unfold mMe1
    simp (disch := omega) only [gI_self, gI_nt, gI_nj, gL_uI, gR_uI, gI_uL, gR_uL, gI_uR, gL_uR]
  have a25 : ∀ j, gI (mMe1 σ f l) 25 0 j = if j = 14 then 1 else if j = 11 then wr (gI σ 25 0 11 - l) else gI σ 25 0 j := fun j => by
    unfold mMe1
    rw [gI_nt _ _ _ _ _ _ _ _ (by decide), gI_uI]
    by_cases c1 : j = 14
    · rw [if_pos ⟨rfl, rfl, c1⟩, if_pos c1]
    · rw [if_neg (fun z => c1 z.2.2), if_neg c1, gI_uI]
      by_cases c2 : j = 11
      · rw [if_pos ⟨rfl, rfl, c2⟩, if_pos c2]
      · rw [if_neg (fun z => c2 z.2.2), if_neg c2]
  have bk : ∀ t k, ¬ (t = 26 ∧ k = 240 + f) → gI (mMe2 (mMe1 σ f l) f) t 0 k = gI (mMe1 σ f l) t 0 k := fun t k k1 => by
    unfold mMe2
    split
    · rw [gI_uI, if_neg (fun z => k1 ⟨z.1, z.2.2⟩)]
    · rfl
  have b5 : gI (mMe2 (mMe1 σ f l) f) 26 0 (240 + f) = if gI σ 26 0 (180 + f) - l = 0 then 3 else gI σ 26 0 (240 + f) := by
    unfold mMe2
    rw [a1]
    split
    · simp (disch := omega) only [gI_self, gI_nt, gI_nj, gL_uI, gR_uI, gI_uL, gR_uL, gI_uR, gL_uR]
    · exact ak _ (by omega)
  have b1 : gI (mMe2 (mMe1 σ f l) f) 26 0 f = gI σ 26 0 f := by rw [bk _ _ (by omega), ak _ (by omega)]
  have b4 : gI (mMe2 (mMe1 σ f l) f) 26 0 (180 + f) = gI σ 26 0 (180 + f) - l := by rw [bk _ _ (by omega), a1]
  have b9 : gI (mMe2 (mMe1 σ f l) f) 26 0 (420 + f) = gI σ 26 0 (420 + f) := by rw [bk _ _ (by omega), ak _ (by omega)]
  unfold mMe3
  rw [b1, b4, b9]
  by_cases c1 : gI σ 26 0 f = 2 ∧ gI σ 26 0 (180 + f) - l < gI σ 26 0 (420 + f)
  · rw [if_pos c1, if_pos c1]
    refine ⟨fun k k1 k2 k3 => ?_, ?_, ?_, ?_, fun j => ?_⟩
    · rw [gI_nj _ _ _ _ _ _ _ _ k3, bk _ _ (fun z => k2 z.2), ak _ k1]
    · simp (disch := omega) only [gI_self, gI_nt, gI_nj, gL_uI, gR_uI, gI_uL, gR_uL, gI_uR, gL_uR, b4]
    · simp (disch := omega) only [gI_self, gI_nt, gI_nj, gL_uI, gR_uI, gI_uL, gR_uL, gI_uR, gL_uR, b5]
    · simp (disch := omega) only [gI_self, gI_nt, gI_nj, gL_uI, gR_uI, gI_uL, gR_uL, gI_uR, gL_uR]
    · rw [gI_nt _ _ _ _ _ _ _ _ (by decide), bk _ _ (by omega), a25]
  · rw [if_neg c1, if_neg c1]
    refine ⟨fun k k1 k2 k3 => ?_, b4, b5, b9, fun j => ?_⟩
    · rw [bk _ _ (fun z => k2 z.2), ak _ k1]
    · rw [bk _ _ (by omega), a25]
theorem GL_same {τ σ τ' σ' : aM} (h : GL τ σ) (hs : ∀ k, 601 ≤ k → gI σ' 26 0 k = gI σ 26 0 k) (ht : ∀ t i j, ¬ t = 8 → gI τ' t i j = gI τ t i j) : GL τ' σ' := by
  obtain ⟨⟨b1, b2, b3, b4, b5, b6⟩, bp, bf⟩ := h
  refine ⟨⟨?_, ?_, ?_, ?_, ?_, ?_⟩, fun w w0 w8 => ?_, fun k k0 k8 => ?_⟩
  · rw [hs _ (by omega), ht _ _ _ (by decide), b1]
  · rw [hs _ (by omega), ht _ _ _ (by decide), b2]
  · rw [hs _ (by omega), ht _ _ _ (by decide), b3]
  · rw [hs _ (by omega), ht _ _ _ (by decide), b4]
  · rw [hs _ (by omega), ht _ _ _ (by decide), b5]
  · rw [hs _ (by omega), ht _ _ _ (by decide), b6]
  · rw [hs _ (by omega), hs _ (by omega), ht _ _ _ (by decide), ht _ _ _ (by decide)]; exact bp w w0 w8
  · rw [hs _ (by omega), ht _ _ _ (by decide)]; exact bf k k0 k8
theorem IG_same {τ τ' : aM} {B : Int} (h : IG τ B) (ht : ∀ t i j, ¬ t = 8 → gI τ' t i j = gI τ t i j) (h8 : ∀ i, gI τ' 8 i 0 = gI τ 8 i 0) : IG τ' B := by
  unfold IG
  rw [ht 9 0 4 (by decide), ht 6 0 4 (by decide), ht 6 0 3 (by decide), ht 6 0 6 (by decide), ht 9 0 3 (by decide), h8 120]
  obtain ⟨g1, g2, g3, g4, g5, g6, g7⟩ := h
  exact ⟨g1, g2, g3, g4, g5, fun i i0 i1 => by rw [h8]; exact g6 i i0 i1, g7⟩
theorem IG_mono {τ : aM} {B B' : Int} (h : IG τ B) (hb : B ≤ B') : IG τ B' := by
  obtain ⟨g1, g2, g3, g4, g5, g6, g7⟩ := h
  exact ⟨g1, g2, g3, by omega, by omega, g6, g7⟩
theorem Sim_mono {τ σ : aM} {c B B' : Int} (h : Sim τ σ c B) (hb : B ≤ B') : Sim τ σ c B' := ⟨h.1, h.2.1, h.2.2.1, h.2.2.2.1, IG_mono h.2.2.2.2 hb⟩
theorem step_own {τ σ : aM} {c B T f : Int} (hS : Sim τ σ c B) (hC : CC τ c) (hR : CR τ σ c T) (h4 : gI τ 8 c 5 = 4) (hf : frs τ (oth (gI τ 8 c 3)) = some f) (hr : ¬ gI τ 6 0 4 = 0) :
    Sim (kMo τ c f) (mMe σ f) c B ∧ CC (kMo τ c f) c ∧ CR (kMo τ c f) (mMe σ f) c T := by
  obtain ⟨hO, hI, hD, hG, hg⟩ := hS
  have hc6 := hO.1.2
  have hfi := frs_in hc6.1 hf
  have hcf : ¬ c = f := fun q => by rw [q] at h4; omega
  obtain ⟨ra, rb, rt, rv, rc⟩ := RO.p hO hfi.1 hfi.2.1
  obtain ⟨ia, ib, ip, idd, is, ir⟩ := IO_p hI hfi.1 hfi.2.1
  have ir := ir hfi.2.2.1
  have rb := rb (fun q => hcf q.symm)
  have rt := rt hfi.2.2.1
  have rv := rv hfi.2.2.1
  have hst : gI τ 8 c 5 = 4 ∧ 1 ≤ gI τ 8 c 4 ∧ gI σ 25 0 13 = 0 := by
    rcases hR.2.2.2 with y | y | y | y
    · exact y
    · omega
    · omega
    · omega
  have hrr := hg.2.1
  have h602 := hG.1.2.1
  by_cases r1 : gI τ 6 0 4 = 1
  · have e1 : kMo τ c f = uI τ 8 c 5 3 := if_pos r1
    have e2 : mMe σ f = uI σ 25 0 13 1 := if_pos (h602.trans r1)
    rw [e1, e2]
    have t8 : ∀ t i j, ¬ t = 8 → gI (uI τ 8 c 5 3) t i j = gI τ t i j := fun t i j z => gI_nt _ _ _ _ _ _ _ _ z
    have s26 : ∀ k, gI (uI σ 25 0 13 1) 26 0 k = gI σ 26 0 k := fun k => gI_nt _ _ _ _ _ _ _ _ (by decide)
    have cj : ∀ i j, ¬ j = 5 → gI (uI τ 8 c 5 3) 8 i j = gI τ 8 i j := fun i j z => gI_nj _ _ _ _ _ _ _ _ z
    have c5 : gI (uI τ 8 c 5 3) 8 c 5 = 3 := gI_self _ _ _ _ _
    have hU := updO (τ' := uI τ 8 c 5 3) (σ' := uI σ 25 0 13 1) (c' := c) (f0 := f) (fun o => o = c) hO hI hD (t8 _ _ _ (by decide)) (by rw [t8 _ _ _ (by decide)]; exact Int.le_refl _) (s26 _) (fun o o0 o1 hm => ⟨EqC_of (fun j => gI_ni _ _ _ _ _ _ _ _ hm), EqS_of o0 (by omega) (fun k _ _ _ => s26 k), Iff.rfl⟩) (fun o o0 o1 hm => ?_)
    · refine ⟨⟨hU.1, hU.2.1, hU.2.2, GL_same hG (fun k _ => s26 k) t8, IG_same hg t8 (fun i => cj i 0 (by omega))⟩, ?_, ?_⟩
      · obtain ⟨d1, d2, d3, d4⟩ := hC
        refine ⟨by rw [t8 _ _ _ (by decide)]; exact d1, by rw [cj _ _ (by omega)]; exact d2, by rw [cj _ _ (by omega)]; exact d3, by rw [cj _ _ (by omega)]; exact d4⟩
      · obtain ⟨d1, d2, d3, d4⟩ := hR
        have u : ∀ j, ¬ j = 13 → gI (uI σ 25 0 13 1) 25 0 j = gI σ 25 0 j := fun j z => gI_nj _ _ _ _ _ _ _ _ z
        refine ⟨by rw [u _ (by omega), cj _ _ (by omega)]; exact d1, by rw [u _ (by omega), cj _ _ (by omega)]; exact d2, by rw [u _ (by omega), cj _ _ (by omega)]; exact d3, Or.inr (Or.inl ⟨c5, by rw [cj _ _ (by omega)]; exact hst.2.1, gI_self _ _ _ _ _⟩)⟩
    · subst hm
      obtain ⟨qa, qb, qt, qv, qc⟩ := RO.p hO o0 o1
      obtain ⟨ja, jb, jp, jd, js, jr⟩ := IO_p hI o0 o1
      have n1 : ¬ gI (uI τ 8 o 5 3) 8 o 5 = 1 := by rw [c5]; omega
      refine ⟨⟨?_, fun z => absurd rfl z, fun z => absurd z n1, fun z => absurd z n1, fun _ => ⟨by rw [s26]; exact (qc rfl).1, n1⟩⟩, ⟨?_, ?_, ?_, ?_, fun z => absurd rfl z, fun z => absurd z n1⟩, fun z => absurd z n1⟩
      · rw [s26, s26, s26, s26, s26, cj _ _ (by omega), cj _ _ (by omega), cj _ _ (by omega), cj _ _ (by omega), cj _ _ (by omega)]; exact qa
      · rw [cj _ _ (by omega), cj _ _ (by omega), cj _ _ (by omega)]; exact ja
      · rw [cj _ _ (by omega), cj _ _ (by omega), cj _ _ (by omega), cj _ _ (by omega)]; exact jb
      · rw [cj _ _ (by omega), cj _ _ (by omega)]; exact jp
      · rw [cj _ _ (by omega), cj _ _ (by omega)]; exact jd
  · by_cases r2 : gI τ 6 0 4 = 2
    · have e1 : kMo τ c f = uI τ 8 f 5 3 := by unfold kMo; rw [if_neg r1, if_pos r2]
      have e2 : mMe σ f = uI σ 26 0 (240 + f) 3 := by unfold mMe; rw [h602, if_neg r1, if_pos r2]
      rw [e1, e2]
      have t8 : ∀ t i j, ¬ t = 8 → gI (uI τ 8 f 5 3) t i j = gI τ t i j := fun t i j z => gI_nt _ _ _ _ _ _ _ _ z
      have s26 : ∀ k, ¬ k = 240 + f → gI (uI σ 26 0 (240 + f) 3) 26 0 k = gI σ 26 0 k := fun k z => gI_nj _ _ _ _ _ _ _ _ z
      have s25 : ∀ k, gI (uI σ 26 0 (240 + f) 3) 25 0 k = gI σ 25 0 k := fun k => gI_nt _ _ _ _ _ _ _ _ (by decide)
      have cj : ∀ i j, ¬ j = 5 → gI (uI τ 8 f 5 3) 8 i j = gI τ 8 i j := fun i j z => gI_nj _ _ _ _ _ _ _ _ z
      have ci : ∀ i j, ¬ i = f → gI (uI τ 8 f 5 3) 8 i j = gI τ 8 i j := fun i j z => gI_ni _ _ _ _ _ _ _ _ z
      have c5 : gI (uI τ 8 f 5 3) 8 f 5 = 3 := gI_self _ _ _ _ _
      have hU := updO (τ' := uI τ 8 f 5 3) (σ' := uI σ 26 0 (240 + f) 3) (c' := c) (f0 := f) (fun o => o = f) hO hI hD (t8 _ _ _ (by decide)) (by rw [t8 _ _ _ (by decide)]; exact Int.le_refl _) (s26 _ (by omega)) (fun o o0 o1 hm => ⟨EqC_of (fun j => ci _ _ hm), EqS_of o0 (by omega) (fun k _ _ _ => s26 k (by omega)), Iff.rfl⟩) (fun o o0 o1 hm => ?_)
      · refine ⟨⟨hU.1, hU.2.1, hU.2.2, GL_same hG (fun k _ => s26 k (by omega)) t8, IG_same hg t8 (fun i => cj i 0 (by omega))⟩, ?_, ?_⟩
        · obtain ⟨d1, d2, d3, d4⟩ := hC
          refine ⟨by rw [t8 _ _ _ (by decide)]; exact d1, by rw [ci _ _ hcf]; exact d2, by rw [ci _ _ hcf]; exact d3, by rw [ci _ _ hcf]; exact d4⟩
        · unfold CR
          rw [s25, s25, s25, s25, ci _ _ hcf, ci _ _ hcf, ci _ _ hcf]
          exact hR
      · subst hm
        have n1 : ¬ gI (uI τ 8 o 5 3) 8 o 5 = 1 := by rw [c5]; omega
        refine ⟨⟨?_, fun _ => ⟨?_, ?_, ?_⟩, fun z => absurd z n1, fun z => absurd z n1, fun z => absurd z.symm hcf⟩, ⟨?_, ?_, ?_, ?_, fun _ => ?_, fun z => absurd z n1⟩, fun z => absurd z n1⟩
        · rw [s26 _ (by omega), s26 _ (by omega), s26 _ (by omega), s26 _ (by omega), s26 _ (by omega), cj _ _ (by omega), cj _ _ (by omega), cj _ _ (by omega), cj _ _ (by omega), cj _ _ (by omega)]; exact ra
        · rw [s26 _ (by omega), cj _ _ (by omega)]; exact rb.1
        · rw [c5]; exact gI_self _ _ _ _ _
        · rw [s26 _ (by omega), cj _ _ (by omega)]; exact rb.2.2
        · rw [cj _ _ (by omega), cj _ _ (by omega), cj _ _ (by omega)]; exact ia
        · rw [cj _ _ (by omega), cj _ _ (by omega), cj _ _ (by omega), cj _ _ (by omega)]; exact ib
        · rw [cj _ _ (by omega), cj _ _ (by omega)]; exact ip
        · rw [cj _ _ (by omega), cj _ _ (by omega)]; exact idd
        · rw [c5]; exact ⟨by omega, fun z => by omega⟩
    · have hl : ∃ l, (if gI τ 8 f 4 < gI τ 8 c 4 then gI τ 8 f 4 else gI τ 8 c 4) = l ∧ (if gI σ 25 0 11 < gI σ 26 0 (180 + f) then gI σ 25 0 11 else gI σ 26 0 (180 + f)) = l ∧ 0 ≤ l ∧ l ≤ gI τ 8 f 4 ∧ l ≤ gI τ 8 c 4 := by
        refine ⟨_, rfl, ?_, ?_⟩
        · rw [hR.1, rb.1]
          by_cases z : gI τ 8 f 4 < gI τ 8 c 4
          · rw [if_pos z, if_neg (by omega)]
          · rw [if_neg z]
            by_cases z2 : gI τ 8 c 4 < gI τ 8 f 4
            · rw [if_pos z2]
            · rw [if_neg z2]; omega
        · split <;> omega
      obtain ⟨l, l1, l2, l0, lf, lc⟩ := hl
      have e1 : kMo τ c f = kLb (kLb τ c l) f l := by unfold kMo; rw [if_neg r1, if_neg r2, l1]
      have e2 : mMe σ f = mMe3 (mMe2 (mMe1 σ f l) f) f := by unfold mMe; rw [h602, if_neg r1, if_neg r2, l2]
      obtain ⟨F1, F2, F3, F4, F5⟩ := mMe_eff σ f l ⟨hfi.1, by omega⟩ ⟨l0, by rw [rb.1]; exact lf, by rw [rb.1]; omega⟩
      rw [← e2] at F1 F2 F3 F4 F5
      have wc : wr (gI τ 8 c 4 - l) = gI τ 8 c 4 - l := wr_id (by omega) (by have := hC.2.2.2; omega)
      have wf : wr (gI τ 8 f 4 - l) = gI τ 8 f 4 - l := wr_id (by omega) (by omega)
      have hcf' : ¬ f = c := fun z => hcf z.symm
      have G : ∀ t i j, gI (kMo τ c f) t i j = if t = 8 ∧ i = f ∧ j = 4 then gI τ 8 f 4 - l else if t = 8 ∧ i = f ∧ j = 9 then (if gI τ 8 f 4 - l < gI τ 8 f 9 then gI τ 8 f 4 - l else gI τ 8 f 9) else if t = 8 ∧ i = f ∧ j = 5 ∧ gI τ 8 f 4 - l = 0 then 3 else gI (kLb τ c l) t i j := fun t i j => by
        have a4 : gI (kLb τ c l) 8 f 4 = gI τ 8 f 4 := by rw [g_kLb, if_neg (fun z => hcf' z.2.1), if_neg (fun z => hcf' z.2.1), if_neg (fun z => hcf' z.2.1)]
        have a9 : gI (kLb τ c l) 8 f 9 = gI τ 8 f 9 := by rw [g_kLb, if_neg (fun z => hcf' z.2.1), if_neg (fun z => hcf' z.2.1), if_neg (fun z => hcf' z.2.1)]
        rw [e1, g_kLb, a4, a9, wf]
      have H : ∀ t i j, gI (kLb τ c l) t i j = if t = 8 ∧ i = c ∧ j = 4 then gI τ 8 c 4 - l else if t = 8 ∧ i = c ∧ j = 9 then (if gI τ 8 c 4 - l < gI τ 8 c 9 then gI τ 8 c 4 - l else gI τ 8 c 9) else if t = 8 ∧ i = c ∧ j = 5 ∧ gI τ 8 c 4 - l = 0 then 3 else gI τ t i j := fun t i j => by rw [g_kLb, wc]
      have t8 : ∀ t i j, ¬ t = 8 → gI (kMo τ c f) t i j = gI τ t i j := fun t i j z => by rw [G, if_neg (fun y => z y.1), if_neg (fun y => z y.1), if_neg (fun y => z y.1), H, if_neg (fun y => z y.1), if_neg (fun y => z y.1), if_neg (fun y => z y.1)]
      have oj : ∀ i j, ¬ i = c → ¬ i = f → gI (kMo τ c f) 8 i j = gI τ 8 i j := fun i j z z2 => by rw [G, if_neg (fun y => z2 y.2.1), if_neg (fun y => z2 y.2.1), if_neg (fun y => z2 y.2.1), H, if_neg (fun y => z y.2.1), if_neg (fun y => z y.2.1), if_neg (fun y => z y.2.1)]
      have same : ∀ i j, ¬ j = 4 → ¬ j = 5 → ¬ j = 9 → gI (kMo τ c f) 8 i j = gI τ 8 i j := fun i j j4 j5 j9 => by rw [G, if_neg (fun y => j4 y.2.2), if_neg (fun y => j9 y.2.2), if_neg (fun y => j5 y.2.2.1), H, if_neg (fun y => j4 y.2.2), if_neg (fun y => j9 y.2.2), if_neg (fun y => j5 y.2.2.1)]
      have c4 : gI (kMo τ c f) 8 c 4 = gI τ 8 c 4 - l := by rw [G, if_neg (fun y => hcf y.2.1), if_neg (fun y => hcf y.2.1), if_neg (fun y => hcf y.2.1), H, if_pos ⟨rfl, rfl, rfl⟩]
      have c5 : gI (kMo τ c f) 8 c 5 = if gI τ 8 c 4 - l = 0 then 3 else 4 := by
        rw [G, if_neg (fun y => hcf y.2.1), if_neg (fun y => hcf y.2.1), if_neg (fun y => hcf y.2.1), H, if_neg (by omega), if_neg (by omega), h4]
        by_cases z : gI τ 8 c 4 - l = 0
        · rw [if_pos ⟨rfl, rfl, rfl, z⟩, if_pos z]
        · rw [if_neg (fun y => z y.2.2.2), if_neg z]
      have f4 : gI (kMo τ c f) 8 f 4 = gI τ 8 f 4 - l := by rw [G, if_pos ⟨rfl, rfl, rfl⟩]
      have f9 : gI (kMo τ c f) 8 f 9 = if gI τ 8 f 4 - l < gI τ 8 f 9 then gI τ 8 f 4 - l else gI τ 8 f 9 := by rw [G, if_neg (by omega), if_pos ⟨rfl, rfl, rfl⟩]
      have f5 : gI (kMo τ c f) 8 f 5 = if gI τ 8 f 4 - l = 0 then 3 else 1 := by
        rw [G, if_neg (by omega), if_neg (by omega)]
        by_cases z : gI τ 8 f 4 - l = 0
        · rw [if_pos ⟨rfl, rfl, rfl, z⟩, if_pos z]
        · rw [if_neg (fun y => z y.2.2.2), if_neg z, H, if_neg (fun y => hcf' y.2.1), if_neg (fun y => hcf' y.2.1), if_neg (fun y => hcf' y.2.1)]; exact hfi.2.2.1
      have hk6 : ∀ k : Int, 0 ≤ k → k < 60 → ¬ k = f → EqS σ (mMe σ f) k := fun k k0 k1 kf => EqS_of k0 k1 (fun z z0 z1 z2 => F1 _ (by omega) (by omega) (by omega))
      have hU := updO (τ' := kMo τ c f) (σ' := mMe σ f) (c' := c) (f0 := f) (fun o => o = c ∨ o = f) hO hI hD (t8 _ _ _ (by decide)) (by rw [t8 _ _ _ (by decide)]; exact Int.le_refl _) (F1 _ (by omega) (by omega) (by omega)) (fun o o0 o1 hm => ?_) (fun o o0 o1 hm => ?_)
      · refine ⟨⟨hU.1, hU.2.1, hU.2.2, GL_same hG (fun k _ => F1 k (by omega) (by omega) (by omega)) t8, IG_same hg t8 (fun i => same i 0 (by omega) (by omega) (by omega))⟩, ?_, ?_⟩
        · obtain ⟨d1, d2, d3, d4⟩ := hC
          refine ⟨by rw [t8 _ _ _ (by decide)]; exact d1, by rw [same _ _ (by omega) (by omega) (by omega)]; exact d2, by rw [same _ _ (by omega) (by omega) (by omega)]; exact d3, by rw [c4]; omega⟩
        · obtain ⟨d1, d2, d3, d4⟩ := hR
          have u11 : gI (mMe σ f) 25 0 11 = gI τ 8 c 4 - l := by rw [F5, if_neg (by omega), if_pos rfl, d1, wc]
          have u12 : gI (mMe σ f) 25 0 12 = gI σ 25 0 12 := by rw [F5, if_neg (by omega), if_neg (by omega)]
          have u13 : gI (mMe σ f) 25 0 13 = gI σ 25 0 13 := by rw [F5, if_neg (by omega), if_neg (by omega)]
          have u14 : gI (mMe σ f) 25 0 14 = 1 := by rw [F5, if_pos rfl]
          refine ⟨by rw [u11, c4], by rw [u12, same _ _ (by omega) (by omega) (by omega)]; exact d2, by rw [u12, c4]; omega, ?_⟩
          rw [c5, c4, u13, u14]
          by_cases z : gI τ 8 c 4 - l = 0
          · rw [if_pos z]; exact Or.inr (Or.inr (Or.inr ⟨rfl, z, hst.2.2, rfl⟩))
          · rw [if_neg z]; exact Or.inl ⟨rfl, by omega, hst.2.2⟩
      · exact ⟨EqC_of (fun j => oj o j (fun z => hm (Or.inl z)) (fun z => hm (Or.inr z))), hk6 o o0 (by omega) (fun z => hm (Or.inr z)), Iff.rfl⟩
      · have k1 := same o 1 (by omega) (by omega) (by omega)
        have k2 := same o 2 (by omega) (by omega) (by omega)
        have k3 := same o 3 (by omega) (by omega) (by omega)
        have k6 := same o 6 (by omega) (by omega) (by omega)
        have k7 := same o 7 (by omega) (by omega) (by omega)
        have k8 := same o 8 (by omega) (by omega) (by omega)
        have k10 := same o 10 (by omega) (by omega) (by omega)
        by_cases hof : o = f
        · subst hof
          have st1 : gI (kMo τ c o) 8 o 5 = 1 → 1 ≤ gI τ 8 o 4 - l := fun z => by
            rw [f5] at z
            by_cases y : gI τ 8 o 4 - l = 0
            · rw [if_pos y] at z; omega
            · omega
          refine ⟨⟨?_, fun _ => ⟨?_, ?_, ?_⟩, fun z => ?_, fun z z2 => ?_, fun z => absurd z hcf'⟩, ⟨?_, ?_, ?_, ?_, fun _ => ?_, fun z => ?_⟩, fun z => ?_⟩
          · rw [F1 _ (by omega) (by omega) (by omega), F1 _ (by omega) (by omega) (by omega), F1 _ (by omega) (by omega) (by omega), F1 _ (by omega) (by omega) (by omega), F1 _ (by omega) (by omega) (by omega), k1, k2, k3, k7, k8]; exact ra
          · rw [F2, f4, rb.1]
          · rw [F3, f5, rb.1, rb.2.1, hfi.2.2.1]
          · rw [F1 _ (by omega) (by omega) (by omega), k6]; exact rb.2.2
          · rw [F1 _ (by omega) (by omega) (by omega), k10]; exact rt
          · rw [k1] at z2
            rw [F4, f9, ra.1, rb.1, rv z2]
            by_cases y : gI τ 8 o 4 - l < gI τ 8 o 9
            · rw [if_pos ⟨z2, y⟩, if_pos y]
            · rw [if_neg (fun x => y x.2), if_neg y]
          · rw [k1, k2, k3]; exact ia
          · rw [f4, k7, k8, k6]; exact ⟨by omega, ib.2⟩
          · rw [k1, k7]; exact ip
          · rw [k1, k8]; exact idd
          · rw [f5]; split <;> exact ⟨by omega, fun z => by omega⟩
          · have s1 := st1 z
            rw [k1, f4, k10, f9, t8 _ _ _ (by decide)]
            exact ⟨ir.1, s1, ir.2.2.1, fun y => by have := ir.2.2.2 y; split <;> omega⟩
          · exact Or.inl ⟨hfi.2.2.1, k10⟩
        · have hoc : o = c := hm.elim id (fun z => absurd z hof)
          subst hoc
          obtain ⟨qa, qb, qt, qv, qc⟩ := RO.p hO o0 o1
          obtain ⟨ja, jb, jp, jd, js, jr⟩ := IO_p hI o0 o1
          obtain ⟨⟨s1, s2, s3, s4, s5⟩, ⟨s6, s7, s8⟩, s9, s10⟩ := hk6 o o0 (by omega) hof
          have n1 : ¬ gI (kMo τ o f) 8 o 5 = 1 := by rw [c5]; split <;> omega
          refine ⟨⟨?_, fun z => absurd rfl z, fun z => absurd z n1, fun z => absurd z n1, fun _ => ⟨by rw [s7]; exact (qc rfl).1, n1⟩⟩, ⟨?_, ?_, ?_, ?_, fun z => absurd rfl z, fun z => absurd z n1⟩, fun z => absurd z n1⟩
          · rw [s1, s2, s3, s4, s5, k1, k2, k3, k7, k8]; exact qa
          · rw [k1, k2, k3]; exact ja
          · rw [c4, k7, k8, k6]; exact ⟨by omega, jb.2⟩
          · rw [k1, k7]; exact jp
          · rw [k1, k8]; exact jd
