/-! own orders meet, on both sides -/
theorem mMe_eff (σ : aM) (f l : Int) (h : 0 ≤ f ∧ f < 60) (hl : 0 ≤ l ∧ l ≤ gI σ 26 0 (180 + f) ∧ gI σ 26 0 (180 + f) ≤ 999) :
    (∀ k, ¬ k = 180 + f → ¬ k = 240 + f → ¬ k = 420 + f → gI (mMe3 (mMe2 (mMe1 σ f l) f) f) 26 0 k = gI σ 26 0 k) ∧
    gI (mMe3 (mMe2 (mMe1 σ f l) f) f) 26 0 (180 + f) = gI σ 26 0 (180 + f) - l ∧
    gI (mMe3 (mMe2 (mMe1 σ f l) f) f) 26 0 (240 + f) = (if gI σ 26 0 (180 + f) - l = 0 then 3 else gI σ 26 0 (240 + f)) ∧
    gI (mMe3 (mMe2 (mMe1 σ f l) f) f) 26 0 (420 + f) = (if gI σ 26 0 f = 2 ∧ gI σ 26 0 (180 + f) - l < gI σ 26 0 (420 + f) then gI σ 26 0 (180 + f) - l else gI σ 26 0 (420 + f)) ∧
    (∀ j, gI (mMe3 (mMe2 (mMe1 σ f l) f) f) 25 0 j = if j = 14 then 1 else if j = 11 then wr (gI σ 25 0 11 - l) else gI σ 25 0 j) := by
  have w1 : wr (gI σ 26 0 (180 + f) - l) = gI σ 26 0 (180 + f) - l := wr_id (by omega) (by omega)
  have a1 : gI (mMe1 σ f l) 26 0 (180 + f) = gI σ 26 0 (180 + f) - l := by
    unfold mMe1
    simp (disch := omega) only [gI_self, gI_nt, gI_nj, gL_uI, gR_uI, gI_uL, gR_uL, gI_uR, gL_uR, w1]
  have ak : ∀ k, ¬ k = 180 + f → gI (mMe1 σ f l) 26 0 k = gI σ 26 0 k := fun k k1 => by
    unfold mMe1
    simp (disch := omega) only [gI_self, gI_nt, gI_nj, gL_uI, gR_uI, gI_uL, gR_uL, gI_uR, gL_uR]
  have a25 : ∀ j, gI (mMe1 σ f l) 25 0 j = if j = 14 then 1 else if j = 11 then wr (gI σ 25 0 11 - l) else gI σ 25 0 j := fun j => by
    unfold mMe1
    rw [gI_nt _ _ _ _ _ _ _ _ (by decide), gI_uI]
    by_cases c1 : j = 14
    · rw [if_pos ⟨rfl, rfl, c1⟩, if_pos c1]
    · rw [if_neg (fun z => c1 z.2.2), if_neg c1, gI_uI]
      by_cases c2 : j = 11
      · rw [if_pos ⟨rfl, rfl, c2⟩, if_pos c2]
      · rw [if_neg (fun z => c2 z.2.2), if_neg c2]
  have bk : ∀ t k, ¬ (t = 26 ∧ k = 240 + f) → gI (mMe2 (mMe1 σ f l) f) t 0 k = gI (mMe1 σ f l) t 0 k := fun t k k1 => by
    unfold mMe2
    split
    · rw [gI_uI, if_neg (fun z => k1 ⟨z.1, z.2.2⟩)]
    · rfl
  have b5 : gI (mMe2 (mMe1 σ f l) f) 26 0 (240 + f) = if gI σ 26 0 (180 + f) - l = 0 then 3 else gI σ 26 0 (240 + f) := by
    unfold mMe2
    rw [a1]
    split
    · simp (disch := omega) only [gI_self, gI_nt, gI_nj, gL_uI, gR_uI, gI_uL, gR_uL, gI_uR, gL_uR]
    · exact ak _ (by omega)
  have b1 : gI (mMe2 (mMe1 σ f l) f) 26 0 f = gI σ 26 0 f := by rw [bk _ _ (by omega), ak _ (by omega)]
  have b4 : gI (mMe2 (mMe1 σ f l) f) 26 0 (180 + f) = gI σ 26 0 (180 + f) - l := by rw [bk _ _ (by omega), a1]
  have b9 : gI (mMe2 (mMe1 σ f l) f) 26 0 (420 + f) = gI σ 26 0 (420 + f) := by rw [bk _ _ (by omega), ak _ (by omega)]
  unfold mMe3
  rw [b1, b4, b9]
  by_cases c1 : gI σ 26 0 f = 2 ∧ gI σ 26 0 (180 + f) - l < gI σ 26 0 (420 + f)
  · rw [if_pos c1, if_pos c1]
    refine ⟨fun k k1 k2 k3 => ?_, ?_, ?_, ?_, fun j => ?_⟩
    · rw [gI_nj _ _ _ _ _ _ _ _ k3, bk _ _ (fun z => k2 z.2), ak _ k1]
    · simp (disch := omega) only [gI_self, gI_nt, gI_nj, gL_uI, gR_uI, gI_uL, gR_uL, gI_uR, gL_uR, b4]
    · simp (disch := omega) only [gI_self, gI_nt, gI_nj, gL_uI, gR_uI, gI_uL, gR_uL, gI_uR, gL_uR, b5]
    · simp (disch := omega) only [gI_self, gI_nt, gI_nj, gL_uI, gR_uI, gI_uL, gR_uL, gI_uR, gL_uR]
    · rw [gI_nt _ _ _ _ _ _ _ _ (by decide), bk _ _ (by omega), a25]
  · rw [if_neg c1, if_neg c1]
    refine ⟨fun k k1 k2 k3 => ?_, b4, b5, b9, fun j => ?_⟩
    · rw [bk _ _ (fun z => k2 z.2), ak _ k1]
    · rw [bk _ _ (by omega), a25]
theorem GL_same {τ σ τ' σ' : aM} (h : GL τ σ) (hs : ∀ k, 601 ≤ k → gI σ' 26 0 k = gI σ 26 0 k) (ht : ∀ t i j, ¬ t = 8 → gI τ' t i j = gI τ t i j) : GL τ' σ' := by
  obtain ⟨⟨b1, b2, b3, b4, b5, b6⟩, bp, bf⟩ := h
  refine ⟨⟨?_, ?_, ?_, ?_, ?_, ?_⟩, fun w w0 w8 => ?_, fun k k0 k8 => ?_⟩
  · rw [hs _ (by omega), ht _ _ _ (by decide), b1]
  · rw [hs _ (by omega), ht _ _ _ (by decide), b2]
  · rw [hs _ (by omega), ht _ _ _ (by decide), b3]
  · rw [hs _ (by omega), ht _ _ _ (by decide), b4]
  · rw [hs _ (by omega), ht _ _ _ (by decide), b5]
  · rw [hs _ (by omega), ht _ _ _ (by decide), b6]
  · rw [hs _ (by omega), hs _ (by omega), ht _ _ _ (by decide), ht _ _ _ (by decide)]; exact bp w w0 w8
  · rw [hs _ (by omega), ht _ _ _ (by decide)]; exact bf k k0 k8
theorem IG_same {τ τ' : aM} {B : Int} (h : IG τ B) (ht : ∀ t i j, ¬ t = 8 → gI τ' t i j = gI τ t i j) (h8 : ∀ i, gI τ' 8 i 0 = gI τ 8 i 0) : IG τ' B := by
  unfold IG
  rw [ht 9 0 4 (by decide), ht 6 0 4 (by decide), ht 6 0 3 (by decide), ht 6 0 6 (by decide), ht 9 0 3 (by decide), h8 120]
  obtain ⟨g1, g2, g3, g4, g5, g6, g7⟩ := h
  exact ⟨g1, g2, g3, g4, g5, fun i i0 i1 => by rw [h8]; exact g6 i i0 i1, g7⟩
theorem IG_mono {τ : aM} {B B' : Int} (h : IG τ B) (hb : B ≤ B') : IG τ B' := by
  obtain ⟨g1, g2, g3, g4, g5, g6, g7⟩ := h
  exact ⟨g1, g2, g3, by omega, by omega, g6, g7⟩
theorem Sim_mono {τ σ : aM} {c B B' : Int} (h : Sim τ σ c B) (hb : B ≤ B') : Sim τ σ c B' := ⟨h.1, h.2.1, h.2.2.1, h.2.2.2.1, IG_mono h.2.2.2.2 hb⟩
theorem step_own {τ σ : aM} {c B T f : Int} (hS : Sim τ σ c B) (hC : CC τ c) (hR : CR τ σ c T) (h4 : gI τ 8 c 5 = 4) (hf : frs τ (oth (gI τ 8 c 3)) = some f) (hr : ¬ gI τ 6 0 4 = 0) :
    Sim (kMo τ c f) (mMe σ f) c B ∧ CC (kMo τ c f) c ∧ CR (kMo τ c f) (mMe σ f) c T := by
  obtain ⟨hO, hI, hD, hG, hg⟩ := hS
  have hc6 := hO.1.2
  have hfi := frs_in hc6.1 hf
  have hcf : ¬ c = f := fun q => by rw [q] at h4; omega
  obtain ⟨ra, rb, rt, rv, rc⟩ := RO.p hO hfi.1 hfi.2.1
  obtain ⟨ia, ib, ip, idd, is, ir⟩ := IO_p hI hfi.1 hfi.2.1
  have ir := ir hfi.2.2.1
  have rb := rb (fun q => hcf q.symm)
  have rt := rt hfi.2.2.1
  have rv := rv hfi.2.2.1
  have hst : gI τ 8 c 5 = 4 ∧ 1 ≤ gI τ 8 c 4 ∧ gI σ 25 0 13 = 0 := by
    rcases hR.2.2.2 with y | y | y | y
    · exact y
    · omega
    · omega
    · omega
  have hrr := hg.2.1
  have h602 := hG.1.2.1
  by_cases r1 : gI τ 6 0 4 = 1
  · have e1 : kMo τ c f = uI τ 8 c 5 3 := if_pos r1
    have e2 : mMe σ f = uI σ 25 0 13 1 := if_pos (h602.trans r1)
    rw [e1, e2]
    have t8 : ∀ t i j, ¬ t = 8 → gI (uI τ 8 c 5 3) t i j = gI τ t i j := fun t i j z => gI_nt _ _ _ _ _ _ _ _ z
    have s26 : ∀ k, gI (uI σ 25 0 13 1) 26 0 k = gI σ 26 0 k := fun k => gI_nt _ _ _ _ _ _ _ _ (by decide)
    have cj : ∀ i j, ¬ j = 5 → gI (uI τ 8 c 5 3) 8 i j = gI τ 8 i j := fun i j z => gI_nj _ _ _ _ _ _ _ _ z
    have c5 : gI (uI τ 8 c 5 3) 8 c 5 = 3 := gI_self _ _ _ _ _
    have hU := updO (τ' := uI τ 8 c 5 3) (σ' := uI σ 25 0 13 1) (c' := c) (f0 := f) (fun o => o = c) hO hI hD (t8 _ _ _ (by decide)) (by rw [t8 _ _ _ (by decide)]; exact Int.le_refl _) (s26 _) (fun o o0 o1 hm => ⟨EqC_of (fun j => gI_ni _ _ _ _ _ _ _ _ hm), EqS_of o0 (by omega) (fun k _ _ _ => s26 k), Iff.rfl⟩) (fun o o0 o1 hm => ?_)
    · refine ⟨⟨hU.1, hU.2.1, hU.2.2, GL_same hG (fun k _ => s26 k) t8, IG_same hg t8 (fun i => cj i 0 (by omega))⟩, ?_, ?_⟩
      · obtain ⟨d1, d2, d3, d4⟩ := hC
        refine ⟨by rw [t8 _ _ _ (by decide)]; exact d1, by rw [cj _ _ (by omega)]; exact d2, by rw [cj _ _ (by omega)]; exact d3, by rw [cj _ _ (by omega)]; exact d4⟩
      · obtain ⟨d1, d2, d3, d4⟩ := hR
        have u : ∀ j, ¬ j = 13 → gI (uI σ 25 0 13 1) 25 0 j = gI σ 25 0 j := fun j z => gI_nj _ _ _ _ _ _ _ _ z
        refine ⟨by rw [u _ (by omega), cj _ _ (by omega)]; exact d1, by rw [u _ (by omega), cj _ _ (by omega)]; exact d2, by rw [u _ (by omega), cj _ _ (by omega)]; exact d3, Or.inr (Or.inl ⟨c5, by rw [cj _ _ (by omega)]; exact hst.2.1, gI_self _ _ _ _ _⟩)⟩
    · subst hm
      obtain ⟨qa, qb, qt, qv, qc⟩ := RO.p hO o0 o1
      obtain ⟨ja, jb, jp, jd, js, jr⟩ := IO_p hI o0 o1
      have n1 : ¬ gI (uI τ 8 o 5 3) 8 o 5 = 1 := by rw [c5]; omega
      refine ⟨⟨?_, fun z => absurd rfl z, fun z => absurd z n1, fun z => absurd z n1, fun _ => ⟨by rw [s26]; exact (qc rfl).1, n1⟩⟩, ⟨?_, ?_, ?_, ?_, fun z => absurd rfl z, fun z => absurd z n1⟩, fun z => absurd z n1⟩
      · rw [s26, s26, s26, s26, s26, cj _ _ (by omega), cj _ _ (by omega), cj _ _ (by omega), cj _ _ (by omega), cj _ _ (by omega)]; exact qa
      · rw [cj _ _ (by omega), cj _ _ (by omega), cj _ _ (by omega)]; exact ja
      · rw [cj _ _ (by omega), cj _ _ (by omega), cj _ _ (by omega)]; exact jb
      · rw [cj _ _ (by omega), cj _ _ (by omega)]; exact jp
      · rw [cj _ _ (by omega), cj _ _ (by omega)]; exact jd
  · by_cases r2 : gI τ 6 0 4 = 2
    · have e1 : kMo τ c f = uI τ 8 f 5 3 := by unfold kMo; rw [if_neg r1, if_pos r2]
      have e2 : mMe σ f = uI σ 26 0 (240 + f) 3 := by unfold mMe; rw [h602, if_neg r1, if_pos r2]
      rw [e1, e2]
      have t8 : ∀ t i j, ¬ t = 8 → gI (uI τ 8 f 5 3) t i j = gI τ t i j := fun t i j z => gI_nt _ _ _ _ _ _ _ _ z
      have s26 : ∀ k, ¬ k = 240 + f → gI (uI σ 26 0 (240 + f) 3) 26 0 k = gI σ 26 0 k := fun k z => gI_nj _ _ _ _ _ _ _ _ z
      have s25 : ∀ k, gI (uI σ 26 0 (240 + f) 3) 25 0 k = gI σ 25 0 k := fun k => gI_nt _ _ _ _ _ _ _ _ (by decide)
      have cj : ∀ i j, ¬ j = 5 → gI (uI τ 8 f 5 3) 8 i j = gI τ 8 i j := fun i j z => gI_nj _ _ _ _ _ _ _ _ z
      have ci : ∀ i j, ¬ i = f → gI (uI τ 8 f 5 3) 8 i j = gI τ 8 i j := fun i j z => gI_ni _ _ _ _ _ _ _ _ z
      have c5 : gI (uI τ 8 f 5 3) 8 f 5 = 3 := gI_self _ _ _ _ _
      have hU := updO (τ' := uI τ 8 f 5 3) (σ' := uI σ 26 0 (240 + f) 3) (c' := c) (f0 := f) (fun o => o = f) hO hI hD (t8 _ _ _ (by decide)) (by rw [t8 _ _ _ (by decide)]; exact Int.le_refl _) (s26 _ (by omega)) (fun o o0 o1 hm => ⟨EqC_of (fun j => ci _ _ hm), EqS_of o0 (by omega) (fun k _ _ _ => s26 k (by omega)), Iff.rfl⟩) (fun o o0 o1 hm => ?_)
      · refine ⟨⟨hU.1, hU.2.1, hU.2.2, GL_same hG (fun k _ => s26 k (by omega)) t8, IG_same hg t8 (fun i => cj i 0 (by omega))⟩, ?_, ?_⟩
        · obtain ⟨d1, d2, d3, d4⟩ := hC
          refine ⟨by rw [t8 _ _ _ (by decide)]; exact d1, by rw [ci _ _ hcf]; exact d2, by rw [ci _ _ hcf]; exact d3, by rw [ci _ _ hcf]; exact d4⟩
        · unfold CR
          rw [s25, s25, s25, s25, ci _ _ hcf, ci _ _ hcf, ci _ _ hcf]
          exact hR
      · subst hm
        have n1 : ¬ gI (uI τ 8 o 5 3) 8 o 5 = 1 := by rw [c5]; omega
        refine ⟨⟨?_, fun _ => ⟨?_, ?_, ?_⟩, fun z => absurd z n1, fun z => absurd z n1, fun z => absurd z.symm hcf⟩, ⟨?_, ?_, ?_, ?_, fun _ => ?_, fun z => absurd z n1⟩, fun z => absurd z n1⟩
        · rw [s26 _ (by omega), s26 _ (by omega), s26 _ (by omega), s26 _ (by omega), s26 _ (by omega), cj _ _ (by omega), cj _ _ (by omega), cj _ _ (by omega), cj _ _ (by omega), cj _ _ (by omega)]; exact ra
        · rw [s26 _ (by omega), cj _ _ (by omega)]; exact rb.1
        · rw [c5]; exact gI_self _ _ _ _ _
        · rw [s26 _ (by omega), cj _ _ (by omega)]; exact rb.2.2
        · rw [cj _ _ (by omega), cj _ _ (by omega), cj _ _ (by omega)]; exact ia
        · rw [cj _ _ (by omega), cj _ _ (by omega), cj _ _ (by omega)]; exact ib
        · rw [cj _ _ (by omega), cj _ _ (by omega)]; exact ip
        · rw [cj _ _ (by omega), cj _ _ (by omega)]; exact idd
        · rw [c5]; exact ⟨by omega, fun z => by omega⟩
    · sorry
