/-! an order comes to rest, on both sides -/
theorem g_kRs (τ : aM) (c : Int) : (∀ t i j, ¬ (t = 8 ∧ i = c) → ¬ (t = 6 ∧ i = 0 ∧ j = 6) → gI (kRs τ c) t i j = gI τ t i j) ∧ gI (kRs τ c) 8 c 5 = 1 ∧ gI (kRs τ c) 8 c 10 = gI τ 6 0 6 ∧ gI (kRs τ c) 6 0 6 = wr (gI τ 6 0 6 + 1) ∧
    (gI τ 8 c 1 = 2 → gI (kRs τ c) 8 c 9 = if gI τ 8 c 4 < gI τ 8 c 8 then gI τ 8 c 4 else gI τ 8 c 8) ∧ (∀ j, ¬ j = 5 → ¬ j = 9 → ¬ j = 10 → gI (kRs τ c) 8 c j = gI τ 8 c j) := by
  have e1 : gI (uI τ 8 c 5 1) 8 c 1 = gI τ 8 c 1 := gI_nj _ _ _ _ _ _ _ _ (by decide)
  have e4 : gI (uI τ 8 c 5 1) 8 c 4 = gI τ 8 c 4 := gI_nj _ _ _ _ _ _ _ _ (by decide)
  have e8 : gI (uI τ 8 c 5 1) 8 c 8 = gI τ 8 c 8 := gI_nj _ _ _ _ _ _ _ _ (by decide)
  have hk : ∀ t i j, ¬ (t = 8 ∧ i = c ∧ j = 9) → gI (kSh (uI τ 8 c 5 1) c) t i j = gI (uI τ 8 c 5 1) t i j := fun t i j h => by
    unfold kSh
    split
    · rw [gI_uI, if_neg h]
    · rfl
  have h9 : gI τ 8 c 1 = 2 → gI (kSh (uI τ 8 c 5 1) c) 8 c 9 = if gI τ 8 c 4 < gI τ 8 c 8 then gI τ 8 c 4 else gI τ 8 c 8 := fun h => by
    unfold kSh
    rw [e1, if_pos h, gI_self, e4, e8]
  have h6 : gI (kSh (uI τ 8 c 5 1) c) 6 0 6 = gI τ 6 0 6 := by rw [hk _ _ _ (by omega), gI_nt _ _ _ _ _ _ _ _ (by decide)]
  unfold kRs kTm
  rw [h6]
  refine ⟨fun t i j q1 q2 => ?_, ?_, ?_, ?_, fun h => ?_, fun j j5 j9 j10 => ?_⟩
  · rw [gI_uI, if_neg q2, gI_uI, if_neg (fun z => q1 ⟨z.1, z.2.1⟩), hk _ _ _ (fun z => q1 ⟨z.1, z.2.1⟩), gI_uI, if_neg (fun z => q1 ⟨z.1, z.2.1⟩)]
  · rw [gI_nt _ _ _ _ _ _ _ _ (by decide), gI_nj _ _ _ _ _ _ _ _ (by decide), hk _ _ _ (by omega), gI_self]
  · rw [gI_nt _ _ _ _ _ _ _ _ (by decide), gI_self]
  · rw [gI_self]
  · rw [gI_nt _ _ _ _ _ _ _ _ (by decide), gI_nj _ _ _ _ _ _ _ _ (by decide), h9 h]
  · rw [gI_nt _ _ _ _ _ _ _ _ (by decide), gI_nj _ _ _ _ _ _ _ _ j10, hk _ _ _ (fun z => j9 z.2.2), gI_nj _ _ _ _ _ _ _ _ j5]
theorem g_mRs (σ : aM) (c : Int) (hc : 0 ≤ c ∧ c < 60) : (∀ k, ¬ k = 240 + c → ¬ k = 480 + c → ¬ k = 420 + c → ¬ k = 605 → gI (mRs σ c) 26 0 k = gI σ 26 0 k) ∧ gI (mRs σ c) 26 0 (240 + c) = 1 ∧ gI (mRs σ c) 26 0 (480 + c) = wr (gI σ 26 0 605 + 1) ∧ gI (mRs σ c) 26 0 605 = wr (gI σ 26 0 605 + 1) ∧
    (gI σ 26 0 c = 2 → gI (mRs σ c) 26 0 (420 + c) = if gI σ 26 0 (360 + c) < gI σ 26 0 (180 + c) then gI σ 26 0 (360 + c) else gI σ 26 0 (180 + c)) := by
  unfold mRs mFs mTm
  by_cases h : gI σ 26 0 c = 2
  · rw [if_pos h]
    refine ⟨fun k k1 k2 k3 k4 => ?_, ?_, ?_, ?_, fun _ => ?_⟩
    all_goals simp (disch := omega) only [gI_self, gI_nt, gI_nj, gL_uI, gR_uI, gI_uL, gR_uL, gI_uR, gL_uR]
  · rw [if_neg h]
    refine ⟨fun k k1 k2 k3 k4 => ?_, ?_, ?_, ?_, fun z => absurd z h⟩
    all_goals simp (disch := omega) only [gI_self, gI_nt, gI_nj, gL_uI, gR_uI, gI_uL, gR_uL, gI_uR, gL_uR]
theorem FrM_mRs {σ τ : aM} (h : FrM σ τ) (o : Int) : FrM σ (mRs τ o) := by
  unfold mRs mFs mTm
  split
  · exact (((h.u _ _ _ (Or.inl rfl)).u _ _ _ (Or.inl rfl)).u _ _ _ (Or.inl rfl)).u _ _ _ (Or.inl rfl)
  · exact ((h.u _ _ _ (Or.inl rfl)).u _ _ _ (Or.inl rfl)).u _ _ _ (Or.inl rfl)
theorem rest_Sim {τ σ : aM} {c B : Int} (hS : Sim τ σ c B) (hB : B + 1 < 2147483647) (hc : 0 ≤ c ∧ c < gI τ 6 0 2) (hl : 1 ≤ gI τ 8 c 4) (hk : ¬ gI τ 8 c 1 = 4) (hL : gI σ 26 0 (180 + c) = gI τ 8 c 4) (hT : gI σ 26 0 (540 + c) = gI τ 8 c 6) : Sim (kRs τ c) (mRs σ c) (-1) (B + 1) := by
  obtain ⟨hO, hI, hD, hG, hg⟩ := hS
  have hc6 := hO.1.2
  obtain ⟨C1, C5, C10, C6, C9, Cj⟩ := g_kRs τ c
  obtain ⟨M1, M2, M3, M4, M5⟩ := g_mRs σ c ⟨hc.1, by omega⟩
  obtain ⟨ra, rb, rt, rv, rc⟩ := RO.p hO hc.1 hc.2
  obtain ⟨ia, ib, ip, idd, is, ir⟩ := IO_p hI hc.1 hc.2
  have hn := hg.2.2.2.1
  have w6 : wr (gI τ 6 0 6 + 1) = gI τ 6 0 6 + 1 := wr_id (by omega) (by omega)
  have s605 := hG.1.2.2.2.2.1
  have k1 := Cj 1 (by omega) (by omega) (by omega)
  have k2 := Cj 2 (by omega) (by omega) (by omega)
  have k3 := Cj 3 (by omega) (by omega) (by omega)
  have k4 := Cj 4 (by omega) (by omega) (by omega)
  have k6 := Cj 6 (by omega) (by omega) (by omega)
  have k7 := Cj 7 (by omega) (by omega) (by omega)
  have k8 := Cj 8 (by omega) (by omega) (by omega)
  have hU := updO (τ' := kRs τ c) (σ' := mRs σ c) (c' := -1) (f0 := c) (fun o => o = c) hO hI hD (C1 _ _ _ (by omega) (by omega)) (by rw [C6, w6]; omega) (M1 _ (by omega) (by omega) (by omega) (by omega)) (fun o o0 o1 hm => ⟨EqC_of (fun j => C1 _ _ _ (fun z => hm z.2) (by omega)), EqS_of o0 (by omega) (fun k _ _ _ => M1 k (by omega) (by omega) (by omega) (by omega)), by omega⟩) (fun o o0 o1 hm => ?_)
  · refine ⟨hU.1, hU.2.1, hU.2.2, ?_, ?_⟩
    · obtain ⟨⟨b1, b2, b3, b4, b5, b6⟩, bp, bf⟩ := hG
      have t8 : ∀ t i j, ¬ t = 8 → ¬ (t = 6 ∧ i = 0 ∧ j = 6) → gI (kRs τ c) t i j = gI τ t i j := fun t i j z z2 => C1 t i j (fun y => z y.1) z2
      have m8 : ∀ k, 600 ≤ k → ¬ k = 605 → gI (mRs σ c) 26 0 k = gI σ 26 0 k := fun k z z2 => M1 k (by omega) (by omega) (by omega) z2
      refine ⟨⟨?_, ?_, ?_, ?_, ?_, ?_⟩, fun w w0 w8 => ?_, fun k k0 k8 => ?_⟩
      · rw [m8 _ (by omega) (by omega), t8 _ _ _ (by decide) (by omega), b1]
      · rw [m8 _ (by omega) (by omega), t8 _ _ _ (by decide) (by omega), b2]
      · rw [m8 _ (by omega) (by omega), t8 _ _ _ (by decide) (by omega), b3]
      · rw [m8 _ (by omega) (by omega), t8 _ _ _ (by decide) (by omega), b4]
      · rw [M4, C6, s605]
      · rw [m8 _ (by omega) (by omega), t8 _ _ _ (by decide) (by omega), b6]
      · rw [m8 _ (by omega) (by omega), m8 _ (by omega) (by omega), t8 _ _ _ (by decide) (by omega), t8 _ _ _ (by decide) (by omega)]; exact bp w w0 w8
      · rw [m8 _ (by omega) (by omega), t8 _ _ _ (by decide) (by omega)]; exact bf k k0 k8
    · obtain ⟨g1, g2, g3, g4, g5, g6, g7⟩ := hg
      unfold IG
      rw [C1 9 0 4 (by omega) (by omega), C1 6 0 4 (by omega) (by omega), C1 6 0 3 (by omega) (by omega), C6, w6, C1 9 0 3 (by omega) (by omega), C1 8 120 0 (by omega) (by omega)]
      refine ⟨g1, g2, g3, by omega, by omega, fun i i0 i1 => ?_, g7⟩
      by_cases z : i = c
      · rw [z, Cj 0 (by omega) (by omega) (by omega)]; exact g6 c hc.1 (by omega)
      · rw [C1 8 i 0 (fun y => z y.2) (by omega)]; exact g6 i i0 i1
  · subst hm
    refine ⟨⟨?_, fun _ => ⟨?_, ?_, ?_⟩, fun _ => ?_, fun _ z2 => ?_, fun z => by omega⟩, ⟨?_, ?_, ?_, ?_, fun _ => ?_, fun _ => ⟨?_, ?_, ?_, fun z => ?_⟩⟩, fun _ => Or.inr ⟨by rw [C10]; exact Int.le_refl _, rfl⟩⟩
    · rw [M1 _ (by omega) (by omega) (by omega) (by omega), M1 _ (by omega) (by omega) (by omega) (by omega), M1 _ (by omega) (by omega) (by omega) (by omega), M1 _ (by omega) (by omega) (by omega) (by omega), M1 _ (by omega) (by omega) (by omega) (by omega), k1, k2, k3, k7, k8]; exact ra
    · rw [M1 _ (by omega) (by omega) (by omega) (by omega), k4, hL]
    · rw [M2, C5]
    · rw [M1 _ (by omega) (by omega) (by omega) (by omega), k6, hT]
    · rw [M3, C10, s605, w6]
    · rw [k1] at z2
      rw [M5 (by rw [ra.1]; exact z2), C9 z2, hL, ra.2.2.2.2]
      by_cases y : gI τ 8 o 4 < gI τ 8 o 8
      · rw [if_pos y, if_neg (by omega)]
      · rw [if_neg y]
        by_cases y2 : gI τ 8 o 8 < gI τ 8 o 4
        · rw [if_pos y2]
        · rw [if_neg y2]; omega
    · rw [k1, k2, k3]; exact ia
    · rw [k4, k7, k8, k6]; exact ib
    · rw [k1, k7]; exact ip
    · rw [k1, k8]; exact idd
    · rw [C5]; exact ⟨by omega, fun z => by omega⟩
    · rw [k1]; exact hk
    · rw [k4]; exact hl
    · rw [C10, C6, w6]; omega
    · rw [k1] at z
      rw [C9 z, k4]
      have := idd z
      split <;> omega
