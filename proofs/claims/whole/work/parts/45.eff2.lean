/-! a trade's effects -/
theorem g_kMa8 (τ : aM) (c f : Int) (hcf : ¬ c = f) (i j : Int) : gI (kMa τ c f) 8 i j = if i = c ∨ i = f then (if j = 4 then wr (gI τ 8 i 4 - mtQ τ c f) else if j = 6 then wr (gI τ 8 i 6 + mtQ τ c f) else if j = 5 ∧ wr (gI τ 8 i 4 - mtQ τ c f) = 0 then 2 else gI τ 8 i j) else gI τ 8 i j := by
  unfold kMa
  by_cases h : gI τ 8 c 3 = 0
  · rw [if_pos h, g_kTa8 _ _ _ _ _ hcf]
  · rw [if_neg h, g_kTa8 _ _ _ _ _ (fun q => hcf q.symm)]
    have e : (i = f ∨ i = c) = (i = c ∨ i = f) := propext ⟨fun q => q.symm, fun q => q.symm⟩
    simp only [e]
theorem g_kMa6 (τ : aM) (c f : Int) (i j : Int) : gI (kMa τ c f) 6 i j = gI τ 6 i j := by
  unfold kMa
  by_cases h : gI τ 8 c 3 = 0
  · rw [if_pos h, g_kTa_o _ _ _ _ _ _ (by decide), g_kNt6]
  · rw [if_neg h, g_kTa_o _ _ _ _ _ _ (by decide), g_kNt6]
theorem g_kCr_o (σ : aM) (x q : Int) (t : Nat) (i j : Int) (h8 : ¬ t = 8) (h6 : ¬ t = 6) : gI (kCr σ x q) t i j = gI σ t i j := by
  unfold kCr kTm kSh
  by_cases c1 : wr (gI σ 8 x 9 - q) ≤ 0
  · rw [if_pos c1]
    split
    · simp (disch := omega) only [gI_nt]
    · simp (disch := omega) only [gI_nt]
  · rw [if_neg c1]
    simp (disch := omega) only [gI_nt]
/-- what the log's cells are made of is told by the note alone -/
theorem g_kMt_o (τ : aM) (c f : Int) (t : Nat) (i j : Int) (h8 : ¬ t = 8) (h6 : ¬ t = 6) : gI (kMt τ c f) t i j = if gI τ 8 c 3 = 0 then gI (kNt τ c f (gI τ 8 f 7) (mtQ τ c f)) t i j else gI (kNt τ f c (gI τ 8 f 7) (mtQ τ c f)) t i j := by
  have e : gI (kMa τ c f) t i j = if gI τ 8 c 3 = 0 then gI (kNt τ c f (gI τ 8 f 7) (mtQ τ c f)) t i j else gI (kNt τ f c (gI τ 8 f 7) (mtQ τ c f)) t i j := by
    unfold kMa
    by_cases h : gI τ 8 c 3 = 0
    · rw [if_pos h, if_pos h, g_kTa_o _ _ _ _ _ _ h8]
    · rw [if_neg h, if_neg h, g_kTa_o _ _ _ _ _ _ h8]
  rw [← e]
  unfold kMt
  split
  · exact g_kCr_o _ _ _ _ _ _ h8 h6
  · rfl
/-- one round of a HIDDEN one is over -/
abbrev ren (τ : aM) (c f : Int) : Prop := gI τ 8 f 1 = 2 ∧ 1 ≤ gI τ 8 f 4 - mtQ τ c f ∧ gI τ 8 f 9 - mtQ τ c f ≤ 0
theorem kMt_eff (τ : aM) (c f : Int) (hcf : ¬ c = f) (h5 : gI τ 8 f 5 = 1) (hq : 0 ≤ mtQ τ c f ∧ mtQ τ c f ≤ gI τ 8 f 4 ∧ mtQ τ c f ≤ gI τ 8 c 4) (hl : gI τ 8 f 4 ≤ 999 ∧ gI τ 8 c 4 ≤ 999) (hv : gI τ 8 f 1 = 2 → mtQ τ c f ≤ gI τ 8 f 9 ∧ gI τ 8 f 9 ≤ 999) :
    (∀ i j, ¬ i = c → ¬ i = f → gI (kMt τ c f) 8 i j = gI τ 8 i j) ∧
    (∀ j, ¬ j = 4 → ¬ j = 5 → ¬ j = 6 → gI (kMt τ c f) 8 c j = gI τ 8 c j) ∧
    (gI (kMt τ c f) 8 c 4 = gI τ 8 c 4 - mtQ τ c f ∧ gI (kMt τ c f) 8 c 6 = wr (gI τ 8 c 6 + mtQ τ c f) ∧ gI (kMt τ c f) 8 c 5 = if gI τ 8 c 4 - mtQ τ c f = 0 then 2 else gI τ 8 c 5) ∧
    (∀ j, ¬ j = 4 → ¬ j = 5 → ¬ j = 6 → ¬ j = 9 → ¬ j = 10 → gI (kMt τ c f) 8 f j = gI τ 8 f j) ∧
    (gI (kMt τ c f) 8 f 4 = gI τ 8 f 4 - mtQ τ c f ∧ gI (kMt τ c f) 8 f 6 = wr (gI τ 8 f 6 + mtQ τ c f) ∧ gI (kMt τ c f) 8 f 5 = if gI τ 8 f 4 - mtQ τ c f = 0 then 2 else 1) ∧
    (gI (kMt τ c f) 8 f 9 = if ren τ c f then (if gI τ 8 f 4 - mtQ τ c f < gI τ 8 f 8 then gI τ 8 f 4 - mtQ τ c f else gI τ 8 f 8) else if gI τ 8 f 1 = 2 ∧ 1 ≤ gI τ 8 f 4 - mtQ τ c f then gI τ 8 f 9 - mtQ τ c f else gI τ 8 f 9) ∧
    (gI (kMt τ c f) 8 f 10 = if ren τ c f then gI τ 6 0 6 else gI τ 8 f 10) ∧
    (∀ i j, gI (kMt τ c f) 6 i j = if ren τ c f ∧ i = 0 ∧ j = 6 then wr (gI τ 6 0 6 + 1) else gI τ 6 i j) := by
  have w1 : wr (gI τ 8 f 4 - mtQ τ c f) = gI τ 8 f 4 - mtQ τ c f := wr_id (by omega) (by omega)
  have w2 : wr (gI τ 8 c 4 - mtQ τ c f) = gI τ 8 c 4 - mtQ τ c f := wr_id (by omega) (by omega)
  have hcf' : ¬ f = c := fun q => hcf q.symm
  have a8 := g_kMa8 τ c f hcf
  have a6 := g_kMa6 τ c f
  have f4 : gI (kMa τ c f) 8 f 4 = gI τ 8 f 4 - mtQ τ c f := by rw [a8, if_pos (Or.inr rfl), if_pos rfl, w1]
  have f5 : gI (kMa τ c f) 8 f 5 = if gI τ 8 f 4 - mtQ τ c f = 0 then 2 else 1 := by rw [a8, if_pos (Or.inr rfl)]; simp [w1, h5]
  have f6 : gI (kMa τ c f) 8 f 6 = wr (gI τ 8 f 6 + mtQ τ c f) := by rw [a8, if_pos (Or.inr rfl)]; simp
  have c4 : gI (kMa τ c f) 8 c 4 = gI τ 8 c 4 - mtQ τ c f := by rw [a8, if_pos (Or.inl rfl), if_pos rfl, w2]
  have c5 : gI (kMa τ c f) 8 c 5 = if gI τ 8 c 4 - mtQ τ c f = 0 then 2 else gI τ 8 c 5 := by rw [a8, if_pos (Or.inl rfl)]; simp [w2]
  have c6 : gI (kMa τ c f) 8 c 6 = wr (gI τ 8 c 6 + mtQ τ c f) := by rw [a8, if_pos (Or.inl rfl)]; simp
  have fj : ∀ j, ¬ j = 4 → ¬ j = 5 → ¬ j = 6 → gI (kMa τ c f) 8 f j = gI τ 8 f j := fun j j4 j5 j6 => by rw [a8, if_pos (Or.inr rfl), if_neg j4, if_neg j6, if_neg (fun q => j5 q.1)]
  have cj : ∀ j, ¬ j = 4 → ¬ j = 5 → ¬ j = 6 → gI (kMa τ c f) 8 c j = gI τ 8 c j := fun j j4 j5 j6 => by rw [a8, if_pos (Or.inl rfl), if_neg j4, if_neg j6, if_neg (fun q => j5 q.1)]
  have oj : ∀ i j, ¬ i = c → ¬ i = f → gI (kMa τ c f) 8 i j = gI τ 8 i j := fun i j i1 i2 => by rw [a8, if_neg (fun q => q.elim i1 i2)]
  have f1 := fj 1 (by decide) (by decide) (by decide)
  have f9 := fj 9 (by decide) (by decide) (by decide)
  have f8 := fj 8 (by decide) (by decide) (by decide)
  by_cases hA : gI τ 8 f 1 = 2 ∧ 1 ≤ gI τ 8 f 4 - mtQ τ c f
  · have s1 : gI (kMa τ c f) 8 f 5 = 1 := by rw [f5, if_neg (by omega)]
    have hv := hv hA.1
    have w3 : wr (gI τ 8 f 9 - mtQ τ c f) = gI τ 8 f 9 - mtQ τ c f := wr_id (by omega) (by omega)
    have e0 : kMt τ c f = kCr (kMa τ c f) f (mtQ τ c f) := if_pos ⟨f1.trans hA.1, s1⟩
    rw [e0]
    by_cases hB : gI τ 8 f 9 - mtQ τ c f ≤ 0
    · have hr : ren τ c f := ⟨hA.1, hA.2, hB⟩
      have e1 : kCr (kMa τ c f) f (mtQ τ c f) = kTm (kSh (uI (kMa τ c f) 8 f 9 (gI τ 8 f 9 - mtQ τ c f)) f) f := by
        unfold kCr
        rw [f9, w3, if_pos hB]
      have e2 : kSh (uI (kMa τ c f) 8 f 9 (gI τ 8 f 9 - mtQ τ c f)) f = uI (uI (kMa τ c f) 8 f 9 (gI τ 8 f 9 - mtQ τ c f)) 8 f 9 (if gI τ 8 f 4 - mtQ τ c f < gI τ 8 f 8 then gI τ 8 f 4 - mtQ τ c f else gI τ 8 f 8) := by
        unfold kSh
        simp (disch := omega) only [gI_self, gI_nt, gI_nj, gL_uI, gR_uI, gI_uL, gR_uL, gI_uR, gL_uR, f1, hA.1, f4, f8, if_true]
      rw [e1, e2]
      unfold kTm
      refine ⟨fun i j i1 i2 => ?_, fun j j4 j5 j6 => ?_, ⟨?_, ?_, ?_⟩, fun j j4 j5 j6 j9 j10 => ?_, ⟨?_, ?_, ?_⟩, ?_, ?_, fun i j => ?_⟩
      · simp (disch := omega) only [gI_nt, gI_ni, oj]
      · simp (disch := omega) only [gI_nt, gI_ni, cj]
      · simp (disch := omega) only [gI_nt, gI_ni, c4]
      · simp (disch := omega) only [gI_nt, gI_ni, c6]
      · simp (disch := omega) only [gI_nt, gI_ni, c5]
      · simp (disch := omega) only [gI_nt, gI_nj, fj]
      · simp (disch := omega) only [gI_nt, gI_nj, f4]
      · simp (disch := omega) only [gI_nt, gI_nj, f6]
      · simp (disch := omega) only [gI_nt, gI_nj, f5]
      · simp (disch := omega) only [gI_self, gI_nt, gI_nj, gL_uI, gR_uI, gI_uL, gR_uL, gI_uR, gL_uR, if_pos hr]
      · simp (disch := omega) only [gI_self, gI_nt, gI_nj, gL_uI, gR_uI, gI_uL, gR_uL, gI_uR, gL_uR, if_pos hr, a6]
      · by_cases k : i = 0 ∧ j = 6
        · obtain ⟨k1, k2⟩ := k
          subst k1; subst k2
          rw [if_pos (show ren τ c f ∧ (0 : Int) = 0 ∧ (6 : Int) = 6 from ⟨hr, rfl, rfl⟩)]
          simp (disch := omega) only [gI_self, gI_nt, gI_nj, gL_uI, gR_uI, gI_uL, gR_uL, gI_uR, gL_uR, a6]
        · rw [if_neg (show ¬ (ren τ c f ∧ i = 0 ∧ j = 6) from fun q => k q.2), gI_uI, if_neg (fun q => k q.2)]
          simp (disch := omega) only [gI_nt, a6]
    · have hr : ¬ ren τ c f := fun q => hB q.2.2
      have e1 : kCr (kMa τ c f) f (mtQ τ c f) = uI (kMa τ c f) 8 f 9 (gI τ 8 f 9 - mtQ τ c f) := by
        unfold kCr
        rw [f9, w3, if_neg hB]
      rw [e1]
      refine ⟨fun i j i1 i2 => ?_, fun j j4 j5 j6 => ?_, ⟨?_, ?_, ?_⟩, fun j j4 j5 j6 j9 j10 => ?_, ⟨?_, ?_, ?_⟩, ?_, ?_, fun i j => ?_⟩
      · simp (disch := omega) only [gI_nt, gI_ni, oj]
      · simp (disch := omega) only [gI_nt, gI_ni, cj]
      · simp (disch := omega) only [gI_nt, gI_ni, c4]
      · simp (disch := omega) only [gI_nt, gI_ni, c6]
      · simp (disch := omega) only [gI_nt, gI_ni, c5]
      · simp (disch := omega) only [gI_nt, gI_nj, fj]
      · simp (disch := omega) only [gI_nt, gI_nj, f4]
      · simp (disch := omega) only [gI_nt, gI_nj, f6]
      · simp (disch := omega) only [gI_nt, gI_nj, f5]
      · simp (disch := omega) only [gI_self, gI_nt, gI_nj, gL_uI, gR_uI, gI_uL, gR_uL, gI_uR, gL_uR, if_neg hr, if_pos hA]
      · simp (disch := omega) only [gI_self, gI_nt, gI_nj, gL_uI, gR_uI, gI_uL, gR_uL, gI_uR, gL_uR, if_neg hr, fj]
      · rw [if_neg (fun q => hr q.1)]
        simp (disch := omega) only [gI_nt, a6]
  · have hr : ¬ ren τ c f := fun q => hA ⟨q.1, q.2.1⟩
    have e0 : kMt τ c f = kMa τ c f := if_neg (fun q => by
      rw [f1, f5] at q
      by_cases z : gI τ 8 f 4 - mtQ τ c f = 0
      · rw [if_pos z] at q; omega
      · exact hA ⟨q.1, by omega⟩)
    rw [e0]
    refine ⟨oj, cj, ⟨c4, c6, c5⟩, fun j j4 j5 j6 j9 j10 => fj j j4 j5 j6, ⟨f4, f6, f5⟩, ?_, ?_, fun i j => ?_⟩
    · rw [if_neg hr, if_neg hA, f9]
    · rw [if_neg hr]; exact fj 10 (by decide) (by decide) (by decide)
    · rw [if_neg (fun q => hr q.1), a6]
