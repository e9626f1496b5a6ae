/-! what the class's steps make of each cell -/
theorem g_kGv (σ : aM) (x q : Int) (t : Nat) (i j : Int) : gI (kGv σ x q) t i j = if t = 8 ∧ i = x ∧ j = 4 then wr (gI σ 8 x 4 - q) else if t = 8 ∧ i = x ∧ j = 6 then wr (gI σ 8 x 6 + q) else if t = 8 ∧ i = x ∧ j = 5 ∧ wr (gI σ 8 x 4 - q) = 0 then 2 else gI σ t i j := by
  unfold kGv
  by_cases c : wr (gI σ 8 x 4 - q) = 0
  · rw [if_pos c]
    simp only [gI_uI, c, and_true]
    grind
  · rw [if_neg c]
    simp only [gI_uI, c, and_false, if_false]
    grind
theorem g_kNt8 (σ : aM) (x z p q : Int) (i j : Int) : gI (kNt σ x z p q) 8 i j = gI σ 8 i j := by
  unfold kNt
  by_cases c : gI σ 9 0 3 < 200
  · simp (disch := omega) only [if_pos c, gI_self, gI_nt, gI_nj, gL_uI, gR_uI, gI_uL, gR_uL, gI_uR, gL_uR]
  · simp (disch := omega) only [if_neg c, gI_self, gI_nt, gI_nj, gL_uI, gR_uI, gI_uL, gR_uL, gI_uR, gL_uR]
theorem g_kNt6 (σ : aM) (x z p q : Int) (i j : Int) : gI (kNt σ x z p q) 6 i j = gI σ 6 i j := by
  unfold kNt
  by_cases c : gI σ 9 0 3 < 200
  · simp (disch := omega) only [if_pos c, gI_self, gI_nt, gI_nj, gL_uI, gR_uI, gI_uL, gR_uL, gI_uR, gL_uR]
  · simp (disch := omega) only [if_neg c, gI_self, gI_nt, gI_nj, gL_uI, gR_uI, gI_uL, gR_uL, gI_uR, gL_uR]
theorem g_kNtL (σ : aM) (x z p q : Int) : gI (kNt σ x z p q) 9 0 4 = p := by
  unfold kNt
  simp (disch := omega) only [gI_self, gI_nt, gI_nj, gL_uI, gR_uI, gI_uL, gR_uL, gI_uR, gL_uR]
theorem g_kNtF (σ : aM) (x z p q : Int) (k : Int) : gI (kNt σ x z p q) 10 0 k = if gI σ 9 0 3 < 200 then (if k = gI σ 9 0 3 * 4 + 3 then q else if k = gI σ 9 0 3 * 4 + 2 then p else if k = gI σ 9 0 3 * 4 + 1 then gI σ 8 z 0 else if k = gI σ 9 0 3 * 4 then gI σ 8 x 0 else gI σ 10 0 k) else gI σ 10 0 k := by
  unfold kNt
  by_cases c : gI σ 9 0 3 < 200
  · simp (disch := omega) only [if_pos c, gI_self, gI_nt, gI_nj, gL_uI, gR_uI, gI_uL, gR_uL, gI_uR, gL_uR]
    simp only [gI_uI]
    simp
  · simp (disch := omega) only [if_neg c, gI_self, gI_nt, gI_nj, gL_uI, gR_uI, gI_uL, gR_uL, gI_uR, gL_uR]
/-- positions and cash of one owner; of two -/
def pc1 (τ : aM) (a q P : Int) : aM := uI (uI τ 11 0 a (wr (gI τ 11 0 a + q))) 12 0 a (wr (gI (uI τ 11 0 a (wr (gI τ 11 0 a + q))) 12 0 a - P))
def pc2 (τ : aM) (a q P : Int) : aM := uI (uI τ 11 0 a (wr (gI τ 11 0 a - q))) 12 0 a (wr (gI (uI τ 11 0 a (wr (gI τ 11 0 a - q))) 12 0 a + P))
theorem g_pc1P (τ : aM) (a q P w : Int) : gI (pc1 τ a q P) 11 0 w = if w = a then wr (gI τ 11 0 w + q) else gI τ 11 0 w := by
  unfold pc1
  rw [gI_nt _ _ _ _ _ _ _ _ (by decide), gI_uI]
  by_cases c : w = a
  · subst c; simp
  · simp [c]
theorem g_pc1C (τ : aM) (a q P w : Int) : gI (pc1 τ a q P) 12 0 w = if w = a then wr (gI τ 12 0 w - P) else gI τ 12 0 w := by
  unfold pc1
  rw [gI_uI, gI_nt _ _ _ _ _ _ _ _ (by decide), gI_nt _ _ _ _ _ _ _ _ (by decide)]
  by_cases c : w = a
  · subst c; simp
  · simp [c]
theorem g_pc2P (τ : aM) (a q P w : Int) : gI (pc2 τ a q P) 11 0 w = if w = a then wr (gI τ 11 0 w - q) else gI τ 11 0 w := by
  unfold pc2
  rw [gI_nt _ _ _ _ _ _ _ _ (by decide), gI_uI]
  by_cases c : w = a
  · subst c; simp
  · simp [c]
theorem g_pc2C (τ : aM) (a q P w : Int) : gI (pc2 τ a q P) 12 0 w = if w = a then wr (gI τ 12 0 w + P) else gI τ 12 0 w := by
  unfold pc2
  rw [gI_uI, gI_nt _ _ _ _ _ _ _ _ (by decide), gI_nt _ _ _ _ _ _ _ _ (by decide)]
  by_cases c : w = a
  · subst c; simp
  · simp [c]
/-- the log before positions and cash -/
def ntB (σ : aM) (x z p q : Int) : aM := uI (uI (if gI σ 9 0 3 < 200 then uI (uI (uI (uI σ 10 0 (gI σ 9 0 3 * 4) (gI σ 8 x 0)) 10 0 (gI σ 9 0 3 * 4 + 1) (gI σ 8 z 0)) 10 0 (gI σ 9 0 3 * 4 + 2) p) 10 0 (gI σ 9 0 3 * 4 + 3) q else σ) 9 0 3 (wr (gI σ 9 0 3 + 1))) 9 0 4 p
theorem kNt_pc (σ : aM) (x z p q : Int) : kNt σ x z p q = pc2 (pc1 (ntB σ x z p q) (gI σ 8 x 2) q (wr (p * q))) (gI σ 8 z 2) q (wr (p * q)) := rfl
theorem g_ntB (σ : aM) (x z p q : Int) (t : Nat) (i j : Int) (ht : ¬ t = 9 ∧ ¬ t = 10) : gI (ntB σ x z p q) t i j = gI σ t i j := by
  unfold ntB
  obtain ⟨h1, h2⟩ := ht
  by_cases c : gI σ 9 0 3 < 200
  · simp (disch := omega) only [if_pos c, gI_nt]
  · simp (disch := omega) only [if_neg c, gI_nt]
theorem g_kNtP (σ : aM) (x z p q : Int) (w : Int) : gI (kNt σ x z p q) 11 0 w = if w = gI σ 8 z 2 then wr ((if w = gI σ 8 x 2 then wr (gI σ 11 0 w + q) else gI σ 11 0 w) - q) else if w = gI σ 8 x 2 then wr (gI σ 11 0 w + q) else gI σ 11 0 w := by
  rw [kNt_pc, g_pc2P, g_pc1P, g_ntB _ _ _ _ _ _ _ _ (by decide)]
theorem g_kNtC (σ : aM) (x z p q : Int) (w : Int) : gI (kNt σ x z p q) 12 0 w = if w = gI σ 8 z 2 then wr ((if w = gI σ 8 x 2 then wr (gI σ 12 0 w - wr (p * q)) else gI σ 12 0 w) + wr (p * q)) else if w = gI σ 8 x 2 then wr (gI σ 12 0 w - wr (p * q)) else gI σ 12 0 w := by
  rw [kNt_pc, g_pc2C, g_pc1C, g_ntB _ _ _ _ _ _ _ _ (by decide)]
theorem g_kTa8 (σ : aM) (x z p q : Int) (hx : ¬ x = z) (i j : Int) : gI (kTa σ x z p q) 8 i j = if i = x ∨ i = z then (if j = 4 then wr (gI σ 8 i 4 - q) else if j = 6 then wr (gI σ 8 i 6 + q) else if j = 5 ∧ wr (gI σ 8 i 4 - q) = 0 then 2 else gI σ 8 i j) else gI σ 8 i j := by
  unfold kTa
  simp only [g_kGv, g_kNt8]
  by_cases c1 : i = x
  · subst c1
    rw [if_pos (Or.inl rfl)]
    simp [hx]
  · by_cases c2 : i = z
    · subst c2
      rw [if_pos (Or.inr rfl)]
      simp [c1]
    · rw [if_neg (show ¬ (i = x ∨ i = z) from fun y => y.elim c1 c2)]
      simp [c1, c2]
theorem g_kTa_o (σ : aM) (x z p q : Int) (t : Nat) (ht : ¬ t = 8) (i j : Int) : gI (kTa σ x z p q) t i j = gI (kNt σ x z p q) t i j := by
  unfold kTa
  simp only [g_kGv]
  simp [ht]
