/-! what is told of all -/
def GL (τ σ : aM) : Prop := (gI σ 26 0 601 = gI τ 6 0 3 ∧ gI σ 26 0 602 = gI τ 6 0 4 ∧ gI σ 26 0 603 = gI τ 9 0 4 ∧ gI σ 26 0 604 = gI τ 6 0 5 ∧ gI σ 26 0 605 = gI τ 6 0 6 ∧ gI σ 26 0 606 = gI τ 9 0 3) ∧
  (∀ w, 0 ≤ w → w < 8 → gI σ 26 0 (607 + w) = gI τ 11 0 w ∧ gI σ 26 0 (615 + w) = gI τ 12 0 w) ∧ ∀ k, 0 ≤ k → k < 800 → gI σ 26 0 (623 + k) = gI τ 10 0 k
theorem g_mPy (σ : aM) (w q c : Int) (k : Int) (hw : 0 ≤ w ∧ w < 8) : gI (mPy σ w q c) 26 0 k = if k = 615 + w then wr (gI σ 26 0 (615 + w) + c) else if k = 607 + w then wr (gI σ 26 0 (607 + w) + q) else gI σ 26 0 k := by
  unfold mPy
  rw [gI_uI]
  by_cases c1 : k = 615 + w
  · rw [if_pos ⟨rfl, rfl, c1⟩, if_pos c1]
  · rw [if_neg (fun z => c1 z.2.2), if_neg c1, gI_uI]
    by_cases c2 : k = 607 + w
    · rw [if_pos ⟨rfl, rfl, c2⟩, if_pos c2]
    · rw [if_neg (fun z => c2 z.2.2), if_neg c2]
theorem g_mPy_o (σ : aM) (w q c : Int) (t : Nat) (i j : Int) (h : ¬ t = 26) : gI (mPy σ w q c) t i j = gI σ t i j := by
  unfold mPy
  simp (disch := omega) only [gI_nt]
theorem g_mNt_o (σ : aM) (x z p q : Int) (t : Nat) (i j : Int) (h : ¬ t = 26) : gI (mNt σ x z p q) t i j = gI σ t i j := by
  unfold mNt
  by_cases c : gI σ 26 0 606 < 200
  · simp (disch := omega) only [if_pos c, gI_nt]
  · simp (disch := omega) only [if_neg c, gI_nt]
theorem g_mNt (σ : aM) (x z p q : Int) (k : Int) (h3 : ¬ k = 603) (h6 : ¬ k = 606) (h : k < 623) : gI (mNt σ x z p q) 26 0 k = gI σ 26 0 k ∨ gI σ 26 0 606 < 0 := by
  unfold mNt
  by_cases c : gI σ 26 0 606 < 200
  · by_cases d : gI σ 26 0 606 < 0
    · exact Or.inr d
    · left
      simp (disch := omega) only [if_pos c, gI_nj]
  · left
    simp (disch := omega) only [if_neg c, gI_nj]
theorem g_mNt3 (σ : aM) (x z p q : Int) : gI (mNt σ x z p q) 26 0 603 = p := by
  unfold mNt
  simp (disch := omega) only [gI_self, gI_nt, gI_nj, gL_uI, gR_uI, gI_uL, gR_uL, gI_uR, gL_uR]
theorem g_mNt6 (σ : aM) (x z p q : Int) : gI (mNt σ x z p q) 26 0 606 = wr (gI σ 26 0 606 + 1) := by
  unfold mNt
  simp (disch := omega) only [gI_self, gI_nt, gI_nj, gL_uI, gR_uI, gI_uL, gR_uL, gI_uR, gL_uR]
theorem g_mNtF (σ : aM) (x z p q : Int) (k : Int) (hk : 0 ≤ k) : gI (mNt σ x z p q) 26 0 (623 + k) = if gI σ 26 0 606 < 200 then (if k = gI σ 26 0 606 * 4 + 3 then q else if k = gI σ 26 0 606 * 4 + 2 then p else if k = gI σ 26 0 606 * 4 + 1 then z else if k = gI σ 26 0 606 * 4 then x else gI σ 26 0 (623 + k)) else gI σ 26 0 (623 + k) := by
  unfold mNt
  by_cases c : gI σ 26 0 606 < 200
  · simp (disch := omega) only [if_pos c, gI_nj]
    generalize gI σ 26 0 606 = T
    by_cases d3 : k = T * 4 + 3
    · rw [if_pos d3, gI_uI, if_pos ⟨rfl, rfl, by omega⟩]
    · rw [if_neg d3, gI_uI, if_neg (fun z => d3 (by have := z.2.2; omega)), gI_uI]
      by_cases d2 : k = T * 4 + 2
      · rw [if_pos d2, if_pos ⟨rfl, rfl, by omega⟩]
      · rw [if_neg d2, if_neg (fun z => d2 (by have := z.2.2; omega)), gI_uI]
        by_cases d1 : k = T * 4 + 1
        · rw [if_pos d1, if_pos ⟨rfl, rfl, by omega⟩]
        · rw [if_neg d1, if_neg (fun z => d1 (by have := z.2.2; omega)), gI_uI]
          by_cases d0 : k = T * 4
          · rw [if_pos d0, if_pos ⟨rfl, rfl, by omega⟩]
          · rw [if_neg d0, if_neg (fun z => d0 (by have := z.2.2; omega))]
  · simp (disch := omega) only [if_neg c, gI_nj]
theorem wr_swap (x a b : Int) : wr (wr (x + a) + b) = wr (wr (x + b) + a) := by
  rw [wr_add, wr_add, show x + a + b = x + b + a by omega]
theorem GL_trade {τ σ τ' M : aM} {x z xn zn p q w1 q1 c1 w2 q2 c2 C D : Int} (hG : GL τ σ) (hT : 0 ≤ gI τ 9 0 3)
    (hM : ∀ k, 600 ≤ k → ¬ k = 605 → gI M 26 0 k = gI σ 26 0 k) (hM5 : gI M 26 0 605 = gI τ' 6 0 6)
    (h6 : gI τ' 6 0 3 = gI τ 6 0 3 ∧ gI τ' 6 0 4 = gI τ 6 0 4 ∧ gI τ' 6 0 5 = gI τ 6 0 5)
    (hK : ∀ t i j, ¬ t = 8 → ¬ t = 6 → gI τ' t i j = gI (kNt τ x z p q) t i j)
    (hx : gI τ 8 x 0 = xn) (hz : gI τ 8 z 0 = zn) (ox : 0 ≤ gI τ 8 x 2 ∧ gI τ 8 x 2 < 8) (oz : 0 ≤ gI τ 8 z 2 ∧ gI τ 8 z 2 < 8)
    (hC : ∀ y, wr (y + C) = wr (y - wr (p * q))) (hDD : ∀ y, wr (y + D) = wr (y + wr (p * q)))
    (hw : (w1 = gI τ 8 x 2 ∧ q1 = q ∧ c1 = C ∧ w2 = gI τ 8 z 2 ∧ q2 = -q ∧ c2 = D) ∨ (w1 = gI τ 8 z 2 ∧ q1 = -q ∧ c1 = D ∧ w2 = gI τ 8 x 2 ∧ q2 = q ∧ c2 = C)) :
    GL τ' (mNt (mPy (mPy M w1 q1 c1) w2 q2 c2) xn zn p q) := by
  obtain ⟨⟨b1, b2, b3, b4, b5, b6⟩, bp, bf⟩ := hG
  have rw1 : 0 ≤ w1 ∧ w1 < 8 := by rcases hw with w | w <;> omega
  have rw2 : 0 ≤ w2 ∧ w2 < 8 := by rcases hw with w | w <;> omega
  have py : ∀ k, ¬ (607 ≤ k ∧ k < 623) → gI (mPy (mPy M w1 q1 c1) w2 q2 c2) 26 0 k = gI M 26 0 k := fun k hk => by
    rw [g_mPy _ _ _ _ _ rw2, if_neg (by omega), if_neg (by omega), g_mPy _ _ _ _ _ rw1, if_neg (by omega), if_neg (by omega)]
  have p6 : gI (mPy (mPy M w1 q1 c1) w2 q2 c2) 26 0 606 = gI τ 9 0 3 := by rw [py _ (by omega), hM _ (by omega) (by omega), b6]
  have nt : ∀ k, ¬ k = 603 → ¬ k = 606 → k < 623 → gI (mNt (mPy (mPy M w1 q1 c1) w2 q2 c2) xn zn p q) 26 0 k = gI (mPy (mPy M w1 q1 c1) w2 q2 c2) 26 0 k := fun k k3 k6 k7 => by
    rcases g_mNt (mPy (mPy M w1 q1 c1) w2 q2 c2) xn zn p q k k3 k6 k7 with y | y
    · exact y
    · rw [p6] at y; omega
  refine ⟨⟨?_, ?_, ?_, ?_, ?_, ?_⟩, fun w w0 w8 => ?_, fun k k0 k8 => ?_⟩
  · rw [nt _ (by omega) (by omega) (by omega), py _ (by omega), hM _ (by omega) (by omega), b1, h6.1]
  · rw [nt _ (by omega) (by omega) (by omega), py _ (by omega), hM _ (by omega) (by omega), b2, h6.2.1]
  · rw [g_mNt3, hK _ _ _ (by decide) (by decide), g_kNtL]
  · rw [nt _ (by omega) (by omega) (by omega), py _ (by omega), hM _ (by omega) (by omega), b4, h6.2.2]
  · rw [nt _ (by omega) (by omega) (by omega), py _ (by omega), hM5]
  · rw [g_mNt6, p6, hK _ _ _ (by decide) (by decide), kNt_T]
  · obtain ⟨bp1, bp2⟩ := bp w w0 w8
    rw [nt _ (by omega) (by omega) (by omega), nt _ (by omega) (by omega) (by omega), hK _ _ _ (by decide) (by decide), hK _ _ _ (by decide) (by decide), g_kNtP, g_kNtC]
    have m1 : gI M 26 0 (607 + w) = gI τ 11 0 w := by rw [hM _ (by omega) (by omega), bp1]
    have m2 : gI M 26 0 (615 + w) = gI τ 12 0 w := by rw [hM _ (by omega) (by omega), bp2]
    have P1 : gI (mPy (mPy M w1 q1 c1) w2 q2 c2) 26 0 (607 + w) = if w = w2 then wr ((if w = w1 then wr (gI τ 11 0 w + q1) else gI τ 11 0 w) + q2) else if w = w1 then wr (gI τ 11 0 w + q1) else gI τ 11 0 w := by
      rw [g_mPy _ _ _ _ _ rw2, if_neg (by omega)]
      have e1 : gI (mPy M w1 q1 c1) 26 0 (607 + w) = if w = w1 then wr (gI τ 11 0 w + q1) else gI τ 11 0 w := by
        rw [g_mPy _ _ _ _ _ rw1, if_neg (by omega)]
        by_cases y : w = w1
        · subst y; rw [if_pos rfl, if_pos rfl, m1]
        · rw [if_neg (by omega), if_neg y, m1]
      by_cases y : w = w2
      · subst y; rw [if_pos rfl, if_pos rfl, e1]
      · rw [if_neg (by omega), if_neg y, e1]
    have P2 : gI (mPy (mPy M w1 q1 c1) w2 q2 c2) 26 0 (615 + w) = if w = w2 then wr ((if w = w1 then wr (gI τ 12 0 w + c1) else gI τ 12 0 w) + c2) else if w = w1 then wr (gI τ 12 0 w + c1) else gI τ 12 0 w := by
      rw [g_mPy _ _ _ _ _ rw2]
      have e1 : gI (mPy M w1 q1 c1) 26 0 (615 + w) = if w = w1 then wr (gI τ 12 0 w + c1) else gI τ 12 0 w := by
        rw [g_mPy _ _ _ _ _ rw1]
        by_cases y : w = w1
        · subst y; rw [if_pos rfl, if_pos rfl, m2]
        · rw [if_neg (by omega), if_neg (by omega), if_neg y, m2]
      by_cases y : w = w2
      · subst y; rw [if_pos rfl, if_pos rfl, e1]
      · rw [if_neg (by omega), if_neg (by omega), if_neg y, e1]
    rw [P1, P2]
    have sb : ∀ y : Int, y + -q = y - q := fun y => by omega
    rcases hw with ⟨y1, y2, y3, y4, y5, y6⟩ | ⟨y1, y2, y3, y4, y5, y6⟩
    · rw [y1, y2, y3, y4, y5, y6]
      simp only [hC, hDD, sb, and_self]
    · rw [y1, y2, y3, y4, y5, y6]
      by_cases k1 : w = gI τ 8 x 2
      · simp only [if_pos k1]
        by_cases k2 : w = gI τ 8 z 2
        · simp only [if_pos k2]
          exact ⟨by rw [wr_swap, sb], by rw [wr_swap, hDD, hC]⟩
        · simp only [if_neg k2]
          exact ⟨trivial, hC _⟩
      · simp only [if_neg k1]
        by_cases k2 : w = gI τ 8 z 2
        · simp only [if_pos k2]
          exact ⟨by rw [sb], hDD _⟩
        · simp only [if_neg k2]
          exact ⟨trivial, trivial⟩
  · rw [g_mNtF _ _ _ _ _ _ k0, p6, hK _ _ _ (by decide) (by decide), g_kNtF, py _ (by omega), hM _ (by omega) (by omega), bf k k0 k8, hx, hz]
