/-! class and reference, side by side: τ the class's memory, σ the reference's; c the order that comes -/
def RO (τ σ : aM) (c : Int) : Prop := (gI σ 26 0 600 = gI τ 6 0 2 ∧ 0 ≤ gI τ 6 0 2 ∧ gI τ 6 0 2 ≤ 60) ∧ ∀ o, 0 ≤ o → o < gI τ 6 0 2 →
  (gI σ 26 0 o = gI τ 8 o 1 ∧ gI σ 26 0 (60 + o) = gI τ 8 o 2 ∧ gI σ 26 0 (120 + o) = gI τ 8 o 3 ∧ gI σ 26 0 (300 + o) = gI τ 8 o 7 ∧ gI σ 26 0 (360 + o) = gI τ 8 o 8) ∧
  (¬ o = c → gI σ 26 0 (180 + o) = gI τ 8 o 4 ∧ gI σ 26 0 (240 + o) = gI τ 8 o 5 ∧ gI σ 26 0 (540 + o) = gI τ 8 o 6) ∧
  (gI τ 8 o 5 = 1 → gI σ 26 0 (480 + o) = gI τ 8 o 10 + 1) ∧
  (gI τ 8 o 5 = 1 → gI τ 8 o 1 = 2 → gI σ 26 0 (420 + o) = gI τ 8 o 9) ∧
  (o = c → gI σ 26 0 (240 + o) = 3 ∧ ¬ gI τ 8 o 5 = 1)
/-- what holds of the class's orders -/
def IO (τ : aM) (c : Int) : Prop := ∀ o, 0 ≤ o → o < gI τ 6 0 2 →
  ((1 ≤ gI τ 8 o 1 ∧ gI τ 8 o 1 ≤ 4) ∧ (0 ≤ gI τ 8 o 3 ∧ gI τ 8 o 3 ≤ 1) ∧ (0 ≤ gI τ 8 o 2 ∧ gI τ 8 o 2 < 8)) ∧
  ((0 ≤ gI τ 8 o 4 ∧ gI τ 8 o 4 ≤ 999) ∧ (0 ≤ gI τ 8 o 7 ∧ gI τ 8 o 7 ≤ 999) ∧ (0 ≤ gI τ 8 o 8 ∧ gI τ 8 o 8 ≤ 999) ∧ wr (gI τ 8 o 6) = gI τ 8 o 6) ∧
  (¬ gI τ 8 o 1 = 3 → 1 ≤ gI τ 8 o 7) ∧ (gI τ 8 o 1 = 2 → 1 ≤ gI τ 8 o 8) ∧
  (¬ o = c → (0 ≤ gI τ 8 o 5 ∧ gI τ 8 o 5 ≤ 3) ∧ (gI τ 8 o 5 = 0 → gI τ 8 o 1 = 4 ∧ 1 ≤ gI τ 8 o 4)) ∧
  (gI τ 8 o 5 = 1 → ¬ gI τ 8 o 1 = 4 ∧ 1 ≤ gI τ 8 o 4 ∧ (0 ≤ gI τ 8 o 10 ∧ gI τ 8 o 10 < gI τ 6 0 6) ∧ (gI τ 8 o 1 = 2 → 1 ≤ gI τ 8 o 9 ∧ gI τ 8 o 9 ≤ gI τ 8 o 4))
theorem RO.st {τ σ : aM} {c o : Int} (h : RO τ σ c) (h0 : 0 ≤ o) (h1 : o < gI τ 6 0 2) : (gI σ 26 0 (240 + o) = 1) = (gI τ 8 o 5 = 1) := by
  obtain ⟨_, b, _, _, e⟩ := h.2 o h0 h1
  by_cases q : o = c
  · have := e q
    exact propext (by omega)
  · have := b q
    exact propext (by omega)
theorem RO.lf {τ σ : aM} {c o : Int} (h : RO τ σ c) (h0 : 0 ≤ o) (h1 : o < gI τ 6 0 2) (h5 : gI τ 8 o 5 = 1) : gI σ 26 0 (180 + o) = gI τ 8 o 4 := by
  obtain ⟨_, b, _, _, e⟩ := h.2 o h0 h1
  exact (b (fun q => (e q).2 h5)).1
/-- the best price, by a loop of its own -/
def bpF (τ : aM) (w : Int) : Nat → Int → Int → Int
  | 0, _, b => b
  | n + 1, i, b => bpF τ w n (i + 1) (if elF τ w i ∧ (b = 0 ∨ (w = 0 ∧ b < gI τ 8 i 7) ∨ (¬ w = 0 ∧ gI τ 8 i 7 < b)) then gI τ 8 i 7 else b)
theorem bpF_fst {τ : aM} {w c : Int} (hI : IO τ c) : ∀ (n : Nat) (i b : Int) (f : Option Int), 0 ≤ i → i + n = gI τ 6 0 2 → (match f with | none => b = 0 | some j => b = gI τ 8 j 7 ∧ 1 ≤ b ∧ gI τ 8 j 3 = w ∧ ¬ gI τ 8 j 1 = 3) → bpF τ w n i b = match fstF τ w n i f with | none => 0 | some j => gI τ 8 j 7 := by
  intro n
  induction n with
  | zero =>
    intro i b f h0 h1 h2
    cases f with
    | none => exact h2
    | some j => exact h2.1
  | succ n ih =>
    intro i b f h0 h1 h2
    have hi := hI i h0 (by omega)
    cases f with
    | none =>
      rw [bpF, fstF]
      have h2 : b = 0 := h2
      by_cases q : elF τ w i
      · rw [if_pos (show elF τ w i ∧ (b = 0 ∨ (w = 0 ∧ b < gI τ 8 i 7) ∨ (¬ w = 0 ∧ gI τ 8 i 7 < b)) from ⟨q, Or.inl h2⟩), if_pos q]
        exact ih (i + 1) _ (some i) (by omega) (by omega) ⟨rfl, hi.2.2.1 q.2.2, q.2.1, q.2.2⟩
      · rw [if_neg (show ¬ (elF τ w i ∧ (b = 0 ∨ (w = 0 ∧ b < gI τ 8 i 7) ∨ (¬ w = 0 ∧ gI τ 8 i 7 < b))) from fun z => q z.1), if_neg q]
        exact ih (i + 1) _ none (by omega) (by omega) h2
    | some j =>
      rw [bpF, fstF]
      obtain ⟨k1, k2, k3, k4⟩ := h2
      by_cases zA : elF τ w i ∧ (b = 0 ∨ (w = 0 ∧ b < gI τ 8 i 7) ∨ (¬ w = 0 ∧ gI τ 8 i 7 < b))
      · have zB : elF τ w i ∧ ahd τ i j (gI τ 8 i 7) (gI τ 8 j 7) := ⟨zA.1, Or.inl (by have := zA.1.2.1; omega)⟩
        rw [if_pos zA, if_pos zB]
        exact ih (i + 1) _ (some i) (by omega) (by omega) ⟨rfl, hi.2.2.1 zA.1.2.2, zA.1.2.1, zA.1.2.2⟩
      · rw [if_neg zA]
        by_cases zB : elF τ w i ∧ ahd τ i j (gI τ 8 i 7) (gI τ 8 j 7)
        · rw [if_pos zB]
          have e : gI τ 8 i 7 = b := Classical.byContradiction fun hne => zA ⟨zB.1, by
            have z3 := zB.1.2.1
            have z4 := zB.2
            unfold ahd at z4
            omega⟩
          exact ih (i + 1) _ (some i) (by omega) (by omega) ⟨e.symm, k2, zB.1.2.1, zB.1.2.2⟩
        · rw [if_neg zB]
          exact ih (i + 1) _ (some j) (by omega) (by omega) ⟨k1, k2, k3, k4⟩
theorem bpF_bsP {τ : aM} {w c : Int} (hI : IO τ c) (h0 : 0 ≤ gI τ 6 0 2) : bpF τ w (gI τ 6 0 2).toNat 0 0 = bsP τ w := by
  unfold bsP frs
  exact bpF_fst hI _ _ _ _ (by omega) (by omega) rfl
theorem l_Md_bestPrice {τ σ : aM} {c w : Int} (h : RO τ σ c) (hI : IO τ c) : ∀ (n : Nat) (i b : Int) (a4 a5 : AV), 0 ≤ i → i + n = gI τ 6 0 2 → ev 141 4 [aR 25 0, aI w, aI b, aI i, a4, a5] [] σ = some (some (aI (bpF τ w n i b)), σ) := by
  intro n
  have hc := h.1.1
  have hc6 := h.1.2
  induction n with
  | zero =>
    intro i b a4 a5 h0 h1
    have hle : gI τ 6 0 2 ≤ i := by omega
    rw [e_Md_bestPrice_4]
    simp (disch := omega) only [e_Md_bestPrice_0, e_Md_bestPrice_1, e_Md_bestPrice_2, e_Md_bestPrice_3, e_Md_bestPrice_5, e_Md_bestPrice_6, e_Md_bestPrice_9, e_Md_bestPrice_12, e_Md_bestPrice_13, e_Md_bestPrice_16, e_Md_bestPrice_17, e_Md_bestPrice_18, e_Md_bestPrice_21, e_Md_bestPrice_24, e_Md_bestPrice_25, e_Md_bestPrice_26, e_Md_bestPrice_29, e_Md_bestPrice_32, e_Md_bestPrice_33, e_Md_bestPrice_36, e_Md_bestPrice_38, e_Md_bestPrice_39, e_Md_bestPrice_40, e_Md_bestPrice_41, e_Md_bestPrice_42, e_Md_bestPrice_45, e_Md_bestPrice_46, e_Md_bestPrice_49, e_Md_bestPrice_50, e_Md_bestPrice_52, e_Md_bestPrice_53, e_Md_bestPrice_56, e_Md_bestPrice_57, e_Md_bestPrice_60, e_Md_bestPrice_61, e_Md_bestPrice_64, e_Md_bestPrice_67, e_Md_bestPrice_68, e_Md_bestPrice_69, e_Md_bestPrice_70, e_Md_bestPrice_71, e_Md_bestPrice_74, e_Md_bestPrice_77, e_Md_bestPrice_78, e_Md_bestPrice_81, e_Md_bestPrice_84, e_Md_bestPrice_85, e_Md_bestPrice_86, e_Md_bestPrice_87, e_Md_bestPrice_88, e_Md_bestPrice_91, e_Md_bestPrice_92, e_Md_bestPrice_95, e_Md_bestPrice_96, e_Md_bestPrice_98, e_Md_bestPrice_100, e_Md_bestPrice_103, e_Md_bestPrice_105, e_Md_bestPrice_108, e_Md_bestPrice_109, e_Md_bestPrice_112, e_Md_bestPrice_115, e_Md_bestPrice_116, e_Md_bestPrice_117, e_Md_bestPrice_118, e_Md_bestPrice_121, e_Md_bestPrice_122, e_Md_bestPrice_123, e_Md_bestPrice_126, e_Md_bestPrice_129, e_Md_bestPrice_130, hc, if_pos hle]
    rfl
  | succ n ih =>
    intro i b a4 a5 h0 h1
    have hle : ¬ gI τ 6 0 2 ≤ i := by omega
    obtain ⟨⟨r1, r2, r3, r4, r5⟩, _⟩ := h.2 i h0 (by omega)
    have rs := h.st h0 (by omega)
    have hi := hI i h0 (by omega)
    have hk : gI τ 8 i 5 = 1 → ((gI τ 8 i 1 = 1 ∨ gI τ 8 i 1 = 2) ↔ ¬ gI τ 8 i 1 = 3) := fun q => by
      have := hi.2.2.2.2.2 q
      omega
    rw [e_Md_bestPrice_4, bpF]
    have s1 : ev 141 16 [aR 25 0, aI w, aI b, aI i, a4, a5] [] σ = ev 141 52 [aR 25 0, aI w, aI b, aI i, aI (if elF τ w i then 1 else 0), a5] [] σ := by
      simp (disch := omega) only [e_Md_bestPrice_16, e_Md_bestPrice_17, e_Md_bestPrice_18, e_Md_bestPrice_21, e_Md_bestPrice_24, e_Md_bestPrice_25, e_Md_bestPrice_26, e_Md_bestPrice_29, e_Md_bestPrice_32, e_Md_bestPrice_33, e_Md_bestPrice_36, e_Md_bestPrice_38, e_Md_bestPrice_39, e_Md_bestPrice_40, e_Md_bestPrice_41, e_Md_bestPrice_42, e_Md_bestPrice_45, e_Md_bestPrice_46, e_Md_bestPrice_49, e_Md_bestPrice_50, c_Md_doesRest, c_Md_isLimit, evK_i, b01, wr_id, rs, r1, r3]
      clear ih hI h hi
      by_cases q5 : gI τ 8 i 5 = 1
      · have hk' := hk q5
        by_cases q3 : gI τ 8 i 3 = w
        · by_cases q1 : gI τ 8 i 1 = 3
          · rw [if_neg (show ¬ elF τ w i from fun z => z.2.2 q1)]
            simp [q5, q3, hk', q1]
          · rw [if_pos (show elF τ w i from ⟨q5, q3, q1⟩)]
            simp [q5, q3, hk', q1]
        · rw [if_neg (show ¬ elF τ w i from fun z => q3 z.2.1)]
          simp [q5, q3]
      · rw [if_neg (show ¬ elF τ w i from fun z => q5 z.1)]
        simp [q5]
    have s2 : ∀ x : Int, ev 141 52 [aR 25 0, aI w, aI b, aI i, aI x, a5] [] σ = ev 141 98 [aR 25 0, aI w, aI b, aI i, aI x, aI (if b = 0 ∨ (w = 0 ∧ b < gI τ 8 i 7) ∨ (¬ w = 0 ∧ gI τ 8 i 7 < b) then 1 else 0)] [] σ := fun x => by
      simp (disch := omega) only [e_Md_bestPrice_52, e_Md_bestPrice_53, e_Md_bestPrice_56, e_Md_bestPrice_57, e_Md_bestPrice_60, e_Md_bestPrice_61, e_Md_bestPrice_64, e_Md_bestPrice_67, e_Md_bestPrice_68, e_Md_bestPrice_69, e_Md_bestPrice_70, e_Md_bestPrice_71, e_Md_bestPrice_74, e_Md_bestPrice_77, e_Md_bestPrice_78, e_Md_bestPrice_81, e_Md_bestPrice_84, e_Md_bestPrice_85, e_Md_bestPrice_86, e_Md_bestPrice_87, e_Md_bestPrice_88, e_Md_bestPrice_91, e_Md_bestPrice_92, e_Md_bestPrice_95, e_Md_bestPrice_96, wr_id, r4]
      clear ih hI h hi hk s1 rs r1 r2 r3 r4 r5
      by_cases q1 : b = 0
      · simp [q1]
      · by_cases q2 : w = 0
        · by_cases q3 : b < gI τ 8 i 7
          · simp [q1, q2, q3, show ¬ gI τ 8 i 7 ≤ b by omega]
          · simp [q1, q2, q3, show gI τ 8 i 7 ≤ b by omega]
        · by_cases q3 : gI τ 8 i 7 < b
          · simp [q1, q2, q3, show ¬ b ≤ gI τ 8 i 7 by omega]
          · simp [q1, q2, q3, show b ≤ gI τ 8 i 7 by omega]
    have s3 : ∀ x z, ev 141 98 [aR 25 0, aI w, aI b, aI i, aI x, aI z] [] σ = some (some (aI (bpF τ w n (i + 1) (if ¬ x = 0 ∧ ¬ z = 0 then gI τ 8 i 7 else b))), σ) := fun x z => by
      simp (disch := omega) only [e_Md_bestPrice_98, e_Md_bestPrice_100, e_Md_bestPrice_103, e_Md_bestPrice_105, e_Md_bestPrice_108, e_Md_bestPrice_109, e_Md_bestPrice_112, e_Md_bestPrice_115, e_Md_bestPrice_116, e_Md_bestPrice_117, e_Md_bestPrice_118, e_Md_bestPrice_121, e_Md_bestPrice_122, e_Md_bestPrice_123, e_Md_bestPrice_126, wr_id, r4, ih]
      by_cases q1 : x = 0
      · simp [q1]
      · by_cases q2 : z = 0
        · simp [q1, q2]
        · simp [q1, q2]
    simp (disch := omega) only [e_Md_bestPrice_5, e_Md_bestPrice_6, e_Md_bestPrice_9, e_Md_bestPrice_12, e_Md_bestPrice_13, hc, if_neg hle, s1, s2, s3, b01]
    by_cases q1 : elF τ w i
    · by_cases q2 : b = 0 ∨ (w = 0 ∧ b < gI τ 8 i 7) ∨ (¬ w = 0 ∧ gI τ 8 i 7 < b)
      · rw [if_pos ⟨fun z => z q1, fun z => z q2⟩, if_pos ⟨q1, q2⟩]
      · rw [if_neg (fun z => z.2 q2), if_neg (fun z => q2 z.2)]
    · rw [if_neg (fun z => z.1 q1), if_neg (fun z => q1 z.1)]
theorem c_Md_bestPrice {τ σ : aM} {c : Int} (w : Int) (h : RO τ σ c) (hI : IO τ c) : ev 141 0 [aR 25 0, aI w, aU, aU, aU, aU] [] σ = some (some (aI (bsP τ w)), σ) := by
  have h1 := l_Md_bestPrice (w := w) h hI (gI τ 6 0 2).toNat 0 0 aU aU (by omega) (by have := h.1.2; omega)
  rw [bpF_bsP hI h.1.2.1] at h1
  simp (disch := omega) only [e_Md_bestPrice_0, e_Md_bestPrice_1, e_Md_bestPrice_2, e_Md_bestPrice_3, h1]
