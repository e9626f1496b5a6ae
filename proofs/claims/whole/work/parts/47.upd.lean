/-! some orders change -/
theorem wr_wr (a : Int) : wr (wr a) = wr a := by
  have h := wr_add a 0
  rw [Int.add_zero, Int.add_zero] at h
  exact h
def ROp (τ σ : aM) (c o : Int) : Prop :=
  (gI σ 26 0 o = gI τ 8 o 1 ∧ gI σ 26 0 (60 + o) = gI τ 8 o 2 ∧ gI σ 26 0 (120 + o) = gI τ 8 o 3 ∧ gI σ 26 0 (300 + o) = gI τ 8 o 7 ∧ gI σ 26 0 (360 + o) = gI τ 8 o 8) ∧
  (¬ o = c → gI σ 26 0 (180 + o) = gI τ 8 o 4 ∧ gI σ 26 0 (240 + o) = gI τ 8 o 5 ∧ gI σ 26 0 (540 + o) = gI τ 8 o 6) ∧
  (gI τ 8 o 5 = 1 → gI σ 26 0 (480 + o) = gI τ 8 o 10 + 1) ∧
  (gI τ 8 o 5 = 1 → gI τ 8 o 1 = 2 → gI σ 26 0 (420 + o) = gI τ 8 o 9) ∧
  (o = c → gI σ 26 0 (240 + o) = 3 ∧ ¬ gI τ 8 o 5 = 1)
def IOp (τ : aM) (c o : Int) : Prop :=
  ((1 ≤ gI τ 8 o 1 ∧ gI τ 8 o 1 ≤ 4) ∧ (0 ≤ gI τ 8 o 3 ∧ gI τ 8 o 3 ≤ 1) ∧ (0 ≤ gI τ 8 o 2 ∧ gI τ 8 o 2 < 8)) ∧
  ((0 ≤ gI τ 8 o 4 ∧ gI τ 8 o 4 ≤ 999) ∧ (0 ≤ gI τ 8 o 7 ∧ gI τ 8 o 7 ≤ 999) ∧ (0 ≤ gI τ 8 o 8 ∧ gI τ 8 o 8 ≤ 999) ∧ wr (gI τ 8 o 6) = gI τ 8 o 6) ∧
  (¬ gI τ 8 o 1 = 3 → 1 ≤ gI τ 8 o 7) ∧ (gI τ 8 o 1 = 2 → 1 ≤ gI τ 8 o 8) ∧
  (¬ o = c → (0 ≤ gI τ 8 o 5 ∧ gI τ 8 o 5 ≤ 3) ∧ (gI τ 8 o 5 = 0 → gI τ 8 o 1 = 4 ∧ 1 ≤ gI τ 8 o 4)) ∧
  (gI τ 8 o 5 = 1 → ¬ gI τ 8 o 1 = 4 ∧ 1 ≤ gI τ 8 o 4 ∧ (0 ≤ gI τ 8 o 10 ∧ gI τ 8 o 10 < gI τ 6 0 6) ∧ (gI τ 8 o 1 = 2 → 1 ≤ gI τ 8 o 9 ∧ gI τ 8 o 9 ≤ gI τ 8 o 4))
theorem RO.p {τ σ : aM} {c o : Int} (h : RO τ σ c) (h0 : 0 ≤ o) (h1 : o < gI τ 6 0 2) : ROp τ σ c o := h.2 o h0 h1
theorem IO_p {τ : aM} {c o : Int} (h : IO τ c) (h0 : 0 ≤ o) (h1 : o < gI τ 6 0 2) : IOp τ c o := h o h0 h1
/-- the reference's cells of one order are the same -/
def EqS (σ σ' : aM) (o : Int) : Prop := (gI σ' 26 0 o = gI σ 26 0 o ∧ gI σ' 26 0 (60 + o) = gI σ 26 0 (60 + o) ∧ gI σ' 26 0 (120 + o) = gI σ 26 0 (120 + o) ∧ gI σ' 26 0 (300 + o) = gI σ 26 0 (300 + o) ∧ gI σ' 26 0 (360 + o) = gI σ 26 0 (360 + o)) ∧
  (gI σ' 26 0 (180 + o) = gI σ 26 0 (180 + o) ∧ gI σ' 26 0 (240 + o) = gI σ 26 0 (240 + o) ∧ gI σ' 26 0 (540 + o) = gI σ 26 0 (540 + o)) ∧ gI σ' 26 0 (480 + o) = gI σ 26 0 (480 + o) ∧ gI σ' 26 0 (420 + o) = gI σ 26 0 (420 + o)
/-- the class's cells of one order are the same -/
def EqC (τ τ' : aM) (o : Int) : Prop := (gI τ' 8 o 1 = gI τ 8 o 1 ∧ gI τ' 8 o 2 = gI τ 8 o 2 ∧ gI τ' 8 o 3 = gI τ 8 o 3 ∧ gI τ' 8 o 7 = gI τ 8 o 7 ∧ gI τ' 8 o 8 = gI τ 8 o 8) ∧
  (gI τ' 8 o 4 = gI τ 8 o 4 ∧ gI τ' 8 o 5 = gI τ 8 o 5 ∧ gI τ' 8 o 6 = gI τ 8 o 6) ∧ gI τ' 8 o 10 = gI τ 8 o 10 ∧ gI τ' 8 o 9 = gI τ 8 o 9
theorem ROp_same {τ σ τ' σ' : aM} {c c' o : Int} (h : ROp τ σ c o) (e : EqC τ τ' o) (s : EqS σ σ' o) (hc : o = c ↔ o = c') : ROp τ' σ' c' o := by
  obtain ⟨⟨a1, a2, a3, a4, a5⟩, a6, a7, a8, a9⟩ := h
  obtain ⟨⟨e1, e2, e3, e7, e8⟩, ⟨e4, e5, e6⟩, e10, e9⟩ := e
  obtain ⟨⟨s1, s2, s3, s4, s5⟩, ⟨s6, s7, s8⟩, s9, s10⟩ := s
  unfold ROp
  rw [e1, e2, e3, e7, e8, e4, e5, e6, e10, e9, s1, s2, s3, s4, s5, s6, s7, s8, s9, s10]
  exact ⟨⟨a1, a2, a3, a4, a5⟩, fun q => a6 (fun z => q (hc.mp z)), a7, a8, fun q => a9 (hc.mpr q)⟩
theorem IOp_same {τ τ' : aM} {c c' o : Int} (h : IOp τ c o) (e : EqC τ τ' o) (hn : gI τ 6 0 6 ≤ gI τ' 6 0 6) (hc : o = c ↔ o = c') : IOp τ' c' o := by
  obtain ⟨a1, a2, a3, a4, a5, a6⟩ := h
  obtain ⟨⟨e1, e2, e3, e7, e8⟩, ⟨e4, e5, e6⟩, e10, e9⟩ := e
  unfold IOp
  rw [e1, e2, e3, e7, e8, e4, e5, e6, e10, e9]
  exact ⟨a1, a2, a3, a4, fun q => a5 (fun z => q (hc.mp z)), fun q => by have := a6 q; exact ⟨this.1, this.2.1, by omega, this.2.2.2⟩⟩
theorem updO {τ σ τ' σ' : aM} {c c' f0 : Int} (m : Int → Prop) (h : RO τ σ c) (hI : IO τ c) (hD : DT τ) (e2 : gI τ' 6 0 2 = gI τ 6 0 2) (e6 : gI τ 6 0 6 ≤ gI τ' 6 0 6) (s6 : gI σ' 26 0 600 = gI σ 26 0 600)
    (hT : ∀ o, 0 ≤ o → o < gI τ 6 0 2 → ¬ m o → EqC τ τ' o ∧ EqS σ σ' o ∧ (o = c ↔ o = c'))
    (hm : ∀ o, 0 ≤ o → o < gI τ 6 0 2 → m o → ROp τ' σ' c' o ∧ IOp τ' c' o ∧ (gI τ' 8 o 5 = 1 → (gI τ 8 o 5 = 1 ∧ gI τ' 8 o 10 = gI τ 8 o 10) ∨ (gI τ 6 0 6 ≤ gI τ' 8 o 10 ∧ o = f0))) : RO τ' σ' c' ∧ IO τ' c' ∧ DT τ' := by
  have hR : ∀ o, 0 ≤ o → o < gI τ 6 0 2 → ROp τ' σ' c' o ∧ IOp τ' c' o ∧ (gI τ' 8 o 5 = 1 → (gI τ 8 o 5 = 1 ∧ gI τ' 8 o 10 = gI τ 8 o 10) ∨ (gI τ 6 0 6 ≤ gI τ' 8 o 10 ∧ o = f0)) := fun o h0 h1 => by
    by_cases q : m o
    · exact hm o h0 h1 q
    · obtain ⟨e, s, hc⟩ := hT o h0 h1 q
      refine ⟨ROp_same (h.p h0 h1) e s hc, IOp_same (IO_p hI h0 h1) e e6 hc, fun z => Or.inl ⟨?_, e.2.2.1⟩⟩
      rw [← e.2.1.2.1]; exact z
  refine ⟨⟨by rw [s6, e2]; exact h.1, fun o h0 h1 => ?_⟩, fun o h0 h1 => ?_, fun i j i0 i1 j0 j1 hi hj hij => ?_⟩
  · exact (hR o h0 (by omega)).1
  · exact (hR o h0 (by omega)).2.1
  · rw [e2] at i1 j1
    rcases (hR i i0 i1).2.2 hi with ⟨a1, a2⟩ | ⟨a1, a2⟩
    · rcases (hR j j0 j1).2.2 hj with ⟨b1, b2⟩ | ⟨b1, b2⟩
      · rw [a2, b2]; exact hD i j i0 i1 j0 j1 a1 b1 hij
      · have := ((hI i i0 i1).2.2.2.2.2 a1).2.2.1
        omega
    · rcases (hR j j0 j1).2.2 hj with ⟨b1, b2⟩ | ⟨b1, b2⟩
      · have := ((hI j j0 j1).2.2.2.2.2 b1).2.2.1
        omega
      · omega
/-- cells of the reference's orders but those of f are the same -/
theorem EqS_of {σ σ' : aM} {o : Int} (h0 : 0 ≤ o) (h1 : o < 60) (h : ∀ k, 0 ≤ k → k < 600 → k % 60 = o → gI σ' 26 0 k = gI σ 26 0 k) : EqS σ σ' o := by
  refine ⟨⟨h _ (by omega) (by omega) (by omega), h _ (by omega) (by omega) (by omega), h _ (by omega) (by omega) (by omega), h _ (by omega) (by omega) (by omega), h _ (by omega) (by omega) (by omega)⟩, ⟨h _ (by omega) (by omega) (by omega), h _ (by omega) (by omega) (by omega), h _ (by omega) (by omega) (by omega)⟩, h _ (by omega) (by omega) (by omega), h _ (by omega) (by omega) (by omega)⟩
theorem EqC_of {τ τ' : aM} {o : Int} (h : ∀ j, gI τ' 8 o j = gI τ 8 o j) : EqC τ τ' o := ⟨⟨h _, h _, h _, h _, h _⟩, ⟨h _, h _, h _⟩, h _, h _⟩
/-! what a loss makes of the reference's cells -/
theorem g_mLo_25 (σ : aM) (f q : Int) (t : Nat) (i j : Int) (ht : ¬ t = 26) : gI (mLo3 (mLo2 (mLo1 σ f q) f) f q) t i j = gI σ t i j := by
  have e1 : gI (mLo1 σ f q) t i j = gI σ t i j := by
    unfold mLo1
    simp (disch := omega) only [gI_nt]
  have e2 : ∀ σ, gI (mLo2 σ f) t i j = gI σ t i j := fun σ => by
    unfold mLo2
    split
    · simp (disch := omega) only [gI_nt]
    · rfl
  have e4 : ∀ σ, gI (mLo4 σ f) t i j = gI σ t i j := fun σ => by
    unfold mLo4 mTm mFs
    split
    · simp (disch := omega) only [gI_nt]
    · rfl
  have e3 : ∀ σ, gI (mLo3 σ f q) t i j = gI σ t i j := fun σ => by
    unfold mLo3
    split
    · rw [e4]; simp (disch := omega) only [gI_nt]
    · rfl
  rw [e3, e2, e1]
/-- a round is over, in the reference's words -/
abbrev rnM (σ : aM) (f q : Int) : Prop := gI σ 26 0 f = 2 ∧ 1 ≤ gI σ 26 0 (180 + f) - q ∧ gI σ 26 0 (420 + f) - q = 0
theorem mLo_eff (σ : aM) (f q : Int) (h : 0 ≤ f ∧ f < 60) (hq : 0 ≤ q ∧ q ≤ 999) (hl : q ≤ gI σ 26 0 (180 + f) ∧ gI σ 26 0 (180 + f) ≤ 999) (hs : gI σ 26 0 f = 2 → 0 ≤ gI σ 26 0 (420 + f) ∧ gI σ 26 0 (420 + f) ≤ 999) :
    (∀ k, ¬ k = 180 + f → ¬ k = 540 + f → ¬ k = 240 + f → ¬ k = 420 + f → ¬ k = 480 + f → ¬ k = 605 → gI (mLo3 (mLo2 (mLo1 σ f q) f) f q) 26 0 k = gI σ 26 0 k) ∧
    gI (mLo3 (mLo2 (mLo1 σ f q) f) f q) 26 0 (180 + f) = gI σ 26 0 (180 + f) - q ∧
    gI (mLo3 (mLo2 (mLo1 σ f q) f) f q) 26 0 (540 + f) = wr (gI σ 26 0 (540 + f) + q) ∧
    gI (mLo3 (mLo2 (mLo1 σ f q) f) f q) 26 0 (240 + f) = (if gI σ 26 0 (180 + f) - q = 0 then 2 else gI σ 26 0 (240 + f)) ∧
    (gI σ 26 0 f = 2 → gI (mLo3 (mLo2 (mLo1 σ f q) f) f q) 26 0 (420 + f) = if rnM σ f q then (if gI σ 26 0 (360 + f) < gI σ 26 0 (180 + f) - q then gI σ 26 0 (360 + f) else gI σ 26 0 (180 + f) - q) else gI σ 26 0 (420 + f) - q) ∧
    gI (mLo3 (mLo2 (mLo1 σ f q) f) f q) 26 0 (480 + f) = (if rnM σ f q then wr (gI σ 26 0 605 + 1) else gI σ 26 0 (480 + f)) ∧
    gI (mLo3 (mLo2 (mLo1 σ f q) f) f q) 26 0 605 = (if rnM σ f q then wr (gI σ 26 0 605 + 1) else gI σ 26 0 605) := by
  have w1 : wr (gI σ 26 0 (180 + f) - q) = gI σ 26 0 (180 + f) - q := wr_id (by omega) (by omega)
  have a1 : gI (mLo1 σ f q) 26 0 (180 + f) = gI σ 26 0 (180 + f) - q := by
    unfold mLo1
    simp (disch := omega) only [gI_self, gI_nt, gI_nj, gL_uI, gR_uI, gI_uL, gR_uL, gI_uR, gL_uR, w1]
  have a2 : gI (mLo1 σ f q) 26 0 (540 + f) = wr (gI σ 26 0 (540 + f) + q) := by
    unfold mLo1
    simp (disch := omega) only [gI_self, gI_nt, gI_nj, gL_uI, gR_uI, gI_uL, gR_uL, gI_uR, gL_uR]
  have ak : ∀ k, ¬ k = 180 + f → ¬ k = 540 + f → gI (mLo1 σ f q) 26 0 k = gI σ 26 0 k := fun k k1 k2 => by
    unfold mLo1
    simp (disch := omega) only [gI_self, gI_nt, gI_nj, gL_uI, gR_uI, gI_uL, gR_uL, gI_uR, gL_uR]
  have bk : ∀ k, ¬ k = 240 + f → gI (mLo2 (mLo1 σ f q) f) 26 0 k = gI (mLo1 σ f q) 26 0 k := fun k k1 => by
    unfold mLo2
    split
    · simp (disch := omega) only [gI_self, gI_nt, gI_nj, gL_uI, gR_uI, gI_uL, gR_uL, gI_uR, gL_uR]
    · rfl
  have b5 : gI (mLo2 (mLo1 σ f q) f) 26 0 (240 + f) = if gI σ 26 0 (180 + f) - q = 0 then 2 else gI σ 26 0 (240 + f) := by
    unfold mLo2
    rw [a1]
    split
    · simp (disch := omega) only [gI_self, gI_nt, gI_nj, gL_uI, gR_uI, gI_uL, gR_uL, gI_uR, gL_uR]
    · exact ak _ (by omega) (by omega)
  have b1 : gI (mLo2 (mLo1 σ f q) f) 26 0 f = gI σ 26 0 f := by rw [bk _ (by omega), ak _ (by omega) (by omega)]
  have b4 : gI (mLo2 (mLo1 σ f q) f) 26 0 (180 + f) = gI σ 26 0 (180 + f) - q := by rw [bk _ (by omega), a1]
  have b6 : gI (mLo2 (mLo1 σ f q) f) 26 0 (540 + f) = wr (gI σ 26 0 (540 + f) + q) := by rw [bk _ (by omega), a2]
  have bo : ∀ k, ¬ k = 180 + f → ¬ k = 540 + f → ¬ k = 240 + f → gI (mLo2 (mLo1 σ f q) f) 26 0 k = gI σ 26 0 k := fun k k1 k2 k3 => by rw [bk _ k3, ak _ k1 k2]
  generalize mLo2 (mLo1 σ f q) f = M at b5 b1 b4 b6 bo ⊢
  clear ak bk a1 a2
  unfold mLo3
  rw [b1]
  by_cases c1 : gI σ 26 0 f = 2
  · have hs := hs c1
    have w2 : wr (gI σ 26 0 (420 + f) - q) = gI σ 26 0 (420 + f) - q := wr_id (by omega) (by omega)
    rw [if_pos c1, bo (420 + f) (by omega) (by omega) (by omega), w2]
    unfold mLo4
    have d4 : gI (uI M 26 0 (420 + f) (gI σ 26 0 (420 + f) - q)) 26 0 (180 + f) = gI σ 26 0 (180 + f) - q := by simp (disch := omega) only [gI_self, gI_nt, gI_nj, gL_uI, gR_uI, gI_uL, gR_uL, gI_uR, gL_uR, b4]
    have d2 : gI (uI M 26 0 (420 + f) (gI σ 26 0 (420 + f) - q)) 26 0 (420 + f) = gI σ 26 0 (420 + f) - q := by simp (disch := omega) only [gI_self, gI_nt, gI_nj, gL_uI, gR_uI, gI_uL, gR_uL, gI_uR, gL_uR]
    rw [d4, d2]
    by_cases c2 : 1 ≤ gI σ 26 0 (180 + f) - q ∧ gI σ 26 0 (420 + f) - q = 0
    · have hr : rnM σ f q := ⟨c1, c2⟩
      rw [if_pos ⟨by omega, c2.2⟩]
      unfold mTm mFs
      refine ⟨fun k k1 k2 k3 k4 k5 k6 => ?_, ?_, ?_, ?_, fun _ => ?_, ?_, ?_⟩
      · simp (disch := omega) only [gI_self, gI_nt, gI_nj, gL_uI, gR_uI, gI_uL, gR_uL, gI_uR, gL_uR, bo]
      · simp (disch := omega) only [gI_self, gI_nt, gI_nj, gL_uI, gR_uI, gI_uL, gR_uL, gI_uR, gL_uR, b4]
      · simp (disch := omega) only [gI_self, gI_nt, gI_nj, gL_uI, gR_uI, gI_uL, gR_uL, gI_uR, gL_uR, b6]
      · simp (disch := omega) only [gI_self, gI_nt, gI_nj, gL_uI, gR_uI, gI_uL, gR_uL, gI_uR, gL_uR, b5]
      · simp (disch := omega) only [gI_self, gI_nt, gI_nj, gL_uI, gR_uI, gI_uL, gR_uL, gI_uR, gL_uR, bo, b4, if_pos hr]
      · simp (disch := omega) only [gI_self, gI_nt, gI_nj, gL_uI, gR_uI, gI_uL, gR_uL, gI_uR, gL_uR, bo, if_pos hr]
      · simp (disch := omega) only [gI_self, gI_nt, gI_nj, gL_uI, gR_uI, gI_uL, gR_uL, gI_uR, gL_uR, bo, if_pos hr]
    · have hr : ¬ rnM σ f q := fun z => c2 z.2
      rw [if_neg (fun z => c2 ⟨by omega, z.2⟩)]
      refine ⟨fun k k1 k2 k3 k4 k5 k6 => ?_, ?_, ?_, ?_, fun _ => ?_, ?_, ?_⟩
      · simp (disch := omega) only [gI_self, gI_nt, gI_nj, gL_uI, gR_uI, gI_uL, gR_uL, gI_uR, gL_uR, bo]
      · simp (disch := omega) only [gI_self, gI_nt, gI_nj, gL_uI, gR_uI, gI_uL, gR_uL, gI_uR, gL_uR, b4]
      · simp (disch := omega) only [gI_self, gI_nt, gI_nj, gL_uI, gR_uI, gI_uL, gR_uL, gI_uR, gL_uR, b6]
      · simp (disch := omega) only [gI_self, gI_nt, gI_nj, gL_uI, gR_uI, gI_uL, gR_uL, gI_uR, gL_uR, b5]
      · simp (disch := omega) only [gI_self, gI_nt, gI_nj, gL_uI, gR_uI, gI_uL, gR_uL, gI_uR, gL_uR, if_neg hr]
      · simp (disch := omega) only [gI_self, gI_nt, gI_nj, gL_uI, gR_uI, gI_uL, gR_uL, gI_uR, gL_uR, bo, if_neg hr]
      · simp (disch := omega) only [gI_self, gI_nt, gI_nj, gL_uI, gR_uI, gI_uL, gR_uL, gI_uR, gL_uR, bo, if_neg hr]
  · have hr : ¬ rnM σ f q := fun z => c1 z.1
    rw [if_neg c1]
    refine ⟨fun k k1 k2 k3 k4 k5 k6 => bo k k1 k2 k3, b4, b6, b5, fun z => absurd z c1, ?_, ?_⟩
    · rw [if_neg hr, bo _ (by omega) (by omega) (by omega)]
    · rw [if_neg hr, bo _ (by omega) (by omega) (by omega)]
