/-! the whole relation, over one memory -/
theorem Sim_cg {τ σ τ' σ' : aM} {c B : Int} (h : Sim τ σ c B) (h6 : ∀ j, 2 ≤ j → j ≤ 6 → gI τ' 6 0 j = gI τ 6 0 j) (h8 : ∀ i j, 0 ≤ i → i < gI τ 6 0 2 → 1 ≤ j → j ≤ 10 → gI τ' 8 i j = gI τ 8 i j) (h80 : ∀ i, gI τ' 8 i 0 = gI τ 8 i 0)
    (h9 : gI τ' 9 0 3 = gI τ 9 0 3 ∧ gI τ' 9 0 4 = gI τ 9 0 4) (h10 : ∀ j, 0 ≤ j → j < 800 → gI τ' 10 0 j = gI τ 10 0 j) (h11 : ∀ j, 0 ≤ j → j < 8 → gI τ' 11 0 j = gI τ 11 0 j ∧ gI τ' 12 0 j = gI τ 12 0 j) (hs : ∀ k, 0 ≤ k → k < 1423 → gI σ' 26 0 k = gI σ 26 0 k) : Sim τ' σ' c B := by
  obtain ⟨hO, hI, hD, hG, hg⟩ := h
  have hc6 := hO.1.2
  have e2 := h6 2 (by omega) (by omega)
  have eC : ∀ o, 0 ≤ o → o < gI τ 6 0 2 → EqC τ τ' o := fun o o0 o1 => ⟨⟨h8 o _ o0 o1 (by omega) (by omega), h8 o _ o0 o1 (by omega) (by omega), h8 o _ o0 o1 (by omega) (by omega), h8 o _ o0 o1 (by omega) (by omega), h8 o _ o0 o1 (by omega) (by omega)⟩, ⟨h8 o _ o0 o1 (by omega) (by omega), h8 o _ o0 o1 (by omega) (by omega), h8 o _ o0 o1 (by omega) (by omega)⟩, h8 o _ o0 o1 (by omega) (by omega), h8 o _ o0 o1 (by omega) (by omega)⟩
  refine ⟨⟨by rw [hs _ (by omega) (by omega), e2]; exact hO.1, fun o o0 o1 => ?_⟩, fun o o0 o1 => ?_, fun i j i0 i1 j0 j1 hi hj hij => ?_, ?_, ?_⟩
  · rw [e2] at o1
    exact ROp_same (RO.p hO o0 o1) (eC o o0 o1) (EqS_of o0 (by omega) (fun k k0 k1 _ => hs k k0 (by omega))) Iff.rfl
  · rw [e2] at o1
    exact IOp_same (IO_p hI o0 o1) (eC o o0 o1) (by rw [h6 6 (by omega) (by omega)]; exact Int.le_refl _) Iff.rfl
  · rw [e2] at i1 j1
    rw [h8 i _ i0 i1 (by omega) (by omega)] at hi
    rw [h8 j _ j0 j1 (by omega) (by omega)] at hj
    rw [h8 i _ i0 i1 (by omega) (by omega), h8 j _ j0 j1 (by omega) (by omega)]
    exact hD i j i0 i1 j0 j1 hi hj hij
  · obtain ⟨⟨b1, b2, b3, b4, b5, b6⟩, bp, bf⟩ := hG
    refine ⟨⟨?_, ?_, ?_, ?_, ?_, ?_⟩, fun w w0 w8 => ?_, fun k k0 k8 => ?_⟩
    · rw [hs _ (by omega) (by omega), h6 3 (by omega) (by omega), b1]
    · rw [hs _ (by omega) (by omega), h6 4 (by omega) (by omega), b2]
    · rw [hs _ (by omega) (by omega), h9.2, b3]
    · rw [hs _ (by omega) (by omega), h6 5 (by omega) (by omega), b4]
    · rw [hs _ (by omega) (by omega), h6 6 (by omega) (by omega), b5]
    · rw [hs _ (by omega) (by omega), h9.1, b6]
    · rw [hs _ (by omega) (by omega), hs _ (by omega) (by omega), (h11 w w0 w8).1, (h11 w w0 w8).2]; exact bp w w0 w8
    · rw [hs _ (by omega) (by omega), h10 k k0 k8]; exact bf k k0 k8
  · unfold IG
    rw [h9.2, h9.1, h6 4 (by omega) (by omega), h6 3 (by omega) (by omega), h6 6 (by omega) (by omega), h80 120]
    obtain ⟨g1, g2, g3, g4, g5, g6, g7⟩ := hg
    exact ⟨g1, g2, g3, g4, g5, fun i i0 i1 => by rw [h80]; exact g6 i i0 i1, g7⟩
/-- the image's book and row, seen as the live ones -/
def vwT (μ : aM) : aM := (fun t i j => if t = 26 then gI μ 27 i j else if t = 8 then (if j = 0 then gI μ 8 i 0 else if 0 ≤ i ∧ i < 60 then gI μ 8 (60 + i) j else 0) else if t = 6 ∨ t = 9 ∨ t = 10 ∨ t = 11 ∨ t = 12 then gI μ t (i + 1) j else gI μ t i j, μ.2)
theorem vw_26 (μ : aM) (i j : Int) : gI (vwT μ) 26 i j = gI μ 27 i j := rfl
theorem vw_80 (μ : aM) (i : Int) : gI (vwT μ) 8 i 0 = gI μ 8 i 0 := rfl
theorem vw_8 (μ : aM) (i j : Int) (hj : ¬ j = 0) (h0 : 0 ≤ i) (h1 : i < 60) : gI (vwT μ) 8 i j = gI μ 8 (60 + i) j := by
  show (if j = 0 then gI μ 8 i 0 else if 0 ≤ i ∧ i < 60 then gI μ 8 (60 + i) j else 0) = _
  rw [if_neg hj, if_pos ⟨h0, h1⟩]
theorem vw_6 (μ : aM) (j : Int) : gI (vwT μ) 6 0 j = gI μ 6 1 j := rfl
theorem vw_9 (μ : aM) (j : Int) : gI (vwT μ) 9 0 j = gI μ 9 1 j := rfl
theorem vw_10 (μ : aM) (j : Int) : gI (vwT μ) 10 0 j = gI μ 10 1 j := rfl
theorem vw_11 (μ : aM) (j : Int) : gI (vwT μ) 11 0 j = gI μ 11 1 j := rfl
theorem vw_12 (μ : aM) (j : Int) : gI (vwT μ) 12 0 j = gI μ 12 1 j := rfl
/-- a shelf, on both sides -/
def ShP (μ : aM) (s : Int) : Prop :=
  (gI μ 2 s 2 = -1 ∧ gI μ 2 s 3 = -1 ∧ gI μ 2 s 1 = 0 ∧ gI μ 29 0 s = -1) ∨
  ((0 ≤ gI μ 2 s 2 ∧ gI μ 2 s 2 ≤ 3) ∧ gI μ 2 s 3 = -1 ∧ (0 ≤ gI μ 2 s 1 ∧ gI μ 2 s 1 ≤ 160) ∧ gI μ 29 0 s = gI μ 2 s 2 ∧ gI μ 30 0 s = gI μ 2 s 1 ∧ ∀ j, 0 ≤ j → j < gI μ 2 s 1 → gL μ 31 0 (160 * s + j) = gL μ 3 s j) ∨
  (gI μ 2 s 2 = -1 ∧ gI μ 2 s 1 = 0 ∧ (0 ≤ gI μ 2 s 3 ∧ gI μ 2 s 3 < gI μ 6 0 2) ∧ gI μ 29 0 s = 4 ∧ gI μ 30 0 s = gI μ 2 s 3)
def Inv (μ : aM) (B : Int) : Prop := Sim μ μ (-1) B ∧ CO μ B ∧ (∀ s, 0 ≤ s → s < 8 → ShP μ s) ∧ (∀ r, 1 ≤ r → r ≤ 7 → gI μ 4 0 r = gI μ 28 0 r) ∧ gI μ 0 0 9 = gI μ 25 0 18 ∧ gI μ 0 0 8 = gI μ 25 0 3 ∧ (¬ gI μ 0 0 8 = 0 → Sim (vwT μ) (vwT μ) (-1) B)
theorem ShP_cg {μ μ' : aM} {s : Int} (h : ShP μ s) (h2 : ∀ j, gI μ' 2 s j = gI μ 2 s j) (h29 : gI μ' 29 0 s = gI μ 29 0 s) (h30 : gI μ' 30 0 s = gI μ 30 0 s) (hL : ∀ t i j, gL μ' t i j = gL μ t i j) (hc : gI μ 6 0 2 ≤ gI μ' 6 0 2) : ShP μ' s := by
  unfold ShP at h ⊢
  rw [h2, h2, h2, h29, h30]
  rcases h with h | h | h
  · exact Or.inl h
  · refine Or.inr (Or.inl ⟨h.1, h.2.1, h.2.2.1, h.2.2.2.1, h.2.2.2.2.1, fun j j0 j1 => ?_⟩)
    rw [hL, hL]
    exact h.2.2.2.2.2 j j0 j1
  · exact Or.inr (Or.inr ⟨h.1, h.2.1, ⟨h.2.2.1.1, by omega⟩, h.2.2.2.1, h.2.2.2.2⟩)
theorem CO_cg {μ μ' : aM} {B B' : Int} (h : CO μ B) (h6 : gI μ' 6 0 2 = gI μ 6 0 2) (h8 : ∀ i, 0 ≤ i → i ≤ 120 → gI μ' 8 i 2 = gI μ 8 i 2) (h9 : gI μ' 9 0 3 = gI μ 9 0 3) (hB : B ≤ B') : CO μ' B' := by
  obtain ⟨h1, h2, h3, h4⟩ := h
  exact ⟨by rw [h6]; exact h1, fun i hi hj => by rw [h8 i hi hj]; exact h2 i hi hj, by rw [h9]; exact h3, by rw [h9]; omega⟩
theorem gL_of2 {a b : aM} (h : b.2 = a.2) (t : Nat) (i j : Int) : gL b t i j = gL a t i j := by
  unfold gL
  rw [h]
/-- the image's view is the same -/
theorem Sim_vw {μ μ' : aM} {B B' : Int} (h : Sim (vwT μ) (vwT μ) (-1) B) (h27 : ∀ k, gI μ' 27 0 k = gI μ 27 0 k) (h8 : ∀ i j, 60 ≤ i → i < 120 → gI μ' 8 i j = gI μ 8 i j) (h80 : ∀ i, gI μ' 8 i 0 = gI μ 8 i 0) (hb : ∀ t j, (t = 6 ∨ t = 9 ∨ t = 10 ∨ t = 11 ∨ t = 12) → gI μ' t 1 j = gI μ t 1 j) (hB : B ≤ B') : Sim (vwT μ') (vwT μ') (-1) B' := by
  have hc := h.1.1.2
  refine Sim_mono (Sim_cg h (fun j _ _ => ?_) (fun i j i0 i1 j0 j1 => ?_) (fun i => ?_) ⟨?_, ?_⟩ (fun j _ _ => ?_) (fun j _ _ => ⟨?_, ?_⟩) (fun k _ _ => ?_)) hB
  · rw [vw_6, vw_6, hb _ _ (by decide)]
  · rw [vw_8 _ _ _ (by omega) i0 (by omega), vw_8 _ _ _ (by omega) i0 (by omega), h8 _ _ (by omega) (by omega)]
  · rw [vw_80, vw_80, h80]
  · rw [vw_9, vw_9, hb _ _ (by decide)]
  · rw [vw_9, vw_9, hb _ _ (by decide)]
  · rw [vw_10, vw_10, hb _ _ (by decide)]
  · rw [vw_11, vw_11, hb _ _ (by decide)]
  · rw [vw_12, vw_12, hb _ _ (by decide)]
  · rw [vw_26, vw_26, h27]
/-- a call that changes the book alone, on both sides -/
theorem Inv_step {μ μ1 μ2 : aM} {B B' : Int} (hI : Inv μ B) (hC : FrC 120 μ μ1) (hM : FrM μ1 μ2) (hS : Sim μ1 μ2 (-1) B') (hCO : CO μ1 B') (hcnt : gI μ 6 0 2 ≤ gI μ1 6 0 2) (hB : B ≤ B') : Inv μ2 B' := by
  obtain ⟨i1, i2, i3, i4, i5, i6, i7⟩ := hI
  have m : ∀ t i j, ¬ (t = 26 ∨ (t = 25 ∧ 9 ≤ j ∧ j ≤ 14)) → gI μ2 t i j = gI μ1 t i j := hM.2
  have c : ∀ t i j, ¬ chC 120 t i j → gI μ1 t i j = gI μ t i j := hC.2
  refine ⟨?_, ?_, fun s s0 s1 => ?_, fun r r0 r1 => ?_, ?_, ?_, fun z => ?_⟩
  · exact Sim_cg hS (fun j _ _ => m _ _ _ (by omega)) (fun i j _ _ _ _ => m _ _ _ (by omega)) (fun i => m _ _ _ (by omega)) ⟨m _ _ _ (by omega), m _ _ _ (by omega)⟩ (fun j _ _ => m _ _ _ (by omega)) (fun j _ _ => ⟨m _ _ _ (by omega), m _ _ _ (by omega)⟩) (fun k _ _ => rfl)
  · exact CO_cg hCO (m _ _ _ (by omega)) (fun i _ _ => m _ _ _ (by omega)) (m _ _ _ (by omega)) (Int.le_refl _)
  · exact ShP_cg (i3 s s0 s1) (fun j => by rw [m _ _ _ (by omega), c _ _ _ (by omega)]) (by rw [m _ _ _ (by omega), c _ _ _ (by omega)]) (by rw [m _ _ _ (by omega), c _ _ _ (by omega)]) (gL_of2 (hM.1.trans hC.1)) (by rw [m _ _ _ (by omega)]; exact hcnt)
  · rw [m _ _ _ (by omega), m _ _ _ (by omega), c _ _ _ (by omega), c _ _ _ (by omega)]; exact i4 r r0 r1
  · rw [m _ _ _ (by omega), m _ _ _ (by omega), c _ _ _ (by omega), c _ _ _ (by omega)]; exact i5
  · rw [m _ _ _ (by omega), m _ _ _ (by omega), c _ _ _ (by omega), c _ _ _ (by omega)]; exact i6
  · rw [m _ _ _ (by omega), c _ _ _ (by omega)] at z
    refine Sim_vw (i7 z) (fun k => ?_) (fun i j i0 i1 => ?_) (fun i => ?_) (fun t j ht => ?_) hB
    · rw [m _ _ _ (by omega), c _ _ _ (by omega)]
    · rw [m _ _ _ (by omega), c _ _ _ (by omega)]
    · rw [m _ _ _ (by omega), c _ _ _ (by omega)]
    · rw [m _ _ _ (by omega), c _ _ _ (by omega)]
theorem Inv_mono {μ : aM} {B B' : Int} (h : Inv μ B) (hB : B ≤ B') : Inv μ B' := by
  obtain ⟨i1, i2, i3, i4, i5, i6, i7⟩ := h
  exact ⟨Sim_mono i1 hB, i2.mono hB, i3, i4, i5, i6, fun z => Sim_mono (i7 z) hB⟩
/-- cells that nothing of the relation speaks of, or refusals on both sides -/
theorem Inv_cg {μ μ' : aM} {B : Int} (h : Inv μ B) (hL : μ'.2 = μ.2) (ht : ∀ t i j, ¬ (t = 4 ∨ t = 28 ∨ (13 ≤ t ∧ t ≤ 24) ∨ t = 33 ∨ (t = 25 ∧ ¬ j = 18 ∧ ¬ j = 3)) → gI μ' t i j = gI μ t i j) (h4 : ∀ r, 1 ≤ r → r ≤ 7 → gI μ' 4 0 r = gI μ' 28 0 r) : Inv μ' B := by
  obtain ⟨i1, i2, i3, i4, i5, i6, i7⟩ := h
  refine ⟨?_, ?_, fun s s0 s1 => ?_, h4, ?_, ?_, fun z => ?_⟩
  · exact Sim_cg i1 (fun j _ _ => ht _ _ _ (by omega)) (fun i j _ _ _ _ => ht _ _ _ (by omega)) (fun i => ht _ _ _ (by omega)) ⟨ht _ _ _ (by omega), ht _ _ _ (by omega)⟩ (fun j _ _ => ht _ _ _ (by omega)) (fun j _ _ => ⟨ht _ _ _ (by omega), ht _ _ _ (by omega)⟩) (fun k _ _ => ht _ _ _ (by omega))
  · exact CO_cg i2 (ht _ _ _ (by omega)) (fun i _ _ => ht _ _ _ (by omega)) (ht _ _ _ (by omega)) (Int.le_refl _)
  · exact ShP_cg (i3 s s0 s1) (fun j => ht _ _ _ (by omega)) (ht _ _ _ (by omega)) (ht _ _ _ (by omega)) (gL_of2 hL) (by rw [ht _ _ _ (by omega)]; exact Int.le_refl _)
  · rw [ht _ _ _ (by omega), ht _ _ _ (by omega)]; exact i5
  · rw [ht _ _ _ (by omega), ht _ _ _ (by omega)]; exact i6
  · rw [ht _ _ _ (by omega)] at z
    exact Sim_vw (i7 z) (fun k => ht _ _ _ (by omega)) (fun i j _ _ => ht _ _ _ (by omega)) (fun i => ht _ _ _ (by omega)) (fun t j hq => ht _ _ _ (by omega)) (Int.le_refl _)
/-- refused, on both sides -/
def rf4 (μ : aM) (r : Int) : aM := uI μ 4 0 r (wr (gI μ 4 0 r + 1))
def rf28 (μ : aM) (r : Int) : aM := uI μ 28 0 r (wr (gI μ 28 0 r + 1))
theorem g_rf4 (μ : aM) (r : Int) (t : Nat) (i j : Int) (h : ¬ t = 4) : gI (rf4 μ r) t i j = gI μ t i j := gI_nt _ _ _ _ _ _ _ _ h
theorem Inv_rf {μ : aM} {B r : Int} (h : Inv μ B) : Inv (rf28 (rf4 μ r) r) B := by
  refine Inv_cg h rfl (fun t i j z => ?_) (fun q q0 q1 => ?_)
  · unfold rf28 rf4
    rw [gI_nt _ _ _ _ _ _ _ _ (by omega), gI_nt _ _ _ _ _ _ _ _ (by omega)]
  · have i4 := h.2.2.2.1
    unfold rf28 rf4
    rw [gI_nt _ _ _ _ _ _ _ _ (by decide), gI_uI, gI_uI, gI_nt _ _ _ _ _ _ _ _ (by decide), gI_nt _ _ _ _ _ _ _ _ (by decide)]
    by_cases z : q = r
    · subst z
      rw [if_pos ⟨rfl, rfl, rfl⟩, if_pos ⟨rfl, rfl, rfl⟩, i4 _ q0 q1]
    · rw [if_neg (fun y => z y.2.2), if_neg (fun y => z y.2.2)]
      exact i4 _ q0 q1

/-- a pair of calls: the class's, then the reference's -/
def PR (B : Int) (μ : aM) (e f : aM → Option (Option AV × aM)) : Prop := ∃ a μ1 μ2, e μ = some (some (aI a), μ1) ∧ f μ1 = some (some (aI a), μ2) ∧ Inv μ2 (B + 2000000)
theorem PR_rf {B a r : Int} {μ : aM} {e f : aM → Option (Option AV × aM)} (h : Inv μ B) (he : e μ = some (some (aI a), rf4 μ r)) (hf : f (rf4 μ r) = some (some (aI a), rf28 (rf4 μ r) r)) : PR B μ e f := ⟨a, _, _, he, hf, Inv_mono (Inv_rf h) (by omega)⟩
theorem PR_id {B a : Int} {μ : aM} {e f : aM → Option (Option AV × aM)} (h : Inv μ B) (he : e μ = some (some (aI a), μ)) (hf : f μ = some (some (aI a), μ)) : PR B μ e f := ⟨a, _, _, he, hf, Inv_mono h (by omega)⟩
