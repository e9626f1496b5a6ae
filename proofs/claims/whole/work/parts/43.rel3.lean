/-! the first by rank -/
abbrev elL (τ : aM) (w l o : Int) : Prop := elK τ w o ∧ (l = 0 ∨ ¬ gI τ 8 o 1 = 3)
def ffF (τ : aM) (w l : Int) : Nat → Int → Int → Int
  | 0, _, f => f
  | n + 1, i, f => ffF τ w l n (i + 1) (if elL τ w l i ∧ (f = -1 ∨ AH τ w i f) then i else f)
theorem l_Md_firstOf {τ σ : aM} {c w l : Int} (h : RO τ σ c) (hI : IO τ c) : ∀ (n : Nat) (i f : Int) (a5 : AV), 0 ≤ i → i + n = gI τ 6 0 2 → (f = -1 ∨ ((0 ≤ f ∧ f < gI τ 6 0 2) ∧ elK τ w f)) → ev 147 5 [aR 25 0, aI w, aI l, aI f, aI i, a5] [] σ = some (some (aI (ffF τ w l n i f)), σ) := by
  intro n
  have hc := h.1.1
  have hc6 := h.1.2
  induction n with
  | zero =>
    intro i f a5 h0 h1 _
    have hle : gI τ 6 0 2 ≤ i := by omega
    rw [e_Md_firstOf_5]
    simp (disch := omega) only [e_Md_firstOf_0, e_Md_firstOf_1, e_Md_firstOf_2, e_Md_firstOf_3, e_Md_firstOf_7, e_Md_firstOf_8, e_Md_firstOf_11, e_Md_firstOf_14, e_Md_firstOf_15, e_Md_firstOf_18, e_Md_firstOf_19, e_Md_firstOf_21, e_Md_firstOf_22, e_Md_firstOf_25, e_Md_firstOf_28, e_Md_firstOf_29, e_Md_firstOf_32, e_Md_firstOf_33, e_Md_firstOf_35, e_Md_firstOf_38, e_Md_firstOf_41, e_Md_firstOf_42, e_Md_firstOf_45, e_Md_firstOf_46, e_Md_firstOf_48, e_Md_firstOf_50, e_Md_firstOf_53, e_Md_firstOf_54, e_Md_firstOf_55, e_Md_firstOf_58, e_Md_firstOf_59, e_Md_firstOf_61, e_Md_firstOf_62, e_Md_firstOf_65, e_Md_firstOf_68, e_Md_firstOf_70, e_Md_firstOf_73, e_Md_firstOf_74, e_Md_firstOf_75, e_Md_firstOf_78, e_Md_firstOf_81, e_Md_firstOf_82, hc, if_pos hle]
    rfl
  | succ n ih =>
    intro i f a5 h0 h1 hf
    have hle : ¬ gI τ 6 0 2 ≤ i := by omega
    obtain ⟨⟨r1, r2, r3, r4, r5⟩, _⟩ := h.2 i h0 (by omega)
    have hk : elK τ w i → ((gI τ 8 i 1 = 1 ∨ gI τ 8 i 1 = 2) ↔ ¬ gI τ 8 i 1 = 3) := fun q => by
      have := (hI i h0 (by omega)).2.2.2.2.2 q.1.1
      have := (hI i h0 (by omega)).1.1
      omega
    have hr := c_Md_isRanked i w h hI h0 (by omega)
    rw [e_Md_firstOf_5, ffF]
    have s1 : ev 147 18 [aR 25 0, aI w, aI l, aI f, aI i, a5] [] σ = ev 147 48 [aR 25 0, aI w, aI l, aI f, aI i, aI (if elL τ w l i then 1 else 0)] [] σ := by
      simp (disch := omega) only [e_Md_firstOf_18, e_Md_firstOf_19, e_Md_firstOf_21, e_Md_firstOf_22, e_Md_firstOf_25, e_Md_firstOf_28, e_Md_firstOf_29, e_Md_firstOf_32, e_Md_firstOf_33, e_Md_firstOf_35, e_Md_firstOf_38, e_Md_firstOf_41, e_Md_firstOf_42, e_Md_firstOf_45, e_Md_firstOf_46, hr, c_Md_isLimit, evK_i, b01, r1]
      clear ih hI h
      by_cases q1 : elK τ w i
      · have hk := hk q1
        by_cases q2 : l = 0
        · rw [if_pos (show elL τ w l i from ⟨q1, Or.inl q2⟩)]
          rw [if_neg (fun z => z q1), if_pos q2]
        · by_cases q3 : gI τ 8 i 1 = 3
          · rw [if_neg (show ¬ elL τ w l i from fun z => z.2.elim q2 (fun y => y q3))]
            rw [if_neg (fun z => z q1), if_neg q2, if_pos (fun z => (hk.mp z) q3)]
          · rw [if_pos (show elL τ w l i from ⟨q1, Or.inr q3⟩)]
            rw [if_neg (fun z => z q1), if_neg q2, if_neg (fun z => z (hk.mpr q3))]
      · rw [if_neg (show ¬ elL τ w l i from fun z => q1 z.1), if_pos q1]
    simp (disch := omega) only [e_Md_firstOf_7, e_Md_firstOf_8, e_Md_firstOf_11, e_Md_firstOf_14, e_Md_firstOf_15, hc, if_neg hle, s1]
    by_cases q1 : elL τ w l i
    · have ihi := fun a5 => ih (i + 1) i a5 (by omega) (by omega) (Or.inr ⟨by omega, q1.1⟩)
      rcases hf with hf | hf
      · rw [if_pos q1, if_pos ⟨q1, Or.inl hf⟩]
        simp (disch := omega) only [e_Md_firstOf_48, e_Md_firstOf_50, e_Md_firstOf_53, e_Md_firstOf_54, e_Md_firstOf_55, e_Md_firstOf_58, e_Md_firstOf_59, e_Md_firstOf_61, e_Md_firstOf_62, e_Md_firstOf_65, e_Md_firstOf_68, e_Md_firstOf_70, e_Md_firstOf_73, e_Md_firstOf_74, e_Md_firstOf_75, e_Md_firstOf_78, if_pos hf, one_ne, if_false, wr_id, ihi]
      · have ha := c_Md_isAheadOf i f w h hI ⟨h0, by omega⟩ hf.1 q1.1.1 hf.2.1
        have hf2 : ¬ f = -1 := by omega
        by_cases q2 : AH τ w i f
        · rw [if_pos q1, if_pos ⟨q1, Or.inr q2⟩]
          rw [if_pos q2] at ha
          simp (disch := omega) only [e_Md_firstOf_48, e_Md_firstOf_50, e_Md_firstOf_53, e_Md_firstOf_54, e_Md_firstOf_55, e_Md_firstOf_58, e_Md_firstOf_59, e_Md_firstOf_61, e_Md_firstOf_62, e_Md_firstOf_65, e_Md_firstOf_68, e_Md_firstOf_70, e_Md_firstOf_73, e_Md_firstOf_74, e_Md_firstOf_75, e_Md_firstOf_78, if_neg hf2, one_ne, if_false, wr_id, ihi, ha, evK_i]
        · have ihf := fun a5 => ih (i + 1) f a5 (by omega) (by omega) (Or.inr hf)
          rw [if_pos q1, if_neg (fun z => z.2.elim hf2 q2)]
          rw [if_neg q2] at ha
          simp (disch := omega) only [e_Md_firstOf_48, e_Md_firstOf_50, e_Md_firstOf_53, e_Md_firstOf_54, e_Md_firstOf_55, e_Md_firstOf_58, e_Md_firstOf_59, e_Md_firstOf_61, e_Md_firstOf_62, e_Md_firstOf_65, e_Md_firstOf_68, e_Md_firstOf_70, e_Md_firstOf_73, e_Md_firstOf_74, e_Md_firstOf_75, e_Md_firstOf_78, if_neg hf2, one_ne, if_false, if_true, wr_id, ihf, ha, evK_i]
    · have ihf := fun a5 => ih (i + 1) f a5 (by omega) (by omega) hf
      rw [if_neg q1, if_neg (fun z => q1 z.1)]
      simp (disch := omega) only [e_Md_firstOf_48, e_Md_firstOf_50, e_Md_firstOf_53, e_Md_firstOf_54, e_Md_firstOf_55, e_Md_firstOf_58, e_Md_firstOf_59, e_Md_firstOf_61, e_Md_firstOf_62, e_Md_firstOf_65, e_Md_firstOf_68, e_Md_firstOf_70, e_Md_firstOf_73, e_Md_firstOf_74, e_Md_firstOf_75, e_Md_firstOf_78, if_true, wr_id, ihf]
/-- f is the first of those below k -/
def Fst (τ : aM) (w l k f : Int) : Prop := (f = -1 ∧ ∀ j, 0 ≤ j → j < k → ¬ elL τ w l j) ∨ ((0 ≤ f ∧ f < k) ∧ elL τ w l f ∧ ∀ j, 0 ≤ j → j < k → elL τ w l j → ¬ j = f → AH τ w f j)
theorem Fst_step {τ : aM} {w l k f : Int} (hD : DT τ) (hk : 0 ≤ k ∧ k < gI τ 6 0 2) (h : Fst τ w l k f) : Fst τ w l (k + 1) (if elL τ w l k ∧ (f = -1 ∨ AH τ w k f) then k else f) := by
  rcases h with ⟨h1, h2⟩ | ⟨h1, h2, h3⟩
  · by_cases q : elL τ w l k
    · rw [if_pos ⟨q, Or.inl h1⟩]
      refine Or.inr ⟨by omega, q, fun j j0 j1 ej jn => absurd ej (h2 j j0 (by omega))⟩
    · rw [if_neg (fun z => q z.1)]
      refine Or.inl ⟨h1, fun j j0 j1 => ?_⟩
      by_cases jk : j = k
      · rw [jk]; exact q
      · exact h2 j j0 (by omega)
  · by_cases q : elL τ w l k
    · by_cases q2 : AH τ w k f
      · rw [if_pos ⟨q, Or.inr q2⟩]
        refine Or.inr ⟨by omega, q, fun j j0 j1 ej jn => ?_⟩
        by_cases jf : j = f
        · rw [jf]; exact q2
        · exact AH_trans q.1.1.2 h2.1.1.2 q2 (h3 j j0 (by omega) ej jf)
      · rw [if_neg (fun z => z.2.elim (fun y => by omega) q2)]
        refine Or.inr ⟨by omega, h2, fun j j0 j1 ej jn => ?_⟩
        by_cases jk : j = k
        · rw [jk]; exact AH_tot hD (by omega) (by omega) q.1 h2.1 q2 (by omega)
        · exact h3 j j0 (by omega) ej jn
    · rw [if_neg (fun z => q z.1)]
      refine Or.inr ⟨by omega, h2, fun j j0 j1 ej jn => ?_⟩
      by_cases jk : j = k
      · rw [jk] at ej; exact absurd ej q
      · exact h3 j j0 (by omega) ej jn
theorem ffF_Fst {τ : aM} {w l : Int} (hD : DT τ) : ∀ (n : Nat) (i f : Int), 0 ≤ i → i + n = gI τ 6 0 2 → Fst τ w l i f → Fst τ w l (gI τ 6 0 2) (ffF τ w l n i f) := by
  intro n
  induction n with
  | zero => intro i f h0 h1 h; rw [ffF, ← show i = gI τ 6 0 2 by omega]; exact h
  | succ n ih =>
    intro i f h0 h1 h
    rw [ffF]
    exact ih (i + 1) _ (by omega) (by omega) (Fst_step hD ⟨h0, by omega⟩ h)
theorem Fst_uni {τ : aM} {w l k f g : Int} (h1 : Fst τ w l k f) (h2 : Fst τ w l k g) : f = g := by
  rcases h1 with ⟨a1, a2⟩ | ⟨a1, a2, a3⟩
  · rcases h2 with ⟨b1, b2⟩ | ⟨b1, b2, b3⟩
    · omega
    · exact absurd b2 (a2 g b1.1 b1.2)
  · rcases h2 with ⟨b1, b2⟩ | ⟨b1, b2, b3⟩
    · exact absurd a2 (b2 f a1.1 a1.2)
    · by_cases q : f = g
      · exact q
      · exact absurd (AH_trans a2.1.1.2 b2.1.1.2 (a3 g b1.1 b1.2 b2 (fun z => q z.symm)) (b3 f a1.1 a1.2 a2 q)) AH_irr
/-- none: -1 -/
def oI (f : Option Int) : Int := match f with | none => -1 | some j => j
theorem pfB_l {τ : aM} {w i : Int} (h : ¬ gI τ 8 i 1 = 3) : pfB τ w i = gI τ 8 i 7 := by
  unfold pfB prB
  rw [if_pos h]
theorem elF_K {τ : aM} {c w i : Int} (hI : IO τ c) (h0 : 0 ≤ i) (h1 : i < gI τ 6 0 2) : elL τ w 1 i ↔ elF τ w i := by
  unfold elL elK elF
  refine ⟨fun z => ⟨z.1.1.1, z.1.1.2, z.2.elim (fun y => by omega) id⟩, fun z => ⟨⟨⟨z.1, z.2.1⟩, ?_⟩, Or.inr z.2.2⟩⟩
  rw [pfB_l z.2.2]
  have := (hI i h0 h1).2.2.1 z.2.2
  omega
theorem fstF_Fst {τ : aM} {c w : Int} (hI : IO τ c) (hD : DT τ) : ∀ (n : Nat) (i : Int) (f : Option Int), 0 ≤ i → i + n = gI τ 6 0 2 → Fst τ w 1 i (oI f) → (∀ j, f = some j → 0 ≤ j) → Fst τ w 1 (gI τ 6 0 2) (oI (fstF τ w n i f)) := by
  intro n
  induction n with
  | zero => intro i f h0 h1 h _; rw [fstF, ← show i = gI τ 6 0 2 by omega]; exact h
  | succ n ih =>
    intro i f h0 h1 h hj
    have hs := Fst_step hD ⟨h0, by omega⟩ h
    cases f with
    | none =>
      rw [fstF]
      by_cases q : elF τ w i
      · rw [if_pos q]
        rw [if_pos ⟨(elF_K hI h0 (by omega)).mpr q, Or.inl rfl⟩] at hs
        exact ih (i + 1) (some i) (by omega) (by omega) hs (fun j e => by injection e with e; omega)
      · rw [if_neg q]
        rw [if_neg (fun z => q ((elF_K hI h0 (by omega)).mp z.1))] at hs
        exact ih (i + 1) none (by omega) (by omega) hs (fun j e => by cases e)
    | some j =>
      rw [fstF]
      have hj0 := hj j rfl
      have hjj : ¬ gI τ 8 j 1 = 3 := by
        rcases h with ⟨a1, a2⟩ | ⟨a1, a2, a3⟩
        · have : j = -1 := a1
          omega
        · exact a2.2.elim (fun y => by omega) id
      by_cases q : elF τ w i
      · have e1 : AH τ w i j = ahd τ i j (gI τ 8 i 7) (gI τ 8 j 7) := by
          unfold AH
          rw [pfB_l hjj, pfB_l q.2.2]
        by_cases q2 : ahd τ i j (gI τ 8 i 7) (gI τ 8 j 7)
        · rw [if_pos ⟨q, q2⟩]
          rw [if_pos ⟨(elF_K hI h0 (by omega)).mpr q, Or.inr (show AH τ w i j from e1 ▸ q2)⟩] at hs
          exact ih (i + 1) (some i) (by omega) (by omega) hs (fun j e => by injection e with e; omega)
        · rw [if_neg (fun z => q2 z.2)]
          rw [if_neg (fun z => z.2.elim (fun y => by have : j = -1 := y; omega) (fun y => q2 (e1 ▸ (show AH τ w i j from y))))] at hs
          exact ih (i + 1) (some j) (by omega) (by omega) hs hj
      · rw [if_neg (fun z => q z.1)]
        rw [if_neg (fun z => q ((elF_K hI h0 (by omega)).mp z.1))] at hs
        exact ih (i + 1) (some j) (by omega) (by omega) hs hj
theorem frs_Fst1 {τ : aM} {c w : Int} (hI : IO τ c) (hD : DT τ) (h0 : 0 ≤ gI τ 6 0 2) : Fst τ w 1 (gI τ 6 0 2) (oI (frs τ w)) :=
  fstF_Fst hI hD _ _ _ (by omega) (by omega) (Or.inl ⟨rfl, fun j _ _ => by omega⟩) (fun j e => by cases e)
/-- a pegged one is behind a limit one -/
theorem frs_Fst0 {τ : aM} {c w : Int} (hI : IO τ c) (hD : DT τ) (h0 : 0 ≤ gI τ 6 0 2) : Fst τ w 0 (gI τ 6 0 2) (oI (frs τ w)) := by
  have h1 := frs_Fst1 (w := w) hI hD h0
  cases hf : frs τ w with
  | none =>
    rw [hf] at h1
    rcases h1 with ⟨a1, a2⟩ | ⟨a1, a2, a3⟩
    · refine Or.inl ⟨rfl, fun j j0 j1 ej => ?_⟩
      by_cases q : gI τ 8 j 1 = 3
      · have hb : bsP τ w = 0 := by unfold bsP; rw [hf]
        have := ej.1.2
        unfold pfB prB at this
        rw [if_neg (fun z => z q), if_pos (Or.inr hb)] at this
        exact this rfl
      · exact a2 j j0 j1 ⟨ej.1, Or.inr q⟩
    · have a1 : 0 ≤ (-1 : Int) ∧ _ := a1
      omega
  | some f =>
    rw [hf] at h1
    have hfi := frs_in h0 hf
    rcases h1 with ⟨a1, a2⟩ | ⟨a1, a2, a3⟩
    · have : f = -1 := a1
      omega
    · refine Or.inr ⟨a1, ⟨a2.1, Or.inl rfl⟩, fun j j0 j1 ej jn => ?_⟩
      by_cases q : gI τ 8 j 1 = 3
      · show AH τ w f j
        have hb : bsP τ w = gI τ 8 f 7 := by unfold bsP; rw [hf]
        have hd := (hI j j0 j1).2.1
        have hp := ej.1.2
        have hs := ej.1.1.2
        unfold AH ahd
        rw [pfB_l hfi.2.2.2.2, hfi.2.2.2.1]
        unfold pfB prB at hp ⊢
        rw [if_neg (fun z => z q)] at hp ⊢
        rw [hs, hb] at hp ⊢
        have hkf := hfi.2.2.2.2
        clear hI hD a2 a3 ej
        by_cases z1 : ¬ gI τ 8 j 5 = 1 ∨ gI τ 8 f 7 = 0
        · rw [if_pos z1] at hp; exact absurd rfl hp
        · rw [if_neg z1] at hp ⊢
          by_cases z2 : w = 0
          · rw [if_pos z2] at hp ⊢
            by_cases z3 : 1 ≤ gI τ 8 f 7 - gI τ 8 j 8 ∧ gI τ 8 f 7 - gI τ 8 j 8 < 1000
            · rw [if_pos z3] at hp ⊢
              omega
            · rw [if_neg z3] at hp; exact absurd rfl hp
          · rw [if_neg z2] at hp ⊢
            by_cases z3 : 1 ≤ gI τ 8 f 7 + gI τ 8 j 8 ∧ gI τ 8 f 7 + gI τ 8 j 8 < 1000
            · rw [if_pos z3] at hp ⊢
              omega
            · rw [if_neg z3] at hp; exact absurd rfl hp
      · exact a3 j j0 j1 ⟨ej.1, Or.inr q⟩ jn
theorem c_Md_firstOf {τ σ : aM} {c : Int} (w l : Int) (h : RO τ σ c) (hI : IO τ c) (hD : DT τ) (hl : l = 0 ∨ l = 1) : ev 147 0 [aR 25 0, aI w, aI l, aU, aU, aU] [] σ = some (some (aI (oI (frs τ w))), σ) := by
  have h0 := h.1.2.1
  have h1 := l_Md_firstOf (w := w) (l := l) h hI (gI τ 6 0 2).toNat 0 (-1) aU (by omega) (by omega) (Or.inl rfl)
  have h2 : Fst τ w l (gI τ 6 0 2) (ffF τ w l (gI τ 6 0 2).toNat 0 (-1)) := ffF_Fst hD _ _ _ (by omega) (by omega) (Or.inl ⟨rfl, fun j _ _ => by omega⟩)
  have h3 : Fst τ w l (gI τ 6 0 2) (oI (frs τ w)) := by
    rcases hl with q | q
    · rw [q]; exact frs_Fst0 hI hD h0
    · rw [q]; exact frs_Fst1 hI hD h0
  rw [Fst_uni h2 h3] at h1
  simp (disch := omega) only [e_Md_firstOf_0, e_Md_firstOf_1, e_Md_firstOf_2, e_Md_firstOf_3, h1]
