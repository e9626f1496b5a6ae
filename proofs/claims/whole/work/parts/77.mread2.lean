/-! the reference's reader: items -/
theorem b149 (σ : aM) (a b c d e : Int) : ev 174 149 [aR 25 0, aI 0, aI a, aI b, aI c, aI d, aI e] [] σ = some (none, σ) := by
  simp (disch := omega) only [e_Md_item_149, e_Md_item_150, e_Md_item_180, if_true]
theorem b101 (σ : aM) (a b c d e : Int) (h : gI σ 25 0 17 = 1) : ev 174 101 [aR 25 0, aI 0, aI a, aI b, aI c, aI d, aI e] [] σ = some (none, σ) := by
  simp (disch := omega) only [e_Md_item_101, e_Md_item_102, e_Md_item_105, h, one_ne, not_false_eq_true, if_true, b149]
theorem b92 (σ : aM) (a b c : Int) (a5 a6 : AV) (h : gI σ 25 0 17 = 1) : ev 174 92 [aR 25 0, aI 0, aI a, aI b, aI c, a5, a6] [] σ = some (none, σ) := by
  obtain ⟨x, h1⟩ := c_Md_number_bad σ h
  simp (disch := omega) only [e_Md_item_92, e_Md_item_93, e_Md_item_96, e_Md_item_98, e_Md_item_99, h1, evK_i, b101 _ _ _ _ _ _ h]
theorem b83 (σ : aM) (a b c : Int) (a5 a6 : AV) (h : gI σ 25 0 17 = 1) : ev 174 83 [aR 25 0, aI 0, aI a, aI b, aI c, a5, a6] [] σ = some (none, σ) := by
  simp (disch := omega) only [e_Md_item_83, e_Md_item_84, e_Md_item_86, e_Md_item_88, e_Md_item_91, c_Md_one_bad σ 64 64 h, evK_i, b92 _ _ _ _ _ _ h]
theorem b77 (σ : aM) (a b : Int) (a4 a5 a6 : AV) (h : gI σ 25 0 17 = 1) : ev 174 77 [aR 25 0, aI 0, aI a, aI b, a4, a5, a6] [] σ = some (none, σ) := by
  obtain ⟨x, h1⟩ := c_Md_number_bad σ h
  simp (disch := omega) only [e_Md_item_77, e_Md_item_78, e_Md_item_81, h1, evK_i, b83 _ _ _ _ _ _ h]
theorem b12 (σ : aM) (a : Int) (a3 a4 a5 a6 : AV) (h : gI σ 25 0 17 = 1) : ev 174 12 [aR 25 0, aI 0, aI a, a3, a4, a5, a6] [] σ = some (none, σ) := by
  simp (disch := omega) only [e_Md_item_12, e_Md_item_13, e_Md_item_16, e_Md_item_48, e_Md_item_49, e_Md_item_50, e_Md_item_51, e_Md_item_52, e_Md_item_68, e_Md_item_69, e_Md_item_71, e_Md_item_73, e_Md_item_76, h, one_ne, not_false_eq_true, if_true, show ¬ (0 : Int) = 1 by decide, c_Md_one_bad σ 43 43 h, evK_i, b77 _ _ _ _ _ _ h]
/-- what an item comes to -/
def IM (σ : aM) (d : Int) (r : (Int × aIt) ⊕ Int) (e : Option (Option AV × aM)) : Prop := match r with
  | .inl (p, it) => e = ev 174 149 [aR 25 0, aI d, aI it.1, aI it.2.1, aI it.2.2.1, aI it.2.2.2.1, aI it.2.2.2.2] [] (spA σ p)
  | .inr k => d = 0 → ∃ τ, e = some (none, τ) ∧ FrQ σ τ ∧ gI τ 25 0 17 = 1 ∧ gI τ 25 0 18 = k
theorem IM_w {σ : aM} {d k p : Int} {e : Option (Option AV × aM)} (h : d = 0 → e = some (none, spW σ p k)) : IM σ d (.inr k) e := fun hd => ⟨_, h hd, spW_X σ p k, gI_self _ _ _ _ _, by simp (disch := omega) only [gI_self, gI_nt, gI_nj, gL_uI, gR_uI, gI_uL, gR_uL, gI_uR, gL_uR]⟩
theorem spW_1 (σ : aM) (p k : Int) : gI (spW σ p k) 25 0 17 = 1 := gI_self _ _ _ _ _
section MRD
variable {σ : aM} {g : Int → Int} {N : Int}
theorem gm_101 (h : TX σ g N) (hw : gI σ 25 0 17 = 0) (d a b c dd p : Int) (hp : 0 ≤ p ∧ p ≤ 880) : IM σ d (r67 g a b c dd p) (ev 174 101 [aR 25 0, aI d, aI a, aI b, aI c, aI dd, aI 0] [] (spA σ p)) := by
  have e17 : gI (spA σ p) 25 0 17 = 0 := by rw [gI_nj _ _ _ _ _ _ _ _ (by decide)]; exact hw
  have e16 : gI (spA σ p) 25 0 16 = p := gI_self _ _ _ _ _
  have e15 : gI (spA σ p) 25 0 15 = gI σ 25 0 15 := gI_nj _ _ _ _ _ _ _ _ (by decide)
  have e30 : gI (spA σ p) 30 0 (gI σ 25 0 15) = N := by rw [gI_nt _ _ _ _ _ _ _ _ (by decide)]; exact h.2.1
  have h1 := h.1
  unfold r67
  by_cases c1 : N ≤ p
  · have hg := h.2.2.2.2 p c1
    rw [if_pos (show ¬ g p = 104 by omega)]
    show _ = _
    simp (disch := omega) only [e_Md_item_101, e_Md_item_102, e_Md_item_105, e_Md_item_108, e_Md_item_109, e_Md_item_112, e_Md_item_113, e_Md_item_116, e_Md_item_117, e_Md_item_120, e_Md_item_121, e17, not_true_eq_false, if_false, e15, e16, e30, if_pos c1]
  · have hh := c_Md_here h ⟨hp.1, by omega⟩
    by_cases c2 : g p = 104
    · rw [if_neg (show ¬ ¬ g p = 104 from fun z => z c2)]
      have hn := c_Md_number h hw (show 0 ≤ p + 1 ∧ p + 1 ≤ 900 by omega)
      have eu : uI (spA σ p) 25 0 16 (p + 1) = spA σ (p + 1) := uI_uI _ _ _ _ _ _
      have s0 : ev 174 101 [aR 25 0, aI d, aI a, aI b, aI c, aI dd, aI 0] [] (spA σ p) = ev 174 144 [aR 25 0, aI d, aI a, aI b, aI c, aI dd, aI 0] [aR 25 0] (spA σ (p + 1)) := by
        simp (disch := omega) only [e_Md_item_101, e_Md_item_102, e_Md_item_105, e_Md_item_108, e_Md_item_109, e_Md_item_112, e_Md_item_113, e_Md_item_116, e_Md_item_117, e_Md_item_120, e_Md_item_121, e_Md_item_124, e_Md_item_125, e_Md_item_128, e_Md_item_130, e_Md_item_133, e_Md_item_134, e_Md_item_135, e_Md_item_138, e_Md_item_139, e_Md_item_140, e_Md_item_143, e17, not_true_eq_false, if_false, e15, e16, e30, if_neg c1, hh, evK_i, c2, wr_id, eu]
      rw [s0]
      cases hr : pNm g (p + 1) with
      | inl q =>
        rw [hr] at hn
        have hn : _ = _ := hn
        show _ = _
        simp (disch := omega) only [e_Md_item_144, e_Md_item_147, hn, evK_i]
      | inr k =>
        rw [hr] at hn
        obtain ⟨x, τ, n1, n2, n3, n4⟩ := hn
        intro hd
        refine ⟨τ, ?_, n2, n3, n4⟩
        subst hd
        simp (disch := omega) only [e_Md_item_144, e_Md_item_147, n1, evK_i, b149]
    · rw [if_pos c2]
      show _ = _
      simp (disch := omega) only [e_Md_item_101, e_Md_item_102, e_Md_item_105, e_Md_item_108, e_Md_item_109, e_Md_item_112, e_Md_item_113, e_Md_item_116, e_Md_item_117, e_Md_item_120, e_Md_item_121, e_Md_item_124, e_Md_item_125, e_Md_item_128, e_Md_item_130, e17, not_true_eq_false, if_false, e15, e16, e30, if_neg c1, hh, evK_i, if_pos c2]
theorem gm_83 (h : TX σ g N) (hw : gI σ 25 0 17 = 0) (d a b c p : Int) (hp : 0 ≤ p ∧ p ≤ 870) (a5 a6 : AV) : IM σ d (r53 g a b c p) (ev 174 83 [aR 25 0, aI d, aI a, aI b, aI c, a5, a6] [] (spA σ p)) := by
  unfold r53
  by_cases c1 : g p = 64
  · rw [if_neg (show ¬ ¬ g p = 64 from fun z => z c1)]
    have h1 := (c_Md_one_ok (lo := 64) (hi := 64) h hw hp.1 (by omega) (by omega)).1
    have hn := c_Md_number h hw (show 0 ≤ p + 1 ∧ p + 1 ≤ 900 by omega)
    have s0 : ev 174 83 [aR 25 0, aI d, aI a, aI b, aI c, a5, a6] [] (spA σ p) = ev 174 93 [aR 25 0, aI d, aI a, aI b, aI c, a5, a6] [aR 25 0] (spA σ (p + 1)) := by
      simp (disch := omega) only [e_Md_item_83, e_Md_item_84, e_Md_item_86, e_Md_item_88, e_Md_item_91, e_Md_item_92, h1, evK_i]
    rw [s0]
    cases hr : pNm g (p + 1) with
    | inl q =>
      have hq := pNm_rg (p1 := q.1) (n := q.2) hr
      rw [hr] at hn
      have hn : _ = _ := hn
      have h2 := gm_101 h hw d a b c q.2 q.1 (by omega)
      have s1 : ev 174 93 [aR 25 0, aI d, aI a, aI b, aI c, a5, a6] [aR 25 0] (spA σ (p + 1)) = ev 174 101 [aR 25 0, aI d, aI a, aI b, aI c, aI q.2, aI 0] [] (spA σ q.1) := by
        simp (disch := omega) only [e_Md_item_93, e_Md_item_96, e_Md_item_98, e_Md_item_99, hn, evK_i]
      rw [s1]
      exact h2
    | inr k =>
      rw [hr] at hn
      obtain ⟨x, τ, n1, n2, n3, n4⟩ := hn
      intro hd
      refine ⟨τ, ?_, n2, n3, n4⟩
      subst hd
      simp (disch := omega) only [e_Md_item_93, e_Md_item_96, e_Md_item_98, e_Md_item_99, n1, evK_i, b101 _ _ _ _ _ _ n3]
  · rw [if_pos c1]
    have h1 := c_Md_one_no (lo := 64) (hi := 64) h hw (by omega) (by omega) (show ¬ (64 ≤ g p ∧ g p ≤ 64) by omega)
    refine IM_w (p := p) (fun hd => ?_)
    subst hd
    simp (disch := omega) only [e_Md_item_83, e_Md_item_84, e_Md_item_86, e_Md_item_88, e_Md_item_91, h1, evK_i, b92 _ _ _ _ _ _ (spW_1 σ p p)]
theorem gm_77 (h : TX σ g N) (hw : gI σ 25 0 17 = 0) (d a b p : Int) (hp : 0 ≤ p ∧ p ≤ 860) (a4 a5 a6 : AV) : IM σ d (r46 g a b p) (ev 174 77 [aR 25 0, aI d, aI a, aI b, a4, a5, a6] [] (spA σ p)) := by
  unfold r46
  have hn := c_Md_number h hw (show 0 ≤ p ∧ p ≤ 900 by omega)
  cases hr : pNm g p with
  | inl q =>
    have hq := pNm_rg (p1 := q.1) (n := q.2) hr
    rw [hr] at hn
    have hn : _ = _ := hn
    have h2 := gm_83 h hw d a b q.2 q.1 (by omega) a5 a6
    have s1 : ev 174 77 [aR 25 0, aI d, aI a, aI b, a4, a5, a6] [] (spA σ p) = ev 174 83 [aR 25 0, aI d, aI a, aI b, aI q.2, a5, a6] [] (spA σ q.1) := by
      simp (disch := omega) only [e_Md_item_77, e_Md_item_78, e_Md_item_81, hn, evK_i]
    rw [s1]
    exact h2
  | inr k =>
    rw [hr] at hn
    obtain ⟨x, τ, n1, n2, n3, n4⟩ := hn
    intro hd
    refine ⟨τ, ?_, n2, n3, n4⟩
    subst hd
    simp (disch := omega) only [e_Md_item_77, e_Md_item_78, e_Md_item_81, n1, evK_i, b83 _ _ _ _ _ _ n3]
theorem gm_12 (h : TX σ g N) (hw : gI σ 25 0 17 = 0) (d a p : Int) (hp : 0 ≤ p ∧ p ≤ 850) (a3 a4 a5 a6 : AV) : IM σ d (if ¬ g p = 45 ∧ ¬ g p = 43 then .inr p else r46 g a (if g p = 45 then 1 else 0) (p + 1)) (ev 174 12 [aR 25 0, aI d, aI a, a3, a4, a5, a6] [] (spA σ p)) := by
  have e17 : gI (spA σ p) 25 0 17 = 0 := by rw [gI_nj _ _ _ _ _ _ _ _ (by decide)]; exact hw
  have e16 : gI (spA σ p) 25 0 16 = p := gI_self _ _ _ _ _
  have e15 : gI (spA σ p) 25 0 15 = gI σ 25 0 15 := gI_nj _ _ _ _ _ _ _ _ (by decide)
  have e30 : gI (spA σ p) 30 0 (gI σ 25 0 15) = N := by rw [gI_nt _ _ _ _ _ _ _ _ (by decide)]; exact h.2.1
  have h1 := h.1
  by_cases c2 : g p = 45
  · rw [if_neg (show ¬ (¬ g p = 45 ∧ ¬ g p = 43) from fun z => z.1 c2), if_pos c2]
    have hpN : p < N := Int.not_le.mp (fun z => by have := h.2.2.2.2 p z; omega)
    have hh := c_Md_here h ⟨hp.1, hpN⟩
    have eu : uI (spA σ p) 25 0 16 (p + 1) = spA σ (p + 1) := uI_uI _ _ _ _ _ _
    have s0 : ev 174 12 [aR 25 0, aI d, aI a, a3, a4, a5, a6] [] (spA σ p) = ev 174 77 [aR 25 0, aI d, aI a, aI 1, a4, a5, a6] [] (spA σ (p + 1)) := by
      simp (disch := omega) only [e_Md_item_12, e_Md_item_13, e_Md_item_16, e_Md_item_19, e_Md_item_20, e_Md_item_23, e_Md_item_24, e_Md_item_27, e_Md_item_28, e_Md_item_31, e_Md_item_32, e_Md_item_35, e_Md_item_36, e_Md_item_39, e_Md_item_41, e_Md_item_44, e_Md_item_45, e_Md_item_48, e_Md_item_49, e_Md_item_50, e_Md_item_51, e_Md_item_52, e_Md_item_55, e_Md_item_56, e_Md_item_57, e_Md_item_60, e_Md_item_61, e_Md_item_62, e_Md_item_65, e17, not_true_eq_false, if_false, e15, e16, e30, if_neg (show ¬ N ≤ p by omega), hh, evK_i, c2, wr_id, eu]
    rw [s0]
    exact gm_77 h hw d a 1 (p + 1) (by omega) a4 a5 a6
  · have s0 : ev 174 12 [aR 25 0, aI d, aI a, a3, a4, a5, a6] [] (spA σ p) = ev 174 73 [aR 25 0, aI d, aI a, aI 0, a4, a5, a6] [aI 43, aI 43, aR 25 0] (spA σ p) := by
      by_cases c1 : N ≤ p
      · simp (disch := omega) only [e_Md_item_12, e_Md_item_13, e_Md_item_16, e_Md_item_19, e_Md_item_20, e_Md_item_23, e_Md_item_24, e_Md_item_27, e_Md_item_28, e_Md_item_31, e_Md_item_32, e_Md_item_35, e_Md_item_36, e_Md_item_39, e_Md_item_41, e_Md_item_44, e_Md_item_45, e_Md_item_48, e_Md_item_49, e_Md_item_50, e_Md_item_51, e_Md_item_52, e_Md_item_55, e_Md_item_56, e_Md_item_57, e_Md_item_60, e_Md_item_61, e_Md_item_62, e_Md_item_65, e_Md_item_68, e_Md_item_69, e_Md_item_71, e17, not_true_eq_false, if_false, e15, e16, e30, if_pos c1, show ¬ (0 : Int) = 1 by decide, not_false_eq_true, if_true]
      · have hh := c_Md_here h ⟨hp.1, by omega⟩
        simp (disch := omega) only [e_Md_item_12, e_Md_item_13, e_Md_item_16, e_Md_item_19, e_Md_item_20, e_Md_item_23, e_Md_item_24, e_Md_item_27, e_Md_item_28, e_Md_item_31, e_Md_item_32, e_Md_item_35, e_Md_item_36, e_Md_item_39, e_Md_item_41, e_Md_item_44, e_Md_item_45, e_Md_item_48, e_Md_item_49, e_Md_item_50, e_Md_item_51, e_Md_item_52, e_Md_item_55, e_Md_item_56, e_Md_item_57, e_Md_item_60, e_Md_item_61, e_Md_item_62, e_Md_item_65, e_Md_item_68, e_Md_item_69, e_Md_item_71, e17, not_true_eq_false, if_false, e15, e16, e30, if_neg c1, hh, evK_i, if_pos c2, show ¬ (0 : Int) = 1 by decide, not_false_eq_true, if_true]
    rw [s0]
    by_cases c3 : g p = 43
    · rw [if_neg (show ¬ (¬ g p = 45 ∧ ¬ g p = 43) from fun z => z.2 c3), if_neg c2]
      have h2 := (c_Md_one_ok (lo := 43) (hi := 43) h hw hp.1 (by omega) (by omega)).1
      have s1 : ev 174 73 [aR 25 0, aI d, aI a, aI 0, a4, a5, a6] [aI 43, aI 43, aR 25 0] (spA σ p) = ev 174 77 [aR 25 0, aI d, aI a, aI 0, a4, a5, a6] [] (spA σ (p + 1)) := by
        simp (disch := omega) only [e_Md_item_73, e_Md_item_76, h2, evK_i]
      rw [s1]
      exact gm_77 h hw d a 0 (p + 1) (by omega) a4 a5 a6
    · rw [if_pos ⟨c2, c3⟩]
      have h2 := c_Md_one_no (lo := 43) (hi := 43) h hw (by omega) (by omega) (show ¬ (43 ≤ g p ∧ g p ≤ 43) by omega)
      refine IM_w (p := p) (fun hd => ?_)
      subst hd
      simp (disch := omega) only [e_Md_item_73, e_Md_item_76, h2, evK_i, b77 _ _ _ _ _ _ (spW_1 σ p p)]
theorem gm_0 (h : TX σ g N) (hw : gI σ 25 0 17 = 0) (d p : Int) (hp : 0 ≤ p ∧ p ≤ 840) : IM σ d (pIt g p) (ev 174 0 [aR 25 0, aI d, aU, aU, aU, aU, aU] [] (spA σ p)) := by
  rw [pIt_eq]
  by_cases c1 : g p < 97 ∨ 104 < g p
  · rw [if_pos c1]
    have h2 := c_Md_one_no (lo := 97) (hi := 104) h hw (by omega) (by omega) (show ¬ (97 ≤ g p ∧ g p ≤ 104) by omega)
    refine IM_w (p := p) (fun hd => ?_)
    subst hd
    simp (disch := omega) only [e_Md_item_0, e_Md_item_1, e_Md_item_3, e_Md_item_5, e_Md_item_8, e_Md_item_10, e_Md_item_11, h2, evK_i, wr_id, b12 _ _ _ _ _ _ (spW_1 σ p p)]
  · rw [if_neg c1]
    have h2 := (c_Md_one_ok (lo := 97) (hi := 104) h hw hp.1 (by omega) (by omega)).1
    have s0 : ev 174 0 [aR 25 0, aI d, aU, aU, aU, aU, aU] [] (spA σ p) = ev 174 12 [aR 25 0, aI d, aI (g p - 97), aU, aU, aU, aU] [] (spA σ (p + 1)) := by
      simp (disch := omega) only [e_Md_item_0, e_Md_item_1, e_Md_item_3, e_Md_item_5, e_Md_item_8, e_Md_item_10, e_Md_item_11, h2, evK_i, wr_id]
    rw [s0, show p + 2 = p + 1 + 1 by omega]
    exact gm_12 h hw d (g p - 97) (p + 1) (by omega) aU aU aU aU
end MRD
/-- what stands behind an item -/
def tT (g : Int → Int) (N : Int) (n : Nat) (p : Int) : List aIt ⊕ Int := if N ≤ p then .inl [] else if ¬ g p = 59 then .inr p else pTx g N n (p + 1)
theorem pTx_eq (g : Int → Int) (N : Int) (n : Nat) (p : Int) : pTx g N (n + 1) p = match pIt g p with
    | .inr k => .inr k
    | .inl (p1, it) => (match tT g N n p1 with
      | .inr k => .inr k
      | .inl l => .inl (it :: l)) := by
  rw [pTx]
  cases pIt g p with
  | inr k => rfl
  | inl a =>
    obtain ⟨p1, it⟩ := a
    dsimp only
    unfold tT
    by_cases c : N ≤ p1
    · rw [if_pos c, if_pos c]
    · rw [if_neg c, if_neg c]
      by_cases c2 : ¬ g p1 = 59
      · rw [if_pos c2, if_pos c2]
      · rw [if_neg c2, if_neg c2]
        cases pTx g N n (p1 + 1) <;> rfl
/-- a digit ends an item inside the row -/
theorem pIt_N {σ : aM} {g : Int → Int} {N p p1 : Int} {it : aIt} (h : TX σ g N) (hi : pIt g p = .inl (p1, it)) : okI it ∧ (p + 5 ≤ p1 ∧ p1 ≤ p + 14) ∧ p1 ≤ N := by
  obtain ⟨a1, a2, a3⟩ := pIt_rg hi
  refine ⟨a1, a2, Int.not_lt.mp (fun z => ?_)⟩
  have := h.2.2.2.2 (p1 - 1) (by omega)
  have := a3.1
  omega
theorem l_gt0 {g : Int → Int} {N : Int} : ∀ (n : Nat) (p1 cnt : Int) (σ : aM), TX σ g N → gI σ 25 0 17 = 0 → 0 ≤ p1 → p1 ≤ N → 162 - 6 * n ≤ p1 + 1 → (1 ≤ cnt ∧ cnt + n ≤ 27) → (match tT g N n p1 with
    | .inl l => ∃ τ, ev 175 17 [aR 25 0, aI 0, aI cnt] [] (spA σ p1) = some (some (aI (cnt + l.length)), τ) ∧ FrQ σ τ ∧ gI τ 25 0 17 = 0 ∧ gI τ 25 0 18 = gI σ 25 0 18
    | .inr k => ∃ x τ, ev 175 17 [aR 25 0, aI 0, aI cnt] [] (spA σ p1) = some (some (aI x), τ) ∧ FrQ σ τ ∧ gI τ 25 0 17 = 1 ∧ gI τ 25 0 18 = k) := by
  intro n
  induction n with
  | zero =>
    intro p1 cnt σ h hw p0 pN hb hc
    have := h.2.2.1
    have c1 : N ≤ p1 := by omega
    have h1 := h.1
    have e17 : gI (spA σ p1) 25 0 17 = 0 := by rw [gI_nj _ _ _ _ _ _ _ _ (by decide)]; exact hw
    have e18 : gI (spA σ p1) 25 0 18 = gI σ 25 0 18 := gI_nj _ _ _ _ _ _ _ _ (by decide)
    have e16 : gI (spA σ p1) 25 0 16 = p1 := gI_self _ _ _ _ _
    have e15 : gI (spA σ p1) 25 0 15 = gI σ 25 0 15 := gI_nj _ _ _ _ _ _ _ _ (by decide)
    have e30 : gI (spA σ p1) 30 0 (gI σ 25 0 15) = N := by rw [gI_nt _ _ _ _ _ _ _ _ (by decide)]; exact h.2.1
    unfold tT
    rw [if_pos c1]
    refine ⟨spA σ p1, ?_, spA_X σ p1, e17, e18⟩
    rw [e_Md_goesThrough_17]
    simp (disch := omega) only [e_Md_goesThrough_18, e_Md_goesThrough_21, e_Md_goesThrough_24, e_Md_goesThrough_25, e_Md_goesThrough_28, e_Md_goesThrough_29, e_Md_goesThrough_32, e_Md_goesThrough_33, e_Md_goesThrough_36, e_Md_goesThrough_37, e_Md_goesThrough_67, e_Md_goesThrough_68, e17, not_true_eq_false, if_false, e15, e16, e30, if_pos c1, List.length_nil, Int.natCast_zero, Int.add_zero]
  | succ n ih =>
    intro p1 cnt σ h hw p0 pN hb hc
    have h1 := h.1
    have h160 := h.2.2.1
    have e17 : gI (spA σ p1) 25 0 17 = 0 := by rw [gI_nj _ _ _ _ _ _ _ _ (by decide)]; exact hw
    have e18 : gI (spA σ p1) 25 0 18 = gI σ 25 0 18 := gI_nj _ _ _ _ _ _ _ _ (by decide)
    have e16 : gI (spA σ p1) 25 0 16 = p1 := gI_self _ _ _ _ _
    have e15 : gI (spA σ p1) 25 0 15 = gI σ 25 0 15 := gI_nj _ _ _ _ _ _ _ _ (by decide)
    have e30 : gI (spA σ p1) 30 0 (gI σ 25 0 15) = N := by rw [gI_nt _ _ _ _ _ _ _ _ (by decide)]; exact h.2.1
    unfold tT
    by_cases c1 : N ≤ p1
    · rw [if_pos c1]
      refine ⟨spA σ p1, ?_, spA_X σ p1, e17, e18⟩
      rw [e_Md_goesThrough_17]
      simp (disch := omega) only [e_Md_goesThrough_18, e_Md_goesThrough_21, e_Md_goesThrough_24, e_Md_goesThrough_25, e_Md_goesThrough_28, e_Md_goesThrough_29, e_Md_goesThrough_32, e_Md_goesThrough_33, e_Md_goesThrough_36, e_Md_goesThrough_37, e_Md_goesThrough_67, e_Md_goesThrough_68, e17, not_true_eq_false, if_false, e15, e16, e30, if_pos c1, List.length_nil, Int.natCast_zero, Int.add_zero]
    · rw [if_neg c1]
      by_cases c2 : g p1 = 59
      · rw [if_neg (show ¬ ¬ g p1 = 59 from fun z => z c2)]
        have h2 := (c_Md_one_ok (lo := 59) (hi := 59) h hw p0 (by omega) (by omega)).1
        have e17' : gI (spA σ (p1 + 1)) 25 0 17 = 0 := by rw [gI_nj _ _ _ _ _ _ _ _ (by decide)]; exact hw
        have s0 : ev 175 17 [aR 25 0, aI 0, aI cnt] [] (spA σ p1) = ev 175 58 [aR 25 0, aI 0, aI cnt] [aI 0, aR 25 0] (spA σ (p1 + 1)) := by
          rw [e_Md_goesThrough_17]
          simp (disch := omega) only [e_Md_goesThrough_18, e_Md_goesThrough_21, e_Md_goesThrough_24, e_Md_goesThrough_25, e_Md_goesThrough_28, e_Md_goesThrough_29, e_Md_goesThrough_32, e_Md_goesThrough_33, e_Md_goesThrough_36, e_Md_goesThrough_37, e_Md_goesThrough_40, e_Md_goesThrough_41, e_Md_goesThrough_43, e_Md_goesThrough_45, e_Md_goesThrough_48, e_Md_goesThrough_49, e_Md_goesThrough_50, e_Md_goesThrough_53, e_Md_goesThrough_56, e_Md_goesThrough_57, e17, not_true_eq_false, if_false, e15, e16, e30, if_neg c1, h2, evK_i, e17']
        have hit := gm_0 h hw 0 (p1 + 1) (by omega)
        rw [s0, pTx_eq]
        cases hp : pIt g (p1 + 1) with
        | inr k =>
          rw [hp] at hit
          obtain ⟨τ, i1, i2, i3, i4⟩ := hit rfl
          dsimp only
          refine ⟨wr (cnt + 1), τ, ?_, i2, i3, i4⟩
          simp (disch := omega) only [e_Md_goesThrough_58, e_Md_goesThrough_61, e_Md_goesThrough_64, i1, evK_v]
          rw [e_Md_goesThrough_17]
          simp (disch := omega) only [e_Md_goesThrough_18, e_Md_goesThrough_21, e_Md_goesThrough_67, e_Md_goesThrough_68, i3, one_ne, not_false_eq_true, if_true]
        | inl a =>
          obtain ⟨p2, it⟩ := a
          rw [hp] at hit
          have hit : _ = _ := hit
          rw [b149] at hit
          obtain ⟨j1, j2, j3⟩ := pIt_N h hp
          have ih' := ih p2 (cnt + 1) σ h hw (by omega) j3 (by omega) (by omega)
          have s1 : ev 175 58 [aR 25 0, aI 0, aI cnt] [aI 0, aR 25 0] (spA σ (p1 + 1)) = ev 175 17 [aR 25 0, aI 0, aI (cnt + 1)] [] (spA σ p2) := by
            simp (disch := omega) only [e_Md_goesThrough_58, e_Md_goesThrough_61, e_Md_goesThrough_64, hit, evK_v, wr_id]
          rw [s1]
          dsimp only
          cases ht : tT g N n p2 with
          | inr k => rw [ht] at ih'; exact ih'
          | inl l =>
            rw [ht] at ih'
            obtain ⟨τ, k1, k2⟩ := ih'
            refine ⟨τ, ?_, k2⟩
            rw [k1, List.length_cons]
            have : cnt + 1 + (l.length : Int) = cnt + ((l.length + 1 : Nat) : Int) := by omega
            rw [this]
      · rw [if_pos c2]
        have h2 := c_Md_one_no (lo := 59) (hi := 59) h hw (by omega) (by omega) (show ¬ (59 ≤ g p1 ∧ g p1 ≤ 59) by omega)
        have e17' := spW_1 σ p1 p1
        refine ⟨cnt, spW σ p1 p1, ?_, spW_X σ p1 p1, e17', by simp (disch := omega) only [gI_self, gI_nt, gI_nj, gL_uI, gR_uI, gI_uL, gR_uL, gI_uR, gL_uR]⟩
        rw [e_Md_goesThrough_17]
        simp (disch := omega) only [e_Md_goesThrough_18, e_Md_goesThrough_21, e_Md_goesThrough_24, e_Md_goesThrough_25, e_Md_goesThrough_28, e_Md_goesThrough_29, e_Md_goesThrough_32, e_Md_goesThrough_33, e_Md_goesThrough_36, e_Md_goesThrough_37, e_Md_goesThrough_40, e_Md_goesThrough_41, e_Md_goesThrough_43, e_Md_goesThrough_45, e_Md_goesThrough_48, e_Md_goesThrough_49, e_Md_goesThrough_50, e_Md_goesThrough_53, e17, not_true_eq_false, if_false, e15, e16, e30, if_neg c1, h2, evK_i, e17', one_ne, not_false_eq_true, if_true]
        rw [e_Md_goesThrough_17]
        simp (disch := omega) only [e_Md_goesThrough_18, e_Md_goesThrough_21, e_Md_goesThrough_67, e_Md_goesThrough_68, e17', one_ne, not_false_eq_true, if_true]
