/-! shelves -/
theorem Inv_sh {μ μ' : aM} {B s : Int} (hI : Inv μ B) (hg : ∀ t i j, ¬ ((t = 2 ∧ i = s) ∨ ((t = 29 ∨ t = 30) ∧ j = s)) → gI μ' t i j = gI μ t i j) (hL : ∀ t i j, ¬ ((t = 3 ∧ i = s) ∨ (t = 31 ∧ 160 * s ≤ j ∧ j < 160 * s + 160) ∨ t = 32) → gL μ' t i j = gL μ t i j) (hs : ShP μ' s) : Inv μ' B := by
  obtain ⟨i1, i2, i3, i4, i5, i6, i7⟩ := hI
  refine ⟨?_, ?_, fun s' s0 s1 => ?_, fun r r0 r1 => ?_, ?_, ?_, fun z => ?_⟩
  · exact Sim_cg i1 (fun j _ _ => hg _ _ _ (by omega)) (fun i j _ _ _ _ => hg _ _ _ (by omega)) (fun i => hg _ _ _ (by omega)) ⟨hg _ _ _ (by omega), hg _ _ _ (by omega)⟩ (fun j _ _ => hg _ _ _ (by omega)) (fun j _ _ => ⟨hg _ _ _ (by omega), hg _ _ _ (by omega)⟩) (fun k _ _ => hg _ _ _ (by omega))
  · exact CO_cg i2 (hg _ _ _ (by omega)) (fun i _ _ => hg _ _ _ (by omega)) (hg _ _ _ (by omega)) (Int.le_refl _)
  · by_cases z : s' = s
    · rw [z]; exact hs
    · have h := i3 s' s0 s1
      unfold ShP at h ⊢
      rw [hg _ _ _ (by omega), hg _ _ _ (by omega), hg _ _ _ (by omega), hg _ _ _ (by omega), hg _ _ _ (by omega), hg 6 0 2 (by omega)]
      rcases h with h | h | h
      · exact Or.inl h
      · refine Or.inr (Or.inl ⟨h.1, h.2.1, h.2.2.1, h.2.2.2.1, h.2.2.2.2.1, fun j j0 j1 => ?_⟩)
        rw [hL _ _ _ (by omega), hL _ _ _ (by omega)]
        exact h.2.2.2.2.2 j j0 j1
      · exact Or.inr (Or.inr h)
  · rw [hg _ _ _ (by omega), hg _ _ _ (by omega)]; exact i4 r r0 r1
  · rw [hg _ _ _ (by omega), hg _ _ _ (by omega)]; exact i5
  · rw [hg _ _ _ (by omega), hg _ _ _ (by omega)]; exact i6
  · rw [hg _ _ _ (by omega)] at z
    exact Sim_vw (i7 z) (fun k => hg _ _ _ (by omega)) (fun i j _ _ => hg _ _ _ (by omega)) (fun i => hg _ _ _ (by omega)) (fun t j hq => hg _ _ _ (by omega)) (Int.le_refl _)
/-- longs in a row's span become v -/
def fL2 (σ : aM) (t : Nat) (i a n : Int) (v : Int64) : aM := (σ.1, fun t' i' j' => if t' = t ∧ i' = i ∧ a ≤ j' ∧ j' < a + n then v else gL σ t' i' j', σ.2.2)
theorem gL_fL2 (σ : aM) (t : Nat) (i a n : Int) (v : Int64) (t' : Nat) (i' j' : Int) : gL (fL2 σ t i a n v) t' i' j' = if t' = t ∧ i' = i ∧ a ≤ j' ∧ j' < a + n then v else gL σ t' i' j' := rfl
theorem gI_fL2 (σ : aM) (t : Nat) (i a n : Int) (v : Int64) (t' : Nat) (i' j' : Int) : gI (fL2 σ t i a n v) t' i' j' = gI σ t' i' j' := rfl
theorem fL2_0 (σ : aM) (t : Nat) (i a : Int) (v : Int64) : fL2 σ t i a 0 v = σ := aM_ext (fun _ _ _ => rfl) (fun t' i' j' => by rw [gL_fL2, if_neg (fun q => by omega)]) (fun _ => rfl)
theorem fL2_s (σ : aM) (t : Nat) (i a : Int) (v : Int64) {k : Int} (h : 0 ≤ k) : uL (fL2 σ t i a k v) t i (a + k) v = fL2 σ t i a (k + 1) v := aM_ext (fun _ _ _ => rfl) (fun t' i' j' => by
  rw [gL_uL, gL_fL2, gL_fL2]
  by_cases z : t' = t ∧ i' = i ∧ j' = a + k
  · rw [if_pos z, if_pos ⟨z.1, z.2.1, by omega⟩]
  · rw [if_neg z]
    by_cases y : t' = t ∧ i' = i ∧ a ≤ j' ∧ j' < a + k
    · rw [if_pos y, if_pos ⟨y.1, y.2.1, by omega⟩]
    · rw [if_neg y, if_neg (fun q => by
        by_cases w : j' = a + k
        · exact z ⟨q.1, q.2.1, w⟩
        · exact y ⟨q.1, q.2.1, q.2.2.1, by omega⟩)]) (fun _ => rfl)
theorem gL_flL' (σ : aM) (t : Nat) (i : Int) (v : Int64) (n : Int) (t' : Nat) (i' j' : Int) : gI (flL σ t i v n) t' i' j' = gI σ t' i' j' := rfl
theorem gL_u3 (σ : aM) (t : Nat) (i j v : Int) (t' : Nat) (i' j' : Int) : gL (uI σ t i j v) t' i' j' = gL σ t' i' j' := rfl
theorem l_Md_row (s sort n : Int) (hs : 0 ≤ s ∧ s < 8) : ∀ (m : Nat) (k : Int) (σ : aM), 0 ≤ k → k + m = 160 → ev 131 71 [aR 25 0, aI s, aI sort, aI n, aI k] [] (fL2 σ 31 0 (160 * s) k 0) = some (some (aI 1), fL2 σ 31 0 (160 * s) 160 0) := by
  intro m
  induction m with
  | zero =>
    intro k σ h0 h1
    have e : k = 160 := by omega
    subst e
    rw [e_Md_row_71]
    simp (disch := omega) only [e_Md_row_73, e_Md_row_76, e_Md_row_99, e_Md_row_100, if_pos (Int.le_refl 160)]
  | succ m ih =>
    intro k σ h0 h1
    have e : 160 * s + k = 160 * s + k := rfl
    rw [e_Md_row_71]
    simp (disch := omega) only [e_Md_row_73, e_Md_row_76, e_Md_row_79, e_Md_row_80, e_Md_row_83, e_Md_row_86, e_Md_row_87, e_Md_row_88, e_Md_row_90, e_Md_row_91, e_Md_row_92, e_Md_row_93, e_Md_row_96, if_neg (show ¬ 160 ≤ k by omega), wr_id, fL2_s, ih]
theorem kp_row {μ : aM} {s sort n : Int} : (∀ t i j, ¬ (t = 2 ∧ i = s) → gI (uI (uI (flL (uI (uI (uI μ 2 s 1 0) 2 s 2 (-1)) 2 s 3 (-1)) 3 s 0 160) 2 s 2 sort) 2 s 1 n) t i j = gI μ t i j) ∧ (gI (uI (uI (flL (uI (uI (uI μ 2 s 1 0) 2 s 2 (-1)) 2 s 3 (-1)) 3 s 0 160) 2 s 2 sort) 2 s 1 n) 2 s 1 = n ∧ gI (uI (uI (flL (uI (uI (uI μ 2 s 1 0) 2 s 2 (-1)) 2 s 3 (-1)) 3 s 0 160) 2 s 2 sort) 2 s 1 n) 2 s 2 = sort ∧ gI (uI (uI (flL (uI (uI (uI μ 2 s 1 0) 2 s 2 (-1)) 2 s 3 (-1)) 3 s 0 160) 2 s 2 sort) 2 s 1 n) 2 s 3 = -1) ∧ (∀ t i j, gL (uI (uI (flL (uI (uI (uI μ 2 s 1 0) 2 s 2 (-1)) 2 s 3 (-1)) 3 s 0 160) 2 s 2 sort) 2 s 1 n) t i j = if t = 3 ∧ i = s ∧ 0 ≤ j ∧ j < 160 then 0 else gL μ t i j) := by
  refine ⟨fun t i j h => ?_, ⟨?_, ?_, ?_⟩, fun t i j => ?_⟩
  · have z : ∀ k : Int, ¬ (t = 2 ∧ i = s ∧ j = k) := fun k y => h ⟨y.1, y.2.1⟩
    rw [gI_uI, if_neg (z _), gI_uI, if_neg (z _), gL_flL', gI_uI, if_neg (z _), gI_uI, if_neg (z _), gI_uI, if_neg (z _)]
  · rw [gI_self]
  · rw [gI_nj _ _ _ _ _ _ _ _ (by decide), gI_self]
  · rw [gI_nj _ _ _ _ _ _ _ _ (by decide), gI_nj _ _ _ _ _ _ _ _ (by decide), gL_flL', gI_self]
  · rw [gL_u3, gL_u3, gL_flL, gL_u3, gL_u3, gL_u3]
theorem PR_row {μ : aM} {B : Int} (hI : Inv μ B) (s sort n : Int) : PR B μ (fun σ => ev 78 0 [aR 0 0, aI s, aI sort, aI n] [] σ) (fun σ => ev 131 0 [aR 25 0, aI s, aI sort, aI n, aU] [] σ) := by
  have rf : ∀ r, (-7 ≤ r ∧ r < 0) → (∀ σ, ev 78 0 [aR 0 0, aI s, aI sort, aI n] [] σ = ev 113 0 [aR 0 0, aI r] [] σ) → (∀ σ, ev 131 0 [aR 25 0, aI s, aI sort, aI n, aU] [] σ = ev 124 0 [aR 25 0, aI r] [] σ) → PR B μ (fun σ => ev 78 0 [aR 0 0, aI s, aI sort, aI n] [] σ) (fun σ => ev 131 0 [aR 25 0, aI s, aI sort, aI n, aU] [] σ) := fun r hr h1 h2 => by
    refine PR_rf (a := r) (r := -r) hI ?_ ?_
    · show ev 78 0 [aR 0 0, aI s, aI sort, aI n] [] μ = _
      rw [h1, c_Ub_refuse r μ hr]
      rfl
    · show ev 131 0 [aR 25 0, aI s, aI sort, aI n, aU] [] (rf4 μ (-r)) = _
      rw [h2, c_Md_refused r _ hr]
      rfl
  by_cases h1 : 0 ≤ s ∧ s < 8
  · by_cases h2 : 0 ≤ n
    · by_cases h3 : 0 ≤ sort ∧ sort ≤ 3
      · by_cases h4 : n ≤ 160
        · obtain ⟨a1, ⟨a2, a3, a4⟩, a5⟩ := kp_row (μ := μ) (s := s) (sort := sort) (n := n)
          obtain ⟨μ1, hμ1⟩ : ∃ m, m = uI (uI (flL (uI (uI (uI μ 2 s 1 0) 2 s 2 (-1)) 2 s 3 (-1)) 3 s 0 160) 2 s 2 sort) 2 s 1 n := ⟨_, rfl⟩
          rw [← hμ1] at a2 a3 a4
          simp only [← hμ1] at a1 a5
          have b1 : ∀ t i j, ¬ ((t = 29 ∨ t = 30) ∧ j = s) → gI (fL2 (uI (uI μ1 29 0 s sort) 30 0 s n) 31 0 (160 * s) 160 0) t i j = gI μ1 t i j := fun t i j h => by
            rw [gI_fL2, gI_uI, if_neg (fun y => h ⟨Or.inr y.1, y.2.2⟩), gI_uI, if_neg (fun y => h ⟨Or.inl y.1, y.2.2⟩)]
          have b2 : gI (fL2 (uI (uI μ1 29 0 s sort) 30 0 s n) 31 0 (160 * s) 160 0) 29 0 s = sort := by rw [gI_fL2, gI_nt _ _ _ _ _ _ _ _ (by decide), gI_self]
          have b3 : gI (fL2 (uI (uI μ1 29 0 s sort) 30 0 s n) 31 0 (160 * s) 160 0) 30 0 s = n := by rw [gI_fL2, gI_self]
          have b4 : ∀ t i j, gL (fL2 (uI (uI μ1 29 0 s sort) 30 0 s n) 31 0 (160 * s) 160 0) t i j = if t = 31 ∧ i = 0 ∧ 160 * s ≤ j ∧ j < 160 * s + 160 then 0 else gL μ1 t i j := fun t i j => by rw [gL_fL2, gL_u3, gL_u3]
          refine ⟨1, μ1, fL2 (uI (uI μ1 29 0 s sort) 30 0 s n) 31 0 (160 * s) 160 0, ?_, ?_, Inv_mono (Inv_sh (s := s) hI (fun t i j z => ?_) (fun t i j z => ?_) ?_) (by omega)⟩
          · show ev 78 0 [aR 0 0, aI s, aI sort, aI n] [] μ = _
            simp (disch := omega) only [e_Ub_row_0, e_Ub_row_1, e_Ub_row_4, e_Ub_row_7, e_Ub_row_8, e_Ub_row_9, e_Ub_row_12, e_Ub_row_13, e_Ub_row_14, e_Ub_row_17, e_Ub_row_18, e_Ub_row_20, e_Ub_row_23, e_Ub_row_24, e_Ub_row_25, e_Ub_row_28, e_Ub_row_29, e_Ub_row_30, e_Ub_row_33, e_Ub_row_34, e_Ub_row_36, e_Ub_row_39, e_Ub_row_40, e_Ub_row_41, e_Ub_row_44, e_Ub_row_47, e_Ub_row_48, e_Ub_row_50, e_Ub_row_53, e_Ub_row_54, e_Ub_row_55, e_Ub_row_58, e_Ub_row_59, e_Ub_row_60, e_Ub_row_61, e_Ub_row_62, e_Ub_row_65, e_Ub_row_66, c_Ub_isShelf, evK_i, evK_v, if_pos h1, one_ne, not_false_eq_true, if_true, if_pos h2, if_neg (show ¬ sort < 0 by omega), if_pos h3.2, if_pos h4, Int.zero_add, Int.mul_zero, c_Sh_holdRow, ← hμ1]
          · have hl := l_Md_row s sort n h1 160 0 (uI (uI μ1 29 0 s sort) 30 0 s n) (by omega) (by omega)
            rw [fL2_0] at hl
            have hin := c_Md_in sort 0 3 μ1
            rw [if_pos h3] at hin
            show ev 131 0 [aR 25 0, aI s, aI sort, aI n, aU] [] μ1 = _
            simp (disch := omega) only [e_Md_row_0, e_Md_row_1, e_Md_row_4, e_Md_row_7, e_Md_row_8, e_Md_row_9, e_Md_row_12, e_Md_row_13, e_Md_row_14, e_Md_row_17, e_Md_row_18, e_Md_row_20, e_Md_row_23, e_Md_row_24, e_Md_row_25, e_Md_row_26, e_Md_row_27, e_Md_row_30, e_Md_row_33, e_Md_row_34, e_Md_row_36, e_Md_row_39, e_Md_row_40, e_Md_row_41, e_Md_row_44, e_Md_row_47, e_Md_row_48, e_Md_row_50, e_Md_row_53, e_Md_row_54, e_Md_row_55, e_Md_row_58, e_Md_row_59, e_Md_row_60, e_Md_row_61, e_Md_row_62, e_Md_row_65, e_Md_row_66, e_Md_row_67, e_Md_row_68, e_Md_row_69, c_Md_isShelf, evK_i, if_pos h1, one_ne, not_false_eq_true, if_true, if_pos h2, hin, if_pos h4, hl]
          · rw [b1 _ _ _ (by omega), a1 _ _ _ (by omega)]
          · rw [b4, if_neg (by omega), a5, if_neg (by omega)]
          · refine Or.inr (Or.inl ⟨?_, ?_, ?_, ?_, ?_, fun j j0 j1 => ?_⟩)
            · rw [b1 _ _ _ (by omega), a3]; exact h3
            · rw [b1 _ _ _ (by omega), a4]
            · rw [b1 _ _ _ (by omega), a2]; exact ⟨h2, h4⟩
            · rw [b1 2 s 2 (by omega), a3, b2]
            · rw [b1 2 s 1 (by omega), a2, b3]
            · rw [b1 2 s 1 (by omega), a2] at j1
              rw [b4, b4, if_pos (by omega), if_neg (by omega), a5, if_pos (by omega)]
        · refine rf (-7) (by omega) (fun σ => ?_) (fun σ => ?_)
          · rw [c_Ub_refuse _ _ (by omega)]
            simp (disch := omega) only [e_Ub_row_0, e_Ub_row_1, e_Ub_row_4, e_Ub_row_7, e_Ub_row_8, e_Ub_row_9, e_Ub_row_12, e_Ub_row_13, e_Ub_row_14, e_Ub_row_17, e_Ub_row_18, e_Ub_row_20, e_Ub_row_23, e_Ub_row_24, e_Ub_row_25, e_Ub_row_28, e_Ub_row_29, e_Ub_row_30, e_Ub_row_33, e_Ub_row_34, e_Ub_row_36, e_Ub_row_39, e_Ub_row_40, e_Ub_row_41, e_Ub_row_44, e_Ub_row_47, e_Ub_row_48, e_Ub_row_50, e_Ub_row_53, e_Ub_row_54, e_Ub_row_55, e_Ub_row_58, e_Ub_row_59, e_Ub_row_60, e_Ub_row_61, e_Ub_row_62, e_Ub_row_65, e_Ub_row_66, c_Ub_isShelf, evK_i, if_pos h1, one_ne, not_false_eq_true, if_true, if_pos h2, if_neg (show ¬ sort < 0 by omega), if_pos h3.2, if_neg h4, c_Ub_refuse]
          · have hin := c_Md_in sort 0 3 σ
            rw [if_pos h3] at hin
            rw [c_Md_refused _ _ (by omega)]
            simp (disch := omega) only [e_Md_row_0, e_Md_row_1, e_Md_row_4, e_Md_row_7, e_Md_row_8, e_Md_row_9, e_Md_row_12, e_Md_row_13, e_Md_row_14, e_Md_row_17, e_Md_row_18, e_Md_row_20, e_Md_row_23, e_Md_row_24, e_Md_row_25, e_Md_row_26, e_Md_row_27, e_Md_row_30, e_Md_row_33, e_Md_row_34, e_Md_row_36, e_Md_row_39, e_Md_row_40, e_Md_row_41, e_Md_row_44, e_Md_row_47, e_Md_row_48, e_Md_row_50, e_Md_row_53, c_Md_isShelf, evK_i, if_pos h1, one_ne, not_false_eq_true, if_true, if_pos h2, hin, if_neg h4, c_Md_refused]
      · refine rf (-6) (by omega) (fun σ => ?_) (fun σ => ?_)
        · rw [c_Ub_refuse _ _ (by omega)]
          by_cases z : sort < 0
          · simp (disch := omega) only [e_Ub_row_0, e_Ub_row_1, e_Ub_row_4, e_Ub_row_7, e_Ub_row_8, e_Ub_row_9, e_Ub_row_12, e_Ub_row_13, e_Ub_row_14, e_Ub_row_17, e_Ub_row_18, e_Ub_row_20, e_Ub_row_23, e_Ub_row_24, e_Ub_row_25, e_Ub_row_28, e_Ub_row_29, e_Ub_row_30, e_Ub_row_33, e_Ub_row_34, e_Ub_row_36, e_Ub_row_39, e_Ub_row_40, e_Ub_row_41, e_Ub_row_44, e_Ub_row_47, e_Ub_row_48, e_Ub_row_50, e_Ub_row_53, e_Ub_row_54, e_Ub_row_55, e_Ub_row_58, e_Ub_row_59, e_Ub_row_60, e_Ub_row_61, e_Ub_row_62, e_Ub_row_65, e_Ub_row_66, c_Ub_isShelf, evK_i, if_pos h1, one_ne, not_false_eq_true, if_true, if_pos h2, if_pos z, c_Ub_refuse]
          · simp (disch := omega) only [e_Ub_row_0, e_Ub_row_1, e_Ub_row_4, e_Ub_row_7, e_Ub_row_8, e_Ub_row_9, e_Ub_row_12, e_Ub_row_13, e_Ub_row_14, e_Ub_row_17, e_Ub_row_18, e_Ub_row_20, e_Ub_row_23, e_Ub_row_24, e_Ub_row_25, e_Ub_row_28, e_Ub_row_29, e_Ub_row_30, e_Ub_row_33, e_Ub_row_34, e_Ub_row_36, e_Ub_row_39, e_Ub_row_40, e_Ub_row_41, e_Ub_row_44, e_Ub_row_47, e_Ub_row_48, e_Ub_row_50, e_Ub_row_53, e_Ub_row_54, e_Ub_row_55, e_Ub_row_58, e_Ub_row_59, e_Ub_row_60, e_Ub_row_61, e_Ub_row_62, e_Ub_row_65, e_Ub_row_66, c_Ub_isShelf, evK_i, if_pos h1, one_ne, not_false_eq_true, if_true, if_pos h2, if_neg z, if_neg (show ¬ sort ≤ 3 by omega), c_Ub_refuse]
        · have hin := c_Md_in sort 0 3 σ
          rw [if_neg h3] at hin
          rw [c_Md_refused _ _ (by omega)]
          simp (disch := omega) only [e_Md_row_0, e_Md_row_1, e_Md_row_4, e_Md_row_7, e_Md_row_8, e_Md_row_9, e_Md_row_12, e_Md_row_13, e_Md_row_14, e_Md_row_17, e_Md_row_18, e_Md_row_20, e_Md_row_23, e_Md_row_24, e_Md_row_25, e_Md_row_26, e_Md_row_27, e_Md_row_30, e_Md_row_33, e_Md_row_34, e_Md_row_36, e_Md_row_39, e_Md_row_40, e_Md_row_41, e_Md_row_44, e_Md_row_47, e_Md_row_48, e_Md_row_50, e_Md_row_53, c_Md_isShelf, evK_i, if_pos h1, one_ne, not_false_eq_true, not_true_eq_false, if_true, if_false, if_pos h2, hin, c_Md_refused]
    · refine rf (-4) (by omega) (fun σ => ?_) (fun σ => ?_)
      · rw [c_Ub_refuse _ _ (by omega)]
        simp (disch := omega) only [e_Ub_row_0, e_Ub_row_1, e_Ub_row_4, e_Ub_row_7, e_Ub_row_8, e_Ub_row_9, e_Ub_row_12, e_Ub_row_13, e_Ub_row_14, e_Ub_row_17, e_Ub_row_18, e_Ub_row_20, e_Ub_row_23, e_Ub_row_24, e_Ub_row_25, e_Ub_row_28, e_Ub_row_29, e_Ub_row_30, e_Ub_row_33, e_Ub_row_34, e_Ub_row_36, e_Ub_row_39, e_Ub_row_40, e_Ub_row_41, e_Ub_row_44, e_Ub_row_47, e_Ub_row_48, e_Ub_row_50, e_Ub_row_53, e_Ub_row_54, e_Ub_row_55, e_Ub_row_58, e_Ub_row_59, e_Ub_row_60, e_Ub_row_61, e_Ub_row_62, e_Ub_row_65, e_Ub_row_66, c_Ub_isShelf, evK_i, if_pos h1, one_ne, not_false_eq_true, if_true, if_neg h2, c_Ub_refuse]
      · rw [c_Md_refused _ _ (by omega)]
        simp (disch := omega) only [e_Md_row_0, e_Md_row_1, e_Md_row_4, e_Md_row_7, e_Md_row_8, e_Md_row_9, e_Md_row_12, e_Md_row_13, e_Md_row_14, e_Md_row_17, e_Md_row_18, e_Md_row_20, e_Md_row_23, e_Md_row_24, e_Md_row_25, e_Md_row_26, e_Md_row_27, e_Md_row_30, e_Md_row_33, e_Md_row_34, e_Md_row_36, e_Md_row_39, e_Md_row_40, e_Md_row_41, e_Md_row_44, e_Md_row_47, e_Md_row_48, e_Md_row_50, e_Md_row_53, c_Md_isShelf, evK_i, if_pos h1, one_ne, not_false_eq_true, if_true, if_neg h2, c_Md_refused]
  · refine rf (-1) (by omega) (fun σ => ?_) (fun σ => ?_)
    · rw [c_Ub_refuse _ _ (by omega)]
      simp (disch := omega) only [e_Ub_row_0, e_Ub_row_1, e_Ub_row_4, e_Ub_row_7, e_Ub_row_8, e_Ub_row_9, e_Ub_row_12, e_Ub_row_13, e_Ub_row_14, e_Ub_row_17, e_Ub_row_18, e_Ub_row_20, e_Ub_row_23, e_Ub_row_24, e_Ub_row_25, e_Ub_row_28, e_Ub_row_29, e_Ub_row_30, e_Ub_row_33, e_Ub_row_34, e_Ub_row_36, e_Ub_row_39, e_Ub_row_40, e_Ub_row_41, e_Ub_row_44, e_Ub_row_47, e_Ub_row_48, e_Ub_row_50, e_Ub_row_53, e_Ub_row_54, e_Ub_row_55, e_Ub_row_58, e_Ub_row_59, e_Ub_row_60, e_Ub_row_61, e_Ub_row_62, e_Ub_row_65, e_Ub_row_66, c_Ub_isShelf, evK_i, if_neg h1, not_true_eq_false, if_false, c_Ub_refuse]
    · rw [c_Md_refused _ _ (by omega)]
      simp (disch := omega) only [e_Md_row_0, e_Md_row_1, e_Md_row_4, e_Md_row_7, e_Md_row_8, e_Md_row_9, e_Md_row_12, e_Md_row_13, e_Md_row_14, e_Md_row_17, e_Md_row_18, e_Md_row_20, e_Md_row_23, e_Md_row_24, e_Md_row_25, e_Md_row_26, e_Md_row_27, e_Md_row_30, e_Md_row_33, e_Md_row_34, e_Md_row_36, e_Md_row_39, e_Md_row_40, e_Md_row_41, e_Md_row_44, e_Md_row_47, e_Md_row_48, e_Md_row_50, e_Md_row_53, c_Md_isShelf, evK_i, if_neg h1, not_true_eq_false, if_false, c_Md_refused]
