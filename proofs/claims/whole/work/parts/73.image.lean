/-! the image is taken, restored -/
theorem kI_0 (σ : aM) (t : Nat) (i a : Int) (t2 : Nat) (i2 b : Int) : kI σ t i a t2 i2 b 0 = σ := aM_ext (fun t' i' j' => by rw [gI_kI, if_neg (fun q => by omega)]) (fun _ _ _ => rfl) (fun _ => rfl)
theorem kI_s (σ : aM) (t : Nat) (i a : Int) (t2 : Nat) (i2 b : Int) {k : Int} (h : 0 ≤ k) : uI (kI σ t i a t2 i2 b k) t2 i2 (b + k) (gI σ t i (a + k)) = kI σ t i a t2 i2 b (k + 1) := aM_ext (fun t' i' j' => by
  rw [gI_uI, gI_kI, gI_kI]
  by_cases z : t' = t2 ∧ i' = i2 ∧ j' = b + k
  · rw [if_pos z, if_pos ⟨z.1, z.2.1, by omega⟩, show j' - b + a = a + k by omega]
  · rw [if_neg z]
    by_cases y : t' = t2 ∧ i' = i2 ∧ b ≤ j' ∧ j' < b + k
    · rw [if_pos y, if_pos ⟨y.1, y.2.1, by omega⟩]
    · rw [if_neg y, if_neg (fun q => by
        by_cases w : j' = b + k
        · exact z ⟨q.1, q.2.1, w⟩
        · exact y ⟨q.1, q.2.1, q.2.2.1, by omega⟩)]) (fun _ _ _ => rfl) (fun _ => rfl)
theorem l_Md_image : ∀ (m : Nat) (k : Int) (σ : aM), 0 ≤ k → k + m = 1423 → ev 208 2 [aR 25 0, aI k] [] (kI σ 26 0 0 27 0 0 k) = ev 208 27 [aR 25 0, aI 1423] [] (kI σ 26 0 0 27 0 0 1423) := by
  intro m
  induction m with
  | zero =>
    intro k σ h0 h1
    have e : k = 1423 := by omega
    subst e
    rw [e_Md_image_2]
    simp (disch := omega) only [e_Md_image_3, e_Md_image_6, if_pos (Int.le_refl 1423)]
  | succ m ih =>
    intro k σ h0 h1
    have e1 : gI (kI σ 26 0 0 27 0 0 k) 26 0 k = gI σ 26 0 k := by rw [gI_kI, if_neg (by omega)]
    have e2 := kI_s σ 26 0 0 27 0 0 h0
    rw [Int.zero_add] at e2
    rw [e_Md_image_2]
    simp (disch := omega) only [e_Md_image_3, e_Md_image_6, e_Md_image_9, e_Md_image_10, e_Md_image_13, e_Md_image_14, e_Md_image_15, e_Md_image_18, e_Md_image_19, e_Md_image_20, e_Md_image_21, e_Md_image_24, if_neg (show ¬ 1423 ≤ k by omega), wr_id, e1, e2, ih]
theorem l_Md_rest1 : ∀ (m : Nat) (k : Int) (σ : aM), 0 ≤ k → k + m = 1423 → ev 209 16 [aR 25 0, aI k] [] (kI σ 27 0 0 26 0 0 k) = ev 209 41 [aR 25 0, aI 1423] [] (kI σ 27 0 0 26 0 0 1423) := by
  intro m
  induction m with
  | zero =>
    intro k σ h0 h1
    have e : k = 1423 := by omega
    subst e
    rw [e_Md_restore_16]
    simp (disch := omega) only [e_Md_restore_17, e_Md_restore_20, if_pos (Int.le_refl 1423)]
  | succ m ih =>
    intro k σ h0 h1
    have e1 : gI (kI σ 27 0 0 26 0 0 k) 27 0 k = gI σ 27 0 k := by rw [gI_kI, if_neg (by omega)]
    have e2 := kI_s σ 27 0 0 26 0 0 h0
    rw [Int.zero_add] at e2
    rw [e_Md_restore_16]
    simp (disch := omega) only [e_Md_restore_17, e_Md_restore_20, e_Md_restore_23, e_Md_restore_24, e_Md_restore_27, e_Md_restore_28, e_Md_restore_29, e_Md_restore_32, e_Md_restore_33, e_Md_restore_34, e_Md_restore_35, e_Md_restore_38, if_neg (show ¬ 1423 ≤ k by omega), wr_id, e1, e2, ih]
/-- shelves below k whose orders are no more hold nothing -/
def rU (σ : aM) (k : Int) : aM := (fun t i j => if t = 2 ∧ 0 ≤ i ∧ i < k ∧ gI σ 6 0 2 ≤ gI σ 2 i 3 ∧ 1 ≤ j ∧ j ≤ 3 then (if j = 1 then 0 else -1) else gI σ t i j, σ.2)
theorem gI_rU (σ : aM) (k : Int) (t : Nat) (i j : Int) : gI (rU σ k) t i j = if t = 2 ∧ 0 ≤ i ∧ i < k ∧ gI σ 6 0 2 ≤ gI σ 2 i 3 ∧ 1 ≤ j ∧ j ≤ 3 then (if j = 1 then 0 else -1) else gI σ t i j := rfl
theorem rU_0 (σ : aM) : rU σ 0 = σ := aM_ext (fun t i j => by rw [gI_rU, if_neg (by omega)]) (fun _ _ _ => rfl) (fun _ => rfl)
theorem rU_n (σ : aM) {k : Int} (h : ¬ gI σ 6 0 2 ≤ gI σ 2 k 3) : rU σ (k + 1) = rU σ k := aM_ext (fun t i j => by
  rw [gI_rU, gI_rU]
  by_cases z : i = k
  · subst z
    rw [if_neg (fun q => h q.2.2.2.1), if_neg (fun q => h q.2.2.2.1)]
  · by_cases y : t = 2 ∧ 0 ≤ i ∧ i < k ∧ gI σ 6 0 2 ≤ gI σ 2 i 3 ∧ 1 ≤ j ∧ j ≤ 3
    · rw [if_pos y, if_pos ⟨y.1, y.2.1, by omega, y.2.2.2⟩]
    · rw [if_neg y, if_neg (fun q => y ⟨q.1, q.2.1, by omega, q.2.2.2⟩)]) (fun _ _ _ => rfl) (fun _ => rfl)
theorem rU_y (σ : aM) {k : Int} (h0 : 0 ≤ k) (h : gI σ 6 0 2 ≤ gI σ 2 k 3) : uI (uI (uI (rU σ k) 2 k 1 0) 2 k 2 (-1)) 2 k 3 (-1) = rU σ (k + 1) := aM_ext (fun t i j => by
  by_cases z : t = 2 ∧ i = k ∧ 1 ≤ j ∧ j ≤ 3
  · obtain ⟨z1, z2, z3⟩ := z
    subst z1; subst z2
    rw [gI_rU _ (i + 1), if_pos ⟨rfl, h0, by omega, h, z3⟩]
    rcases (show j = 1 ∨ j = 2 ∨ j = 3 by omega) with q | q | q
    · subst q; simp (disch := omega) only [gI_self, gI_nt, gI_nj, gL_uI, gR_uI, gI_uL, gR_uL, gI_uR, gL_uR, if_true]
    · subst q; simp (disch := omega) only [gI_self, gI_nt, gI_nj, gL_uI, gR_uI, gI_uL, gR_uL, gI_uR, gL_uR]; rfl
    · subst q; simp (disch := omega) only [gI_self, gI_nt, gI_nj, gL_uI, gR_uI, gI_uL, gR_uL, gI_uR, gL_uR]; rfl
  · have z' : ∀ c : Int, 1 ≤ c → c ≤ 3 → ¬ (t = 2 ∧ i = k ∧ j = c) := fun c c1 c2 q => z ⟨q.1, q.2.1, by omega⟩
    rw [gI_uI, if_neg (z' _ (by omega) (by omega)), gI_uI, if_neg (z' _ (by omega) (by omega)), gI_uI, if_neg (z' _ (by omega) (by omega)), gI_rU, gI_rU]
    by_cases y : t = 2 ∧ 0 ≤ i ∧ i < k ∧ gI σ 6 0 2 ≤ gI σ 2 i 3 ∧ 1 ≤ j ∧ j ≤ 3
    · rw [if_pos y, if_pos (show t = 2 ∧ 0 ≤ i ∧ i < k + 1 ∧ gI σ 6 0 2 ≤ gI σ 2 i 3 ∧ 1 ≤ j ∧ j ≤ 3 from ⟨y.1, y.2.1, by omega, y.2.2.2⟩)]
    · rw [if_neg y, if_neg (fun q => by
        by_cases w : i = k
        · exact z ⟨q.1, w, q.2.2.2.2⟩
        · exact y ⟨q.1, q.2.1, by omega, q.2.2.2⟩)]) (fun _ _ _ => rfl) (fun _ => rfl)
theorem l_Ub_rest : ∀ (m : Nat) (k : Int) (σ : aM), 0 ≤ k → k + m = 8 → ev 111 27 [aR 0 0, aI k] [] (rU σ k) = some (some (aI (gI σ 6 0 2)), rU σ 8) := by
  have e6 : ∀ σ k, gI (rU σ k) 6 0 2 = gI σ 6 0 2 := fun σ k => by rw [gI_rU, if_neg (by omega)]
  intro m
  induction m with
  | zero =>
    intro k σ h0 h1
    have e : k = 8 := by omega
    subst e
    rw [e_Ub_restore_27]
    simp (disch := omega) only [e_Ub_restore_28, e_Ub_restore_30, e_Ub_restore_67, e_Ub_restore_68, e_Ub_restore_71, e_Ub_restore_74, if_pos (Int.le_refl 8), e6]
  | succ m ih =>
    intro k σ h0 h1
    have e3 : gI (rU σ k) 2 k 3 = gI σ 2 k 3 := by rw [gI_rU, if_neg (by omega)]
    rw [e_Ub_restore_27]
    by_cases c : gI σ 6 0 2 ≤ gI σ 2 k 3
    · have hs := rU_y σ h0 c
      simp (disch := omega) only [e_Ub_restore_28, e_Ub_restore_30, e_Ub_restore_33, e_Ub_restore_34, e_Ub_restore_37, e_Ub_restore_38, e_Ub_restore_39, e_Ub_restore_42, e_Ub_restore_43, e_Ub_restore_46, e_Ub_restore_49, e_Ub_restore_52, e_Ub_restore_53, e_Ub_restore_56, e_Ub_restore_57, e_Ub_restore_58, e_Ub_restore_61, e_Ub_restore_64, if_neg (show ¬ 8 ≤ k by omega), e3, e6, if_neg (show ¬ gI σ 2 k 3 < gI σ 6 0 2 by omega), c_Sh_holdNothing, evK_v, hs, wr_id, ih]
    · have ih' := ih (k + 1) σ (by omega) (by omega)
      rw [rU_n σ c] at ih'
      simp (disch := omega) only [e_Ub_restore_28, e_Ub_restore_30, e_Ub_restore_33, e_Ub_restore_34, e_Ub_restore_37, e_Ub_restore_38, e_Ub_restore_39, e_Ub_restore_42, e_Ub_restore_43, e_Ub_restore_46, e_Ub_restore_49, e_Ub_restore_52, e_Ub_restore_53, e_Ub_restore_56, e_Ub_restore_57, e_Ub_restore_58, e_Ub_restore_61, e_Ub_restore_64, if_neg (show ¬ 8 ≤ k by omega), e3, e6, if_pos (show gI σ 2 k 3 < gI σ 6 0 2 by omega), wr_id, ih']
/-- the reference's -/
abbrev rMc (σ : aM) (j : Int) : Prop := gI σ 29 0 j = 4 ∧ ¬ (0 ≤ gI σ 30 0 j ∧ gI σ 30 0 j < gI σ 26 0 600)
def rM (σ : aM) (k : Int) : aM := (fun t i j => if t = 29 ∧ i = 0 ∧ 0 ≤ j ∧ j < k ∧ rMc σ j then -1 else gI σ t i j, σ.2)
theorem gI_rM (σ : aM) (k : Int) (t : Nat) (i j : Int) : gI (rM σ k) t i j = if t = 29 ∧ i = 0 ∧ 0 ≤ j ∧ j < k ∧ rMc σ j then -1 else gI σ t i j := rfl
theorem rM_0 (σ : aM) : rM σ 0 = σ := aM_ext (fun t i j => by rw [gI_rM, if_neg (fun q => by omega)]) (fun _ _ _ => rfl) (fun _ => rfl)
theorem rM_n (σ : aM) {k : Int} (h : ¬ rMc σ k) : rM σ (k + 1) = rM σ k := aM_ext (fun t i j => by
  rw [gI_rM, gI_rM]
  by_cases z : j = k
  · subst z
    rw [if_neg (fun q => h q.2.2.2.2), if_neg (fun q => h q.2.2.2.2)]
  · by_cases y : t = 29 ∧ i = 0 ∧ 0 ≤ j ∧ j < k ∧ rMc σ j
    · rw [if_pos y, if_pos ⟨y.1, y.2.1, y.2.2.1, by omega, y.2.2.2.2⟩]
    · rw [if_neg y, if_neg (fun q => y ⟨q.1, q.2.1, q.2.2.1, by omega, q.2.2.2.2⟩)]) (fun _ _ _ => rfl) (fun _ => rfl)
theorem rM_y (σ : aM) {k : Int} (h0 : 0 ≤ k) (h : rMc σ k) : uI (rM σ k) 29 0 k (-1) = rM σ (k + 1) := aM_ext (fun t i j => by
  rw [gI_uI, gI_rM, gI_rM]
  by_cases z : t = 29 ∧ i = 0 ∧ j = k
  · obtain ⟨z1, z2, z3⟩ := z
    subst z3
    rw [if_pos ⟨z1, z2, rfl⟩, if_pos ⟨z1, z2, h0, by omega, h⟩]
  · rw [if_neg z]
    by_cases y : t = 29 ∧ i = 0 ∧ 0 ≤ j ∧ j < k ∧ rMc σ j
    · rw [if_pos y, if_pos ⟨y.1, y.2.1, y.2.2.1, by omega, y.2.2.2.2⟩]
    · rw [if_neg y, if_neg (fun q => by
        by_cases w : j = k
        · exact z ⟨q.1, q.2.1, w⟩
        · exact y ⟨q.1, q.2.1, q.2.2.1, by omega, q.2.2.2.2⟩)]) (fun _ _ _ => rfl) (fun _ => rfl)
theorem l_Md_rest2 : ∀ (m : Nat) (k : Int) (σ : aM), (0 ≤ gI σ 26 0 600 ∧ gI σ 26 0 600 ≤ 60) → 0 ≤ k → k + m = 8 → ev 209 43 [aR 25 0, aI k] [] (rM σ k) = some (some (aI (gI σ 26 0 600)), rM σ 8) := by
  have e6 : ∀ σ k, gI (rM σ k) 26 0 600 = gI σ 26 0 600 := fun σ k => by rw [gI_rM, if_neg (fun q => by omega)]
  intro m
  induction m with
  | zero =>
    intro k σ hc h0 h1
    have e : k = 8 := by omega
    subst e
    rw [e_Md_restore_43]
    simp (disch := omega) only [e_Md_restore_44, e_Md_restore_46, e_Md_restore_85, e_Md_restore_86, e_Md_restore_89, e_Md_restore_92, e_Md_restore_93, if_pos (Int.le_refl 8), e6]
  | succ m ih =>
    intro k σ hc h0 h1
    have e29 : gI (rM σ k) 29 0 k = gI σ 29 0 k := by rw [gI_rM, if_neg (fun q => by omega)]
    have e30 : gI (rM σ k) 30 0 k = gI σ 30 0 k := by rw [gI_rM, if_neg (fun q => by omega)]
    have hio := c_Md_isOrder (rM σ k) (gI σ 30 0 k) (by rw [e6]; exact hc)
    rw [e6] at hio
    rw [e_Md_restore_43]
    by_cases c1 : gI σ 29 0 k = 4
    · by_cases c2 : 0 ≤ gI σ 30 0 k ∧ gI σ 30 0 k < gI σ 26 0 600
      · rw [if_pos c2] at hio
        have ih' := ih (k + 1) σ hc (by omega) (by omega)
        rw [rM_n σ (fun q : rMc σ k => q.2 c2)] at ih'
        simp (disch := omega) only [e_Md_restore_44, e_Md_restore_46, e_Md_restore_49, e_Md_restore_50, e_Md_restore_53, e_Md_restore_54, e_Md_restore_55, e_Md_restore_56, e_Md_restore_59, e_Md_restore_60, e_Md_restore_61, e_Md_restore_64, e_Md_restore_65, e_Md_restore_66, e_Md_restore_69, e_Md_restore_72, e_Md_restore_73, e_Md_restore_76, e_Md_restore_77, e_Md_restore_78, e_Md_restore_79, e_Md_restore_82, if_neg (show ¬ 8 ≤ k by omega), e29, e30, c1, not_true_eq_false, if_false, hio, evK_i, one_ne, not_false_eq_true, if_true, wr_id, ih']
      · have hs := rM_y σ h0 ⟨c1, c2⟩
        rw [if_neg c2] at hio
        simp (disch := omega) only [e_Md_restore_44, e_Md_restore_46, e_Md_restore_49, e_Md_restore_50, e_Md_restore_53, e_Md_restore_54, e_Md_restore_55, e_Md_restore_56, e_Md_restore_59, e_Md_restore_60, e_Md_restore_61, e_Md_restore_64, e_Md_restore_65, e_Md_restore_66, e_Md_restore_69, e_Md_restore_72, e_Md_restore_73, e_Md_restore_76, e_Md_restore_77, e_Md_restore_78, e_Md_restore_79, e_Md_restore_82, if_neg (show ¬ 8 ≤ k by omega), e29, e30, c1, not_true_eq_false, if_false, hio, evK_i, hs, wr_id, ih]
    · have ih' := ih (k + 1) σ hc (by omega) (by omega)
      rw [rM_n σ (fun q : rMc σ k => c1 q.1)] at ih'
      simp (disch := omega) only [e_Md_restore_44, e_Md_restore_46, e_Md_restore_49, e_Md_restore_50, e_Md_restore_53, e_Md_restore_54, e_Md_restore_55, e_Md_restore_56, e_Md_restore_59, e_Md_restore_60, e_Md_restore_61, e_Md_restore_64, e_Md_restore_65, e_Md_restore_66, e_Md_restore_69, e_Md_restore_72, e_Md_restore_73, e_Md_restore_76, e_Md_restore_77, e_Md_restore_78, e_Md_restore_79, e_Md_restore_82, if_neg (show ¬ 8 ≤ k by omega), e29, if_pos c1, wr_id, ih']
theorem PR_image {μ : aM} {B : Int} (hI : Inv μ B) : PR B μ (fun σ => ev 110 0 [aR 0 0] [] σ) (fun σ => ev 208 0 [aR 25 0, aU] [] σ) := by
  obtain ⟨hc, h600, hR, hnum, h601, hph⟩ := Inv_f hI
  have ht := c_Bk_takeOver μ 1 0 (Or.inr ⟨rfl, rfl⟩) hc
  have g8 : ∀ i j, 0 ≤ i → i < gI μ 6 0 2 → 1 ≤ j → j ≤ 10 → gI (kBk μ 1 0) 8 (60 + i) j = gI μ 8 i j := fun i j i0 i1 j0 j1 => by
    rw [gI_kBk, if_pos (by omega), show 60 + i - 60 * 1 + 60 * 0 = i by omega]
  have g80 : ∀ i, gI (kBk μ 1 0) 8 i 0 = gI μ 8 i 0 := fun i => by rw [gI_kBk, if_neg (by omega), if_neg (by omega)]
  have gb : ∀ t j, ((t = 10 ∧ 0 ≤ j ∧ j < 800) ∨ ((t = 11 ∨ t = 12) ∧ 0 ≤ j ∧ j < 8) ∨ (t = 9 ∧ 3 ≤ j ∧ j ≤ 4) ∨ (t = 6 ∧ 2 ≤ j ∧ j ≤ 6)) → gI (kBk μ 1 0) t 1 j = gI μ t 0 j := fun t j h => by
    rw [gI_kBk, if_neg (by omega), if_pos (by omega)]
  have go : ∀ t i j, ¬ (t = 8 ∧ 60 ≤ i ∧ i < 120) → ¬ ((t = 6 ∨ t = 9 ∨ t = 10 ∨ t = 11 ∨ t = 12) ∧ i = 1) → gI (kBk μ 1 0) t i j = gI μ t i j := fun t i j h1 h2 => by
    rw [gI_kBk, if_neg (by omega), if_neg (by omega)]
  have g8n : ∀ i j, ¬ (60 ≤ i ∧ i < 60 + gI μ 6 0 2) → gI (kBk μ 1 0) 8 i j = gI μ 8 i j := fun i j h => by rw [gI_kBk, if_neg (by omega), if_neg (by omega)]
  have h2 : (kBk μ 1 0).2 = μ.2 := rfl
  have cnt : gI (kBk μ 1 0) 6 1 2 = gI μ 6 0 2 := gb 6 2 (by omega)
  generalize kBk μ 1 0 = M at ht g8 g80 gb go g8n h2 cnt
  have o8 : gI (uI M 0 0 8 1) 6 1 2 = gI μ 6 0 2 := by rw [gI_nt _ _ _ _ _ _ _ _ (by decide), cnt]
  -- the reference
  have hl := l_Md_image 1423 0 (uI M 0 0 8 1) (by omega) (by omega)
  rw [kI_0] at hl
  have n1 : ∀ t i j, ¬ (t = 27) → ¬ (t = 25 ∧ j = 3) → ¬ (t = 0 ∧ j = 8) → gI (uI (kI (uI M 0 0 8 1) 26 0 0 27 0 0 1423) 25 0 3 1) t i j = gI M t i j := fun t i j h1 h3 h4 => by
    rw [gI_uI, if_neg (fun q => h3 ⟨q.1, q.2.2⟩), gI_kI, if_neg (fun q => h1 q.1), gI_uI, if_neg (fun q => h4 ⟨q.1, q.2.2⟩)]
  have n27 : ∀ k, 0 ≤ k → k < 1423 → gI (uI (kI (uI M 0 0 8 1) 26 0 0 27 0 0 1423) 25 0 3 1) 27 0 k = gI μ 26 0 k := fun k k0 k1 => by
    rw [gI_nt _ _ _ _ _ _ _ _ (by decide), gI_kI, if_pos ⟨rfl, rfl, k0, by omega⟩, gI_nt _ _ _ _ _ _ _ _ (by decide), go _ _ _ (by omega) (by omega)]
    congr 1
    omega
  have n3 : gI (uI (kI (uI M 0 0 8 1) 26 0 0 27 0 0 1423) 25 0 3 1) 25 0 3 = 1 := gI_self _ _ _ _ _
  have n8 : gI (uI (kI (uI M 0 0 8 1) 26 0 0 27 0 0 1423) 25 0 3 1) 0 0 8 = 1 := by
    rw [gI_nt _ _ _ _ _ _ _ _ (by decide), gI_kI, if_neg (by omega), gI_self]
  have n26 : gI (kI (uI M 0 0 8 1) 26 0 0 27 0 0 1423) 26 0 600 = gI μ 6 0 2 := by
    rw [gI_kI, if_neg (by omega), gI_nt _ _ _ _ _ _ _ _ (by decide), go _ _ _ (by omega) (by omega), h600]
  have nL : (uI (kI (uI M 0 0 8 1) 26 0 0 27 0 0 1423) 25 0 3 1).2 = μ.2 := h2
  refine ⟨gI μ 6 0 2, uI M 0 0 8 1, uI (kI (uI M 0 0 8 1) 26 0 0 27 0 0 1423) 25 0 3 1, ?_, ?_, ?_⟩
  · show ev 110 0 [aR 0 0] [] μ = _
    simp (disch := omega) only [e_Ub_image_0, e_Ub_image_1, e_Ub_image_4, e_Ub_image_5, e_Ub_image_8, e_Ub_image_11, e_Ub_image_12, e_Ub_image_13, e_Ub_image_16, e_Ub_image_17, e_Ub_image_20, e_Ub_image_23, ht, evK_v, o8]
  · show ev 208 0 [aR 25 0, aU] [] (uI M 0 0 8 1) = _
    simp (disch := omega) only [e_Md_image_0, e_Md_image_1, hl]
    simp (disch := omega) only [e_Md_image_27, e_Md_image_28, e_Md_image_29, e_Md_image_32, e_Md_image_33, e_Md_image_36, e_Md_image_39, e_Md_image_40, gI_nt, n26]
  · generalize uI (kI (uI M 0 0 8 1) 26 0 0 27 0 0 1423) 25 0 3 1 = W at n1 n27 n3 n8 nL ⊢
    obtain ⟨i1, i2, i3, i4, i5, i6, i7⟩ := hI
    have w : ∀ t i j, ¬ (t = 8 ∧ 60 ≤ i ∧ i < 120) → ¬ ((t = 6 ∨ t = 9 ∨ t = 10 ∨ t = 11 ∨ t = 12) ∧ i = 1) → ¬ (t = 27) → ¬ (t = 25 ∧ j = 3) → ¬ (t = 0 ∧ j = 8) → gI W t i j = gI μ t i j := fun t i j h1 h3 h4 h5 h6 => by rw [n1 _ _ _ h4 h5 h6, go _ _ _ h1 h3]
    have hlive : Sim W W (-1) B := Sim_cg i1 (fun j _ _ => w _ _ _ (by omega) (by omega) (by omega) (by omega) (by omega)) (fun i j _ _ _ _ => w _ _ _ (by omega) (by omega) (by omega) (by omega) (by omega)) (fun i => by rw [n1 _ _ _ (by omega) (by omega) (by omega), g80]) ⟨w _ _ _ (by omega) (by omega) (by omega) (by omega) (by omega), w _ _ _ (by omega) (by omega) (by omega) (by omega) (by omega)⟩ (fun j _ _ => w _ _ _ (by omega) (by omega) (by omega) (by omega) (by omega)) (fun j _ _ => ⟨w _ _ _ (by omega) (by omega) (by omega) (by omega) (by omega), w _ _ _ (by omega) (by omega) (by omega) (by omega) (by omega)⟩) (fun k _ _ => w _ _ _ (by omega) (by omega) (by omega) (by omega) (by omega))
    refine Inv_mono (B := B) ⟨hlive, ?_, fun s s0 s1 => ?_, fun r r0 r1 => ?_, ?_, ?_, fun _ => ?_⟩ (by omega)
    · obtain ⟨c1, c2, c3, c4⟩ := i2
      refine ⟨by rw [w 6 0 2 (by omega) (by omega) (by omega) (by omega) (by omega)]; exact c1, fun i a0 a1 => ?_, by rw [w 9 0 3 (by omega) (by omega) (by omega) (by omega) (by omega)]; exact c3, by rw [w 9 0 3 (by omega) (by omega) (by omega) (by omega) (by omega)]; exact c4⟩
      rw [n1 _ _ _ (by omega) (by omega) (by omega)]
      by_cases q : 60 ≤ i ∧ i < 60 + gI μ 6 0 2
      · have := g8 (i - 60) 2 (by omega) (by omega) (by omega) (by omega)
        rw [show 60 + (i - 60) = i by omega] at this
        rw [this]
        exact c2 _ (by omega) (by omega)
      · rw [g8n _ _ q]; exact c2 _ a0 a1
    · exact ShP_cg (i3 s s0 s1) (fun j => w _ _ _ (by omega) (by omega) (by omega) (by omega) (by omega)) (w _ _ _ (by omega) (by omega) (by omega) (by omega) (by omega)) (w _ _ _ (by omega) (by omega) (by omega) (by omega) (by omega)) (gL_of2 nL) (by rw [w 6 0 2 (by omega) (by omega) (by omega) (by omega) (by omega)]; exact Int.le_refl _)
    · rw [w 4 0 r (by omega) (by omega) (by omega) (by omega) (by omega), w 28 0 r (by omega) (by omega) (by omega) (by omega) (by omega)]; exact i4 r r0 r1
    · rw [w 0 0 9 (by omega) (by omega) (by omega) (by omega) (by omega), w 25 0 18 (by omega) (by omega) (by omega) (by omega) (by omega)]; exact i5
    · rw [n8, n3]
    · refine Sim_cg i1 (fun j j0 j1 => ?_) (fun i j a0 a1 j0 j1 => ?_) (fun i => ?_) ⟨?_, ?_⟩ (fun j j0 j1 => ?_) (fun j j0 j1 => ⟨?_, ?_⟩) (fun k k0 k1 => ?_)
      · rw [vw_6, n1 _ _ _ (by omega) (by omega) (by omega), gb _ _ (by omega)]
      · rw [vw_8 _ _ _ (by omega) a0 (by omega), n1 _ _ _ (by omega) (by omega) (by omega), g8 _ _ a0 a1 j0 j1]
      · rw [vw_80, n1 _ _ _ (by omega) (by omega) (by omega), g80]
      · rw [vw_9, n1 _ _ _ (by omega) (by omega) (by omega), gb _ _ (by omega)]
      · rw [vw_9, n1 _ _ _ (by omega) (by omega) (by omega), gb _ _ (by omega)]
      · rw [vw_10, n1 _ _ _ (by omega) (by omega) (by omega), gb _ _ (by omega)]
      · rw [vw_11, n1 _ _ _ (by omega) (by omega) (by omega), gb _ _ (by omega)]
      · rw [vw_12, n1 _ _ _ (by omega) (by omega) (by omega), gb _ _ (by omega)]
      · rw [vw_26, n27 _ k0 k1]
