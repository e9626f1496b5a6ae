/-! the desk, on -/
def enF (σ : aM) (c w bp : Int) : Nat → Int → Int
  | 0, _ => 0
  | n + 1, i => (if (gI σ 8 i 5 = 1 ∧ gI σ 8 i 3 = w) ∧ (gI σ 6 0 4 = 0 ∨ ¬ gI σ 8 i 2 = gI σ 8 c 2) ∧ wth σ c (prB σ i bp) (gI σ 8 c 7) then gI σ 8 i 4 else 0) + enF σ c w bp n (i + 1)
theorem enF_le {σ : aM} {c w bp : Int} (hl : ∀ i, 0 ≤ i → i ≤ 120 → 0 ≤ gI σ 8 i 4 ∧ gI σ 8 i 4 ≤ 999) : ∀ (n : Nat) (i : Int), 0 ≤ i → i + n ≤ 60 → 0 ≤ enF σ c w bp n i ∧ enF σ c w bp n i ≤ 999 * n := by
  intro n
  induction n with
  | zero => intro i _ _; exact ⟨Int.le_refl _, Int.le_refl _⟩
  | succ n ih =>
    intro i h0 h1
    have := ih (i + 1) (by omega) (by omega)
    have := hl i h0 (by omega)
    rw [enF]
    split <;> omega
/-- numbers in their ranges, of all that there may be -/
def RG (σ : aM) : Prop := ∀ i, 0 ≤ i → i < gI σ 6 0 2 → (0 ≤ gI σ 8 i 4 ∧ gI σ 8 i 4 ≤ 999) ∧ (0 ≤ gI σ 8 i 7 ∧ gI σ 8 i 7 ≤ 999) ∧ (0 ≤ gI σ 8 i 8 ∧ gI σ 8 i 8 ≤ 999)
theorem bsP_rg {σ : aM} {B w : Int} (h : CO σ B) (hr : RG σ) : 0 ≤ bsP σ w ∧ bsP σ w ≤ 999 := by
  unfold bsP
  cases hf : frs σ w with
  | none => exact ⟨Int.le_refl 0, by show (0 : Int) ≤ 999; decide⟩
  | some f =>
    have hfi := frs_in h.1.1 hf
    have hh := h.1.2
    exact (hr f (by omega) (by omega)).2.1
theorem l_Dk_enough (σ : aM) (c w bp B : Int) (h : CO σ B) (hr : RG σ) (hb : 0 ≤ bp ∧ bp ≤ 999) : ∀ (n : Nat) (i a : Int) (a6 a7 : AV), 0 ≤ i → i + n = gI σ 6 0 2 → 0 ≤ a → a ≤ 999 * i → ev 22 23 [aR 5 0, aR 8 c, aI w, aI bp, aI a, aI i, a6, a7] [] σ = some (some (aI (if gI σ 8 c 4 ≤ a + enF σ c w bp n i then 1 else 0)), σ) := by
  have hc := h.1.2
  intro n
  induction n with
  | zero =>
    intro i a a6 a7 h0 h1 h2 h3
    have hle : gI σ 6 0 2 ≤ i := by omega
    rw [e_Dk_thereIsEnoughFor_23]
    simp (disch := omega) only [e_Dk_thereIsEnoughFor_0, e_Dk_thereIsEnoughFor_1, e_Dk_thereIsEnoughFor_4, e_Dk_thereIsEnoughFor_7, e_Dk_thereIsEnoughFor_8, e_Dk_thereIsEnoughFor_9, e_Dk_thereIsEnoughFor_12, e_Dk_thereIsEnoughFor_13, e_Dk_thereIsEnoughFor_16, e_Dk_thereIsEnoughFor_17, e_Dk_thereIsEnoughFor_18, e_Dk_thereIsEnoughFor_20, e_Dk_thereIsEnoughFor_21, e_Dk_thereIsEnoughFor_25, e_Dk_thereIsEnoughFor_26, e_Dk_thereIsEnoughFor_29, e_Dk_thereIsEnoughFor_32, e_Dk_thereIsEnoughFor_35, e_Dk_thereIsEnoughFor_36, e_Dk_thereIsEnoughFor_39, e_Dk_thereIsEnoughFor_42, e_Dk_thereIsEnoughFor_44, e_Dk_thereIsEnoughFor_45, e_Dk_thereIsEnoughFor_47, e_Dk_thereIsEnoughFor_48, e_Dk_thereIsEnoughFor_51, e_Dk_thereIsEnoughFor_54, e_Dk_thereIsEnoughFor_57, e_Dk_thereIsEnoughFor_59, e_Dk_thereIsEnoughFor_62, e_Dk_thereIsEnoughFor_63, e_Dk_thereIsEnoughFor_66, e_Dk_thereIsEnoughFor_69, e_Dk_thereIsEnoughFor_70, e_Dk_thereIsEnoughFor_73, e_Dk_thereIsEnoughFor_74, e_Dk_thereIsEnoughFor_76, e_Dk_thereIsEnoughFor_78, e_Dk_thereIsEnoughFor_79, e_Dk_thereIsEnoughFor_82, e_Dk_thereIsEnoughFor_85, e_Dk_thereIsEnoughFor_87, e_Dk_thereIsEnoughFor_90, e_Dk_thereIsEnoughFor_91, e_Dk_thereIsEnoughFor_93, e_Dk_thereIsEnoughFor_94, e_Dk_thereIsEnoughFor_97, e_Dk_thereIsEnoughFor_98, e_Dk_thereIsEnoughFor_101, e_Dk_thereIsEnoughFor_104, e_Dk_thereIsEnoughFor_107, e_Dk_thereIsEnoughFor_109, e_Dk_thereIsEnoughFor_111, e_Dk_thereIsEnoughFor_114, e_Dk_thereIsEnoughFor_115, e_Dk_thereIsEnoughFor_117, e_Dk_thereIsEnoughFor_120, e_Dk_thereIsEnoughFor_123, e_Dk_thereIsEnoughFor_125, e_Dk_thereIsEnoughFor_126, e_Dk_thereIsEnoughFor_129, e_Dk_thereIsEnoughFor_132, e_Dk_thereIsEnoughFor_133, e_Dk_thereIsEnoughFor_136, e_Dk_thereIsEnoughFor_137, if_pos hle, enF, Int.add_zero]
    grind
  | succ n ih =>
    intro i a a6 a7 h0 h1 h2 h3
    have hle : ¬ gI σ 6 0 2 ≤ i := by omega
    have hri := hr i h0 (by omega)
    rw [e_Dk_thereIsEnoughFor_23]
    simp (disch := omega) only [e_Dk_thereIsEnoughFor_0, e_Dk_thereIsEnoughFor_1, e_Dk_thereIsEnoughFor_4, e_Dk_thereIsEnoughFor_7, e_Dk_thereIsEnoughFor_8, e_Dk_thereIsEnoughFor_9, e_Dk_thereIsEnoughFor_12, e_Dk_thereIsEnoughFor_13, e_Dk_thereIsEnoughFor_16, e_Dk_thereIsEnoughFor_17, e_Dk_thereIsEnoughFor_18, e_Dk_thereIsEnoughFor_20, e_Dk_thereIsEnoughFor_21, e_Dk_thereIsEnoughFor_25, e_Dk_thereIsEnoughFor_26, e_Dk_thereIsEnoughFor_29, e_Dk_thereIsEnoughFor_32, e_Dk_thereIsEnoughFor_35, e_Dk_thereIsEnoughFor_36, e_Dk_thereIsEnoughFor_39, e_Dk_thereIsEnoughFor_42, e_Dk_thereIsEnoughFor_44, e_Dk_thereIsEnoughFor_45, e_Dk_thereIsEnoughFor_47, e_Dk_thereIsEnoughFor_48, e_Dk_thereIsEnoughFor_51, e_Dk_thereIsEnoughFor_54, e_Dk_thereIsEnoughFor_57, e_Dk_thereIsEnoughFor_59, e_Dk_thereIsEnoughFor_62, e_Dk_thereIsEnoughFor_63, e_Dk_thereIsEnoughFor_66, e_Dk_thereIsEnoughFor_69, e_Dk_thereIsEnoughFor_70, e_Dk_thereIsEnoughFor_73, e_Dk_thereIsEnoughFor_74, e_Dk_thereIsEnoughFor_76, e_Dk_thereIsEnoughFor_78, e_Dk_thereIsEnoughFor_79, e_Dk_thereIsEnoughFor_82, e_Dk_thereIsEnoughFor_85, e_Dk_thereIsEnoughFor_87, e_Dk_thereIsEnoughFor_90, e_Dk_thereIsEnoughFor_91, e_Dk_thereIsEnoughFor_93, e_Dk_thereIsEnoughFor_94, e_Dk_thereIsEnoughFor_97, e_Dk_thereIsEnoughFor_98, e_Dk_thereIsEnoughFor_101, e_Dk_thereIsEnoughFor_104, e_Dk_thereIsEnoughFor_107, e_Dk_thereIsEnoughFor_109, e_Dk_thereIsEnoughFor_111, e_Dk_thereIsEnoughFor_114, e_Dk_thereIsEnoughFor_115, e_Dk_thereIsEnoughFor_117, e_Dk_thereIsEnoughFor_120, e_Dk_thereIsEnoughFor_123, e_Dk_thereIsEnoughFor_125, e_Dk_thereIsEnoughFor_126, e_Dk_thereIsEnoughFor_129, e_Dk_thereIsEnoughFor_132, e_Dk_thereIsEnoughFor_133, e_Dk_thereIsEnoughFor_136, e_Dk_thereIsEnoughFor_137, if_neg hle, Int.mul_zero, Int.zero_add, wr_id, c_Ord_restsOn, c_Ord_priceBy, c_Dk_isWithin, evK_i, b01, one_ne, if_true, if_false, ih]
    rw [enF]
    grind
abbrev enou (σ : aM) (c : Int) : Prop := gI σ 8 c 4 ≤ enF σ c (oth (gI σ 8 c 3)) (bsP σ (oth (gI σ 8 c 3))) (gI σ 6 0 2).toNat 0
theorem c_Dk_enough (c B : Int) (σ : aM) (h : CO σ B) (hr : RG σ) : ev 22 0 [aR 5 0, aR 8 c, aU, aU, aU, aU, aU, aU] [] σ = some (some (aI (if enou σ c then 1 else 0)), σ) := by
  have hl := fun a6 a7 => l_Dk_enough σ c (oth (gI σ 8 c 3)) (bsP σ (oth (gI σ 8 c 3))) B h hr (bsP_rg h hr) (gI σ 6 0 2).toNat 0 0 a6 a7 (by omega) (by have := h.1.1; omega) (by omega) (by omega)
  have ho := c_Ub_otherSide (gI σ 8 c 3) σ
  rw [show (if gI σ 8 c 3 = 0 then (1 : Int) else 0) = oth (gI σ 8 c 3) from rfl] at ho
  have h1 := h.1.1
  have h2 := h.1.2
  simp (disch := omega) only [e_Dk_thereIsEnoughFor_0, e_Dk_thereIsEnoughFor_1, e_Dk_thereIsEnoughFor_4, e_Dk_thereIsEnoughFor_7, e_Dk_thereIsEnoughFor_8, e_Dk_thereIsEnoughFor_9, e_Dk_thereIsEnoughFor_12, e_Dk_thereIsEnoughFor_13, e_Dk_thereIsEnoughFor_16, e_Dk_thereIsEnoughFor_17, e_Dk_thereIsEnoughFor_18, e_Dk_thereIsEnoughFor_20, e_Dk_thereIsEnoughFor_21, e_Dk_thereIsEnoughFor_25, e_Dk_thereIsEnoughFor_26, e_Dk_thereIsEnoughFor_29, e_Dk_thereIsEnoughFor_32, e_Dk_thereIsEnoughFor_35, e_Dk_thereIsEnoughFor_36, e_Dk_thereIsEnoughFor_39, e_Dk_thereIsEnoughFor_42, e_Dk_thereIsEnoughFor_44, e_Dk_thereIsEnoughFor_45, e_Dk_thereIsEnoughFor_47, e_Dk_thereIsEnoughFor_48, e_Dk_thereIsEnoughFor_51, e_Dk_thereIsEnoughFor_54, e_Dk_thereIsEnoughFor_57, e_Dk_thereIsEnoughFor_59, e_Dk_thereIsEnoughFor_62, e_Dk_thereIsEnoughFor_63, e_Dk_thereIsEnoughFor_66, e_Dk_thereIsEnoughFor_69, e_Dk_thereIsEnoughFor_70, e_Dk_thereIsEnoughFor_73, e_Dk_thereIsEnoughFor_74, e_Dk_thereIsEnoughFor_76, e_Dk_thereIsEnoughFor_78, e_Dk_thereIsEnoughFor_79, e_Dk_thereIsEnoughFor_82, e_Dk_thereIsEnoughFor_85, e_Dk_thereIsEnoughFor_87, e_Dk_thereIsEnoughFor_90, e_Dk_thereIsEnoughFor_91, e_Dk_thereIsEnoughFor_93, e_Dk_thereIsEnoughFor_94, e_Dk_thereIsEnoughFor_97, e_Dk_thereIsEnoughFor_98, e_Dk_thereIsEnoughFor_101, e_Dk_thereIsEnoughFor_104, e_Dk_thereIsEnoughFor_107, e_Dk_thereIsEnoughFor_109, e_Dk_thereIsEnoughFor_111, e_Dk_thereIsEnoughFor_114, e_Dk_thereIsEnoughFor_115, e_Dk_thereIsEnoughFor_117, e_Dk_thereIsEnoughFor_120, e_Dk_thereIsEnoughFor_123, e_Dk_thereIsEnoughFor_125, e_Dk_thereIsEnoughFor_126, e_Dk_thereIsEnoughFor_129, e_Dk_thereIsEnoughFor_132, e_Dk_thereIsEnoughFor_133, e_Dk_thereIsEnoughFor_136, e_Dk_thereIsEnoughFor_137, ho, evK_i, c_Bk_bestPrice, hl, Int.zero_add]
/-- a new one enters: it goes in when it is open, and rests -/
def kEn (σ : aM) (c : Int) : aM :=
  let σ1 := if gI σ 6 0 3 = 1 then kGo 1059 σ c (gI σ 8 c 7) else σ
  if gI σ1 8 c 5 = 4 then kRs σ1 c else σ1
theorem c_Dk_enter (c B : Int) (σ : aM) (h : CO σ B) (hB : B + 1059 < 2147483647) (hc0 : 0 ≤ c) (hc1 : c ≤ 120) : ev 18 0 [aR 5 0, aR 8 c] [] σ = some (none, kEn σ c) := by
  unfold kEn
  have hg := fun l => c_Dk_goIn c l B σ h hB hc0 hc1
  by_cases hp : gI σ 6 0 3 = 1
  · simp (disch := omega) only [e_Dk_enter_0, e_Dk_enter_1, e_Dk_enter_4, e_Dk_enter_7, e_Dk_enter_8, e_Dk_enter_11, e_Dk_enter_12, e_Dk_enter_13, e_Dk_enter_14, e_Dk_enter_17, e_Dk_enter_20, e_Dk_enter_21, e_Dk_enter_24, e_Dk_enter_25, e_Dk_enter_28, e_Dk_enter_29, e_Dk_enter_32, e_Dk_enter_33, e_Dk_enter_36, hp, hg, c_Bk_rest, evK_v, not_true_eq_false, if_false, if_true]
    grind
  · simp (disch := omega) only [e_Dk_enter_0, e_Dk_enter_1, e_Dk_enter_4, e_Dk_enter_7, e_Dk_enter_8, e_Dk_enter_11, e_Dk_enter_12, e_Dk_enter_13, e_Dk_enter_14, e_Dk_enter_17, e_Dk_enter_20, e_Dk_enter_21, e_Dk_enter_24, e_Dk_enter_25, e_Dk_enter_28, e_Dk_enter_29, e_Dk_enter_32, e_Dk_enter_33, e_Dk_enter_36, hp, c_Bk_rest, evK_v, not_false_eq_true, if_true, if_false]
    grind
theorem kEn_fr (σ : aM) (c : Int) : Fr σ (kEn σ c) := by
  unfold kEn
  have h1 : Fr σ (if gI σ 6 0 3 = 1 then kGo 1059 σ c (gI σ 8 c 7) else σ) := by
    split
    · exact kGo_fr _ _ _ _
    · exact Fr.rfl σ
  generalize (if gI σ 6 0 3 = 1 then kGo 1059 σ c (gI σ 8 c 7) else σ) = τ at h1
  show Fr σ (if gI τ 8 c 5 = 4 then kRs τ c else τ)
  split
  · exact h1.trans (kRs_fr _ _)
  · exact h1
theorem kEn_CO {σ : aM} {B : Int} (h : CO σ B) (hB : B + 1059 < 2147483647) (c : Int) : CO (kEn σ c) (B + 1059) := by
  unfold kEn
  have h1 : CO (if gI σ 6 0 3 = 1 then kGo 1059 σ c (gI σ 8 c 7) else σ) (B + 1059) := by
    split
    · exact kGo_CO 1059 _ _ _ _ h hB
    · exact h.mono (by omega)
  generalize (if gI σ 6 0 3 = 1 then kGo 1059 σ c (gI σ 8 c 7) else σ) = τ at h1
  show CO (if gI τ 8 c 5 = 4 then kRs τ c else τ) (B + 1059)
  split
  · exact h1.same (kRs_fr _ _) (kRs_T _ _)
  · exact h1
def kTr (σ : aM) (c how : Int) : aM := kEu (if gI σ 6 0 3 = 1 ∧ (how = 1 ∨ enou σ c) then kGo 1059 σ c (gI σ 8 c 7) else σ) c
theorem c_Dk_tryAtOnce (c how B : Int) (σ : aM) (h : CO σ B) (hr : RG σ) (hB : B + 1059 < 2147483647) (hc0 : 0 ≤ c) (hc1 : c ≤ 120) : ev 19 0 [aR 5 0, aR 8 c, aI how] [] σ = some (none, kTr σ c how) := by
  unfold kTr
  have hg := fun l => c_Dk_goIn c l B σ h hB hc0 hc1
  have he := c_Dk_enough c B σ h hr
  by_cases hp : gI σ 6 0 3 = 1
  · by_cases hw : how = 1
    · simp (disch := omega) only [e_Dk_tryAtOnce_0, e_Dk_tryAtOnce_1, e_Dk_tryAtOnce_4, e_Dk_tryAtOnce_7, e_Dk_tryAtOnce_8, e_Dk_tryAtOnce_11, e_Dk_tryAtOnce_12, e_Dk_tryAtOnce_13, e_Dk_tryAtOnce_16, e_Dk_tryAtOnce_17, e_Dk_tryAtOnce_18, e_Dk_tryAtOnce_21, e_Dk_tryAtOnce_24, e_Dk_tryAtOnce_25, e_Dk_tryAtOnce_26, e_Dk_tryAtOnce_27, e_Dk_tryAtOnce_30, e_Dk_tryAtOnce_33, e_Dk_tryAtOnce_34, e_Dk_tryAtOnce_37, hp, hw, hg, c_Dk_endUnrested, evK_v, evK_i, not_true_eq_false, if_false, if_true, true_or, and_self]
    · by_cases hen : enou σ c
      · simp (disch := omega) only [e_Dk_tryAtOnce_0, e_Dk_tryAtOnce_1, e_Dk_tryAtOnce_4, e_Dk_tryAtOnce_7, e_Dk_tryAtOnce_8, e_Dk_tryAtOnce_11, e_Dk_tryAtOnce_12, e_Dk_tryAtOnce_13, e_Dk_tryAtOnce_16, e_Dk_tryAtOnce_17, e_Dk_tryAtOnce_18, e_Dk_tryAtOnce_21, e_Dk_tryAtOnce_24, e_Dk_tryAtOnce_25, e_Dk_tryAtOnce_26, e_Dk_tryAtOnce_27, e_Dk_tryAtOnce_30, e_Dk_tryAtOnce_33, e_Dk_tryAtOnce_34, e_Dk_tryAtOnce_37, hp, hw, hg, he, if_pos hen, one_ne, c_Dk_endUnrested, evK_v, evK_i, not_true_eq_false, if_false, if_true]
        rw [if_pos ⟨trivial, Or.inr hen⟩]
      · simp (disch := omega) only [e_Dk_tryAtOnce_0, e_Dk_tryAtOnce_1, e_Dk_tryAtOnce_4, e_Dk_tryAtOnce_7, e_Dk_tryAtOnce_8, e_Dk_tryAtOnce_11, e_Dk_tryAtOnce_12, e_Dk_tryAtOnce_13, e_Dk_tryAtOnce_16, e_Dk_tryAtOnce_17, e_Dk_tryAtOnce_18, e_Dk_tryAtOnce_21, e_Dk_tryAtOnce_24, e_Dk_tryAtOnce_25, e_Dk_tryAtOnce_26, e_Dk_tryAtOnce_27, e_Dk_tryAtOnce_30, e_Dk_tryAtOnce_33, e_Dk_tryAtOnce_34, e_Dk_tryAtOnce_37, hp, hw, hg, he, if_neg hen, c_Dk_endUnrested, evK_v, evK_i, not_true_eq_false, if_false, if_true]
        rw [if_neg (fun q => q.2.elim (fun z => z.elim) hen)]
  · simp (disch := omega) only [e_Dk_tryAtOnce_0, e_Dk_tryAtOnce_1, e_Dk_tryAtOnce_4, e_Dk_tryAtOnce_7, e_Dk_tryAtOnce_8, e_Dk_tryAtOnce_11, e_Dk_tryAtOnce_12, e_Dk_tryAtOnce_13, e_Dk_tryAtOnce_16, e_Dk_tryAtOnce_17, e_Dk_tryAtOnce_18, e_Dk_tryAtOnce_21, e_Dk_tryAtOnce_24, e_Dk_tryAtOnce_25, e_Dk_tryAtOnce_26, e_Dk_tryAtOnce_27, e_Dk_tryAtOnce_30, e_Dk_tryAtOnce_33, e_Dk_tryAtOnce_34, e_Dk_tryAtOnce_37, hp, c_Dk_endUnrested, evK_v, not_false_eq_true, if_true, if_false, false_and]
theorem kTr_fr (σ : aM) (c how : Int) : Fr σ (kTr σ c how) := by
  unfold kTr
  refine Fr.trans ?_ (kEu_fr _ _)
  split
  · exact kGo_fr _ _ _ _
  · exact Fr.rfl σ
theorem kTr_CO {σ : aM} {B : Int} (h : CO σ B) (hB : B + 1059 < 2147483647) (c how : Int) : CO (kTr σ c how) (B + 1059) := by
  unfold kTr
  refine CO.same ?_ (kEu_fr _ _) (kEu_T _ _)
  split
  · exact kGo_CO 1059 _ _ _ _ h hB
  · exact h.mono (by omega)
/-! stops -/
abbrev rch (σ : aM) (i : Int) : Prop := ¬ gI σ 9 0 4 = 0 ∧ ((gI σ 8 i 3 = 0 ∧ gI σ 8 i 7 ≤ gI σ 9 0 4) ∨ (¬ gI σ 8 i 3 = 0 ∧ gI σ 9 0 4 ≤ gI σ 8 i 7))
theorem c_Dk_isReached (i : Int) (σ : aM) : ev 32 0 [aR 5 0, aR 8 i, aU] [] σ = some (some (aI (if rch σ i then 1 else 0)), σ) := by
  simp (disch := omega) only [e_Dk_isReached_0, e_Dk_isReached_1, e_Dk_isReached_4, e_Dk_isReached_7, e_Dk_isReached_10, e_Dk_isReached_11, e_Dk_isReached_12, e_Dk_isReached_15, e_Dk_isReached_16, e_Dk_isReached_17, e_Dk_isReached_18, e_Dk_isReached_21, e_Dk_isReached_24, e_Dk_isReached_25, e_Dk_isReached_26, e_Dk_isReached_29, e_Dk_isReached_32, e_Dk_isReached_33, e_Dk_isReached_36, e_Dk_isReached_37, e_Dk_isReached_40, e_Dk_isReached_41, e_Dk_isReached_42, e_Dk_isReached_45, e_Dk_isReached_48, e_Dk_isReached_49, e_Dk_isReached_52, e_Dk_isReached_53]
  grind
abbrev rcS (σ : aM) (i : Int) : Prop := gI σ 8 i 1 = 4 ∧ gI σ 8 i 5 = 0 ∧ rch σ i
def rcF (σ : aM) : Nat → Int → Option Int
  | 0, _ => none
  | n + 1, i => if rcS σ i then some i else rcF σ n (i + 1)
def rcN (σ : aM) : Option Int := rcF σ (gI σ 6 0 2).toNat 0
theorem l_Dk_firstReached (σ : aM) (hc : gI σ 6 0 2 ≤ 60) : ∀ (n : Nat) (i : Int) (a2 : AV), 0 ≤ i → i + n = gI σ 6 0 2 → ev 31 2 [aR 5 0, aI i, a2] [] σ = some (some (oqq (rcF σ n i)), σ) := by
  intro n
  induction n with
  | zero =>
    intro i a2 h0 h1
    have hle : gI σ 6 0 2 ≤ i := by omega
    rw [e_Dk_firstReachedStop_2]
    simp (disch := omega) only [e_Dk_firstReachedStop_0, e_Dk_firstReachedStop_1, e_Dk_firstReachedStop_3, e_Dk_firstReachedStop_4, e_Dk_firstReachedStop_7, e_Dk_firstReachedStop_10, e_Dk_firstReachedStop_13, e_Dk_firstReachedStop_14, e_Dk_firstReachedStop_17, e_Dk_firstReachedStop_20, e_Dk_firstReachedStop_21, e_Dk_firstReachedStop_22, e_Dk_firstReachedStop_23, e_Dk_firstReachedStop_24, e_Dk_firstReachedStop_27, e_Dk_firstReachedStop_28, e_Dk_firstReachedStop_31, e_Dk_firstReachedStop_32, e_Dk_firstReachedStop_35, e_Dk_firstReachedStop_38, e_Dk_firstReachedStop_39, e_Dk_firstReachedStop_40, e_Dk_firstReachedStop_43, e_Dk_firstReachedStop_46, e_Dk_firstReachedStop_47, e_Dk_firstReachedStop_48, e_Dk_firstReachedStop_51, e_Dk_firstReachedStop_54, e_Dk_firstReachedStop_55, if_pos hle]
    rfl
  | succ n ih =>
    intro i a2 h0 h1
    have hle : ¬ gI σ 6 0 2 ≤ i := by omega
    rw [e_Dk_firstReachedStop_2]
    simp (disch := omega) only [e_Dk_firstReachedStop_0, e_Dk_firstReachedStop_1, e_Dk_firstReachedStop_3, e_Dk_firstReachedStop_4, e_Dk_firstReachedStop_7, e_Dk_firstReachedStop_10, e_Dk_firstReachedStop_13, e_Dk_firstReachedStop_14, e_Dk_firstReachedStop_17, e_Dk_firstReachedStop_20, e_Dk_firstReachedStop_21, e_Dk_firstReachedStop_22, e_Dk_firstReachedStop_23, e_Dk_firstReachedStop_24, e_Dk_firstReachedStop_27, e_Dk_firstReachedStop_28, e_Dk_firstReachedStop_31, e_Dk_firstReachedStop_32, e_Dk_firstReachedStop_35, e_Dk_firstReachedStop_38, e_Dk_firstReachedStop_39, e_Dk_firstReachedStop_40, e_Dk_firstReachedStop_43, e_Dk_firstReachedStop_46, e_Dk_firstReachedStop_47, e_Dk_firstReachedStop_48, e_Dk_firstReachedStop_51, e_Dk_firstReachedStop_54, e_Dk_firstReachedStop_55, if_neg hle, Int.mul_zero, Int.zero_add, wr_id, c_Dk_isReached, evK_i, b01, ih]
    rw [rcF]
    by_cases h : rcS σ i
    · rw [if_pos h]
      simp only [h.1, h.2.1, h.2.2.1, not_true_eq_false, if_false, and_self, not_false_eq_true, true_and]
      have h3 := h.2.2.2
      grind
    · rw [if_neg h]
      grind
theorem c_Dk_firstReachedStop (σ : aM) (h0 : 0 ≤ gI σ 6 0 2) (hc : gI σ 6 0 2 ≤ 60) : ev 31 0 [aR 5 0, aU, aU] [] σ = some (some (oqq (rcN σ)), σ) := by
  have h := fun a2 => l_Dk_firstReached σ hc (gI σ 6 0 2).toNat 0 a2 (by omega) (by omega)
  simp (disch := omega) only [e_Dk_firstReachedStop_0, e_Dk_firstReachedStop_1, e_Dk_firstReachedStop_3, e_Dk_firstReachedStop_4, e_Dk_firstReachedStop_7, e_Dk_firstReachedStop_10, e_Dk_firstReachedStop_13, e_Dk_firstReachedStop_14, e_Dk_firstReachedStop_17, e_Dk_firstReachedStop_20, e_Dk_firstReachedStop_21, e_Dk_firstReachedStop_22, e_Dk_firstReachedStop_23, e_Dk_firstReachedStop_24, e_Dk_firstReachedStop_27, e_Dk_firstReachedStop_28, e_Dk_firstReachedStop_31, e_Dk_firstReachedStop_32, e_Dk_firstReachedStop_35, e_Dk_firstReachedStop_38, e_Dk_firstReachedStop_39, e_Dk_firstReachedStop_40, e_Dk_firstReachedStop_43, e_Dk_firstReachedStop_46, e_Dk_firstReachedStop_47, e_Dk_firstReachedStop_48, e_Dk_firstReachedStop_51, e_Dk_firstReachedStop_54, e_Dk_firstReachedStop_55, h]
  rfl
theorem rcF_in (σ : aM) : ∀ (n : Nat) (i j : Int), rcF σ n i = some j → i ≤ j ∧ j < i + n ∧ rcS σ j := by
  intro n
  induction n with
  | zero => intro i j h; cases h
  | succ n ih =>
    intro i j h
    rw [rcF] at h
    split at h
    · rename_i hc
      cases h
      exact ⟨by omega, by omega, hc⟩
    · obtain ⟨h1, h2, h3⟩ := ih _ _ h
      exact ⟨by omega, by omega, h3⟩
/-- a stop that is reached goes in -/
def kS1 (σ : aM) (j : Int) : aM := kEu (kGo 1059 (uI σ 8 j 5 4) j (if gI σ 8 j 3 = 0 then 999 else 1)) j
theorem kS1_fr (σ : aM) (j : Int) : Fr σ (kS1 σ j) := (((Fr.rfl σ).u (by simp [chg])).trans (kGo_fr _ _ _ _)).trans (kEu_fr _ _)
theorem uI5_CO {σ : aM} {B : Int} (h : CO σ B) (j v : Int) : CO (uI σ 8 j 5 v) B := h.same ((Fr.rfl σ).u (by simp [chg])) (by simp (disch := omega) only [gI_self, gI_nt, gI_nj, gL_uI, gR_uI, gI_uL, gR_uL, gI_uR, gL_uR])
theorem kS1_CO {σ : aM} {B : Int} (h : CO σ B) (hB : B + 1059 < 2147483647) (j : Int) : CO (kS1 σ j) (B + 1059) := (kGo_CO 1059 _ _ _ _ (uI5_CO h j 4) hB).same (kEu_fr _ _) (kEu_T _ _)
def kWk : Nat → aM → aM
  | 0, σ => σ
  | n + 1, σ => match rcN σ with
    | none => σ
    | some j => kWk n (kS1 σ j)
theorem kWk_fr : ∀ (n : Nat) (σ : aM), Fr σ (kWk n σ) := by
  intro n
  induction n with
  | zero => intro σ; exact Fr.rfl σ
  | succ n ih =>
    intro σ
    rw [kWk]
    split
    · exact Fr.rfl σ
    · exact (kS1_fr _ _).trans (ih _)
theorem kWk_CO : ∀ (n : Nat) (σ : aM) (B : Int), CO σ B → B + 1059 * n < 2147483647 → CO (kWk n σ) (B + 1059 * n) := by
  intro n
  induction n with
  | zero => intro σ B h _; exact h.mono (by omega)
  | succ n ih =>
    intro σ B h hB
    rw [kWk]
    split
    · exact h.mono (by omega)
    · rename_i j _
      exact (ih (kS1 σ j) (B + 1059) (kS1_CO h (by omega) j) (by omega)).mono (by omega)
theorem l_Dk_wake : ∀ (n : Nat) (σ : aM) (i B : Int) (a2 : AV), CO σ B → B + 1059 * n < 2147483647 → 0 ≤ i → i + n = 60 → ev 30 14 [aR 5 0, aI i, a2] [] σ = some (none, kWk n σ) := by
  intro n
  induction n with
  | zero =>
    intro σ i B a2 h hB h0 h1
    have hle : 60 ≤ i := by omega
    rw [e_Dk_wakeStops_14]
    simp (disch := omega) only [e_Dk_wakeStops_0, e_Dk_wakeStops_1, e_Dk_wakeStops_4, e_Dk_wakeStops_7, e_Dk_wakeStops_8, e_Dk_wakeStops_11, e_Dk_wakeStops_12, e_Dk_wakeStops_13, e_Dk_wakeStops_15, e_Dk_wakeStops_17, e_Dk_wakeStops_20, e_Dk_wakeStops_21, e_Dk_wakeStops_24, e_Dk_wakeStops_25, e_Dk_wakeStops_26, e_Dk_wakeStops_29, e_Dk_wakeStops_30, e_Dk_wakeStops_31, e_Dk_wakeStops_32, e_Dk_wakeStops_35, e_Dk_wakeStops_36, e_Dk_wakeStops_37, e_Dk_wakeStops_38, e_Dk_wakeStops_41, e_Dk_wakeStops_44, e_Dk_wakeStops_47, e_Dk_wakeStops_48, e_Dk_wakeStops_51, e_Dk_wakeStops_54, e_Dk_wakeStops_57, if_pos hle]
    rfl
  | succ n ih =>
    intro σ i B a2 h hB h0 h1
    have hle : ¬ 60 ≤ i := by omega
    have hc := h.1
    rw [e_Dk_wakeStops_14, kWk]
    cases hj : rcN σ with
    | none => simp (disch := omega) only [e_Dk_wakeStops_0, e_Dk_wakeStops_1, e_Dk_wakeStops_4, e_Dk_wakeStops_7, e_Dk_wakeStops_8, e_Dk_wakeStops_11, e_Dk_wakeStops_12, e_Dk_wakeStops_13, e_Dk_wakeStops_15, e_Dk_wakeStops_17, e_Dk_wakeStops_20, e_Dk_wakeStops_21, e_Dk_wakeStops_24, e_Dk_wakeStops_25, e_Dk_wakeStops_26, e_Dk_wakeStops_29, e_Dk_wakeStops_30, e_Dk_wakeStops_31, e_Dk_wakeStops_32, e_Dk_wakeStops_35, e_Dk_wakeStops_36, e_Dk_wakeStops_37, e_Dk_wakeStops_38, e_Dk_wakeStops_41, e_Dk_wakeStops_44, e_Dk_wakeStops_47, e_Dk_wakeStops_48, e_Dk_wakeStops_51, e_Dk_wakeStops_54, e_Dk_wakeStops_57, if_neg hle, c_Dk_firstReachedStop, evK_i, hj, Option.map_none, not_true_eq_false, if_false]
    | some j =>
      have hji := rcF_in _ _ _ _ hj
      have hg := c_Dk_goIn j (if gI σ 8 j 3 = 0 then 999 else 1) B (uI σ 8 j 5 4) (uI5_CO h j 4) (by omega) (by omega) (by omega)
      have ih' := fun a2 => ih (kS1 σ j) (i + 1) (B + 1059) a2 (kS1_CO h (by omega) j) (by omega) (by omega) (by omega)
      have e1 : gI (uI σ 8 j 5 4) 8 j 3 = gI σ 8 j 3 := by simp (disch := omega) only [gI_self, gI_nt, gI_nj, gL_uI, gR_uI, gI_uL, gR_uL, gI_uR, gL_uR]
      unfold kS1 at ih'
      simp (disch := omega) only [e_Dk_wakeStops_0, e_Dk_wakeStops_1, e_Dk_wakeStops_4, e_Dk_wakeStops_7, e_Dk_wakeStops_8, e_Dk_wakeStops_11, e_Dk_wakeStops_12, e_Dk_wakeStops_13, e_Dk_wakeStops_15, e_Dk_wakeStops_17, e_Dk_wakeStops_20, e_Dk_wakeStops_21, e_Dk_wakeStops_24, e_Dk_wakeStops_25, e_Dk_wakeStops_26, e_Dk_wakeStops_29, e_Dk_wakeStops_30, e_Dk_wakeStops_31, e_Dk_wakeStops_32, e_Dk_wakeStops_35, e_Dk_wakeStops_36, e_Dk_wakeStops_37, e_Dk_wakeStops_38, e_Dk_wakeStops_41, e_Dk_wakeStops_44, e_Dk_wakeStops_47, e_Dk_wakeStops_48, e_Dk_wakeStops_51, e_Dk_wakeStops_54, e_Dk_wakeStops_57, if_neg hle, c_Dk_firstReachedStop, evK_i, evK_v, hj, Option.map_some, reduceCtorEq, not_false_eq_true, if_true, e1, c_Dk_noLimit, hg, c_Dk_endUnrested, wr_id, ih']
      rfl
def kWs (σ : aM) : aM := if gI σ 6 0 3 = 1 then kWk 60 σ else σ
theorem c_Dk_wakeStops (B : Int) (σ : aM) (h : CO σ B) (hB : B + 63540 < 2147483647) : ev 30 0 [aR 5 0, aU, aU] [] σ = some (none, kWs σ) := by
  unfold kWs
  by_cases hp : gI σ 6 0 3 = 1
  · have hl := fun a2 => l_Dk_wake 60 σ 0 B a2 h (by omega) (by omega) (by omega)
    simp (disch := omega) only [e_Dk_wakeStops_0, e_Dk_wakeStops_1, e_Dk_wakeStops_4, e_Dk_wakeStops_7, e_Dk_wakeStops_8, e_Dk_wakeStops_11, e_Dk_wakeStops_12, e_Dk_wakeStops_13, e_Dk_wakeStops_15, e_Dk_wakeStops_17, e_Dk_wakeStops_20, e_Dk_wakeStops_21, e_Dk_wakeStops_24, e_Dk_wakeStops_25, e_Dk_wakeStops_26, e_Dk_wakeStops_29, e_Dk_wakeStops_30, e_Dk_wakeStops_31, e_Dk_wakeStops_32, e_Dk_wakeStops_35, e_Dk_wakeStops_36, e_Dk_wakeStops_37, e_Dk_wakeStops_38, e_Dk_wakeStops_41, e_Dk_wakeStops_44, e_Dk_wakeStops_47, e_Dk_wakeStops_48, e_Dk_wakeStops_51, e_Dk_wakeStops_54, e_Dk_wakeStops_57, hp, if_true, hl]
  · simp (disch := omega) only [e_Dk_wakeStops_0, e_Dk_wakeStops_1, e_Dk_wakeStops_4, e_Dk_wakeStops_7, e_Dk_wakeStops_8, e_Dk_wakeStops_11, e_Dk_wakeStops_12, e_Dk_wakeStops_13, e_Dk_wakeStops_15, e_Dk_wakeStops_17, e_Dk_wakeStops_20, e_Dk_wakeStops_21, e_Dk_wakeStops_24, e_Dk_wakeStops_25, e_Dk_wakeStops_26, e_Dk_wakeStops_29, e_Dk_wakeStops_30, e_Dk_wakeStops_31, e_Dk_wakeStops_32, e_Dk_wakeStops_35, e_Dk_wakeStops_36, e_Dk_wakeStops_37, e_Dk_wakeStops_38, e_Dk_wakeStops_41, e_Dk_wakeStops_44, e_Dk_wakeStops_47, e_Dk_wakeStops_48, e_Dk_wakeStops_51, e_Dk_wakeStops_54, e_Dk_wakeStops_57, hp, if_false]
theorem kWs_fr (σ : aM) : Fr σ (kWs σ) := by
  unfold kWs
  split
  · exact kWk_fr _ _
  · exact Fr.rfl σ
theorem kWs_CO {σ : aM} {B : Int} (h : CO σ B) (hB : B + 63540 < 2147483647) : CO (kWs σ) (B + 63540) := by
  unfold kWs
  split
  · exact (kWk_CO 60 σ B h (by omega)).mono (by omega)
  · exact h.mono (by omega)
