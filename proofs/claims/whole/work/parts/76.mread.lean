/-! the reference's reader: letters, numbers -/
def TX (σ : aM) (g : Int → Int) (N : Int) : Prop := (0 ≤ gI σ 25 0 15 ∧ gI σ 25 0 15 < 8) ∧ gI σ 30 0 (gI σ 25 0 15) = N ∧ (0 ≤ N ∧ N ≤ 160) ∧ (∀ p, 0 ≤ p → p < N → toi (gL σ 31 0 (160 * gI σ 25 0 15 + p)) = g p) ∧ ∀ p, N ≤ p → g p = -1
def FrX (σ τ : aM) : Prop := τ.2 = σ.2 ∧ ∀ t i j, ¬ (t = 26 ∨ (t = 25 ∧ ((9 ≤ j ∧ j ≤ 14) ∨ (16 ≤ j ∧ j ≤ 18)))) → gI τ t i j = gI σ t i j
theorem FrX.rfl (σ : aM) : FrX σ σ := ⟨Eq.refl _, fun _ _ _ _ => Eq.refl _⟩
theorem FrX.trans {a b c : aM} (h1 : FrX a b) (h2 : FrX b c) : FrX a c := ⟨h2.1.trans h1.1, fun t i j h => (h2.2 t i j h).trans (h1.2 t i j h)⟩
theorem FrX.u {σ τ : aM} (h : FrX σ τ) {t : Nat} (i j v : Int) (ht : t = 26 ∨ (t = 25 ∧ ((9 ≤ j ∧ j ≤ 14) ∨ (16 ≤ j ∧ j ≤ 18)))) : FrX σ (uI τ t i j v) := ⟨h.1, fun t' i' j' h1 => by
  rw [gI_uI, if_neg (fun q => h1 (by obtain ⟨rfl, rfl, rfl⟩ := q; exact ht))]
  exact h.2 t' i' j' h1⟩
theorem FrM.X {σ τ : aM} (h : FrM σ τ) : FrX σ τ := ⟨h.1, fun t i j h1 => h.2 t i j (fun q => h1 (by omega))⟩
theorem TX.to {σ τ : aM} {g : Int → Int} {N : Int} (h : TX σ g N) (hf : FrX σ τ) : TX τ g N := by
  unfold TX at h ⊢
  rw [hf.2 25 0 15 (by omega), hf.2 30 0 _ (by omega)]
  refine ⟨h.1, h.2.1, h.2.2.1, fun p p0 p1 => ?_, h.2.2.2.2⟩
  rw [gL_of2 hf.1]
  exact h.2.2.2.1 p p0 p1
abbrev spA (σ : aM) (p : Int) : aM := uI σ 25 0 16 p
abbrev spW (σ : aM) (p k : Int) : aM := uI (uI (uI σ 25 0 16 p) 25 0 18 k) 25 0 17 1
/-- memories that differ in the place, the fault and its mark alone -/
def FrQ (σ τ : aM) : Prop := τ.2 = σ.2 ∧ ∀ t i j, ¬ (t = 25 ∧ 16 ≤ j ∧ j ≤ 18) → gI τ t i j = gI σ t i j
theorem FrQ.rfl (σ : aM) : FrQ σ σ := ⟨Eq.refl _, fun _ _ _ _ => Eq.refl _⟩
theorem FrQ.trans {a b c : aM} (h1 : FrQ a b) (h2 : FrQ b c) : FrQ a c := ⟨h2.1.trans h1.1, fun t i j h => (h2.2 t i j h).trans (h1.2 t i j h)⟩
theorem FrQ.u {σ τ : aM} (h : FrQ σ τ) (i j v : Int) (hj : 16 ≤ j ∧ j ≤ 18) : FrQ σ (uI τ 25 i j v) := ⟨h.1, fun t' i' j' h1 => by
  rw [gI_uI, if_neg (fun q => h1 (by omega))]
  exact h.2 t' i' j' h1⟩
theorem FrQ.X {σ τ : aM} (h : FrQ σ τ) : FrX σ τ := ⟨h.1, fun t i j h1 => h.2 t i j (fun q => h1 (by omega))⟩
theorem spA_X (σ : aM) (p : Int) : FrQ σ (spA σ p) := (FrQ.rfl σ).u _ _ _ (by omega)
theorem spW_X (σ : aM) (p k : Int) : FrQ σ (spW σ p k) := (((FrQ.rfl σ).u _ _ _ (by omega)).u _ _ _ (by omega)).u _ _ _ (by omega)
theorem c_Md_here {σ : aM} {g : Int → Int} {N p : Int} (h : TX σ g N) (hp : 0 ≤ p ∧ p < N) : ev 169 0 [aR 25 0] [] (spA σ p) = some (some (aI (g p)), spA σ p) := by
  obtain ⟨h1, h2, h3, h4, h5⟩ := h
  have e15 : gI (spA σ p) 25 0 15 = gI σ 25 0 15 := gI_nj _ _ _ _ _ _ _ _ (by decide)
  have e16 : gI (spA σ p) 25 0 16 = p := gI_self _ _ _ _ _
  have e30 : gI (spA σ p) 30 0 (gI σ 25 0 15) = N := by rw [gI_nt _ _ _ _ _ _ _ _ (by decide)]; exact h2
  have e31 : toi (gL (spA σ p) 31 0 (160 * gI σ 25 0 15 + p)) = g p := h4 p hp.1 hp.2
  simp (disch := omega) only [e_Md_here_0, e_Md_here_1, e_Md_here_4, e_Md_here_5, e_Md_here_8, e_Md_here_9, e_Md_here_12, e_Md_here_13, e_Md_here_16, e_Md_here_17, e_Md_here_20, e_Md_here_23, e_Md_here_24, e_Md_here_27, e_Md_here_28, e_Md_here_29, e_Md_here_32, e_Md_here_33, e_Md_here_34, e_Md_here_35, e_Md_here_38, e_Md_here_39, e15, e16, e30, if_neg (show ¬ N ≤ p by omega), wr_id, e31]
theorem c_Md_fails_ok (σ : aM) (p k : Int) (h : gI σ 25 0 17 = 0) : ev 170 0 [aR 25 0, aI k] [] (spA σ p) = some (none, spW σ p k) := by
  have e17 : gI (spA σ p) 25 0 17 = 0 := by rw [gI_nj _ _ _ _ _ _ _ _ (by decide)]; exact h
  simp (disch := omega) only [e_Md_fails_0, e_Md_fails_1, e_Md_fails_2, e_Md_fails_5, e_Md_fails_8, e_Md_fails_9, e_Md_fails_12, e_Md_fails_15, e_Md_fails_16, e_Md_fails_19, e_Md_fails_20, e_Md_fails_21, e_Md_fails_24, e17, if_true]
theorem c_Md_fails_bad (σ : aM) (k : Int) (h : gI σ 25 0 17 = 1) : ev 170 0 [aR 25 0, aI k] [] σ = some (none, σ) := by
  simp (disch := omega) only [e_Md_fails_0, e_Md_fails_1, e_Md_fails_2, e_Md_fails_5, e_Md_fails_8, e_Md_fails_9, e_Md_fails_12, e_Md_fails_15, e_Md_fails_16, e_Md_fails_19, e_Md_fails_20, e_Md_fails_21, e_Md_fails_24, h, one_ne, if_false]
  rw [uI_same σ 25 0 18 _ rfl, uI_same σ 25 0 17 1 h]
theorem c_Md_one_bad (σ : aM) (lo hi : Int) (h : gI σ 25 0 17 = 1) : ev 171 0 [aR 25 0, aI lo, aI hi] [] σ = some (some (aI lo), σ) := by
  have hf := fun k => c_Md_fails_bad σ k h
  simp (disch := omega) only [e_Md_one_0, e_Md_one_1, e_Md_one_4, e_Md_one_7, e_Md_one_8, e_Md_one_11, e_Md_one_12, e_Md_one_15, e_Md_one_16, e_Md_one_19, e_Md_one_20, e_Md_one_23, e_Md_one_24, e_Md_one_27, e_Md_one_28, e_Md_one_29, e_Md_one_32, e_Md_one_35, e_Md_one_36, e_Md_one_37, e_Md_one_40, e_Md_one_43, e_Md_one_44, h, one_ne, not_false_eq_true, if_true, hf, evK_v]
theorem c_Md_one_ok {σ : aM} {g : Int → Int} {N p lo hi : Int} (h : TX σ g N) (hw : gI σ 25 0 17 = 0) (hp : 0 ≤ p) (hlo : 0 ≤ lo) (hg : lo ≤ g p ∧ g p ≤ hi) : ev 171 0 [aR 25 0, aI lo, aI hi] [] (spA σ p) = some (some (aI (g p)), spA σ (p + 1)) ∧ p < N := by
  have hpN : p < N := Int.not_le.mp (fun z => by have := h.2.2.2.2 p z; omega)
  refine ⟨?_, hpN⟩
  have hh := c_Md_here h ⟨hp, hpN⟩
  obtain ⟨h1, h2, h3, h4, h5⟩ := h
  have e15 : ∀ p, gI (spA σ p) 25 0 15 = gI σ 25 0 15 := fun p => gI_nj _ _ _ _ _ _ _ _ (by decide)
  have e17 : gI (spA σ p) 25 0 17 = 0 := by rw [gI_nj _ _ _ _ _ _ _ _ (by decide)]; exact hw
  have e16 : ∀ p, gI (spA σ p) 25 0 16 = p := fun p => gI_self _ _ _ _ _
  have e30 : gI (spA σ p) 30 0 (gI σ 25 0 15) = N := by rw [gI_nt _ _ _ _ _ _ _ _ (by decide)]; exact h2
  have e31 : toi (gL (spA σ (p + 1)) 31 0 (160 * gI σ 25 0 15 + p)) = g p := h4 p hp hpN
  have hin := c_Md_in (g p) lo hi (spA σ p)
  rw [if_pos hg] at hin
  have eu : uI (spA σ p) 25 0 16 (p + 1) = spA σ (p + 1) := uI_uI _ _ _ _ _ _
  simp (disch := omega) only [e_Md_one_0, e_Md_one_1, e_Md_one_4, e_Md_one_7, e_Md_one_8, e_Md_one_11, e_Md_one_12, e_Md_one_15, e_Md_one_16, e_Md_one_19, e_Md_one_20, e_Md_one_23, e_Md_one_24, e_Md_one_27, e_Md_one_28, e_Md_one_29, e_Md_one_32, e_Md_one_45, e_Md_one_46, e_Md_one_47, e_Md_one_50, e_Md_one_51, e_Md_one_52, e_Md_one_55, e_Md_one_56, e_Md_one_59, e_Md_one_62, e_Md_one_63, e_Md_one_66, e_Md_one_67, e_Md_one_68, e_Md_one_71, e_Md_one_72, e_Md_one_73, e_Md_one_74, e_Md_one_75, e_Md_one_76, e17, not_true_eq_false, if_false, e15, e16, e30, if_neg (show ¬ N ≤ p by omega), hh, evK_i, hin, one_ne, not_false_eq_true, if_true, wr_id, eu, show 160 * gI σ 25 0 15 + (p + 1) - 1 = 160 * gI σ 25 0 15 + p by omega, e31]
theorem c_Md_one_no {σ : aM} {g : Int → Int} {N p lo hi : Int} (h : TX σ g N) (hw : gI σ 25 0 17 = 0) (hp : 0 ≤ p ∧ p ≤ 1000) (hlo : 0 ≤ lo) (hg : ¬ (lo ≤ g p ∧ g p ≤ hi)) : ev 171 0 [aR 25 0, aI lo, aI hi] [] (spA σ p) = some (some (aI lo), spW σ p p) := by
  have hf := c_Md_fails_ok σ p p hw
  have e17 : gI (spA σ p) 25 0 17 = 0 := by rw [gI_nj _ _ _ _ _ _ _ _ (by decide)]; exact hw
  have e16 : gI (spA σ p) 25 0 16 = p := gI_self _ _ _ _ _
  have e15 : gI (spA σ p) 25 0 15 = gI σ 25 0 15 := gI_nj _ _ _ _ _ _ _ _ (by decide)
  have e30 : gI (spA σ p) 30 0 (gI σ 25 0 15) = N := by rw [gI_nt _ _ _ _ _ _ _ _ (by decide)]; exact h.2.1
  have h1 := h.1
  by_cases c : N ≤ p
  · simp (disch := omega) only [e_Md_one_0, e_Md_one_1, e_Md_one_4, e_Md_one_7, e_Md_one_8, e_Md_one_11, e_Md_one_12, e_Md_one_15, e_Md_one_16, e_Md_one_19, e_Md_one_20, e_Md_one_23, e_Md_one_24, e_Md_one_27, e_Md_one_28, e_Md_one_29, e_Md_one_32, e_Md_one_35, e_Md_one_36, e_Md_one_37, e_Md_one_40, e_Md_one_43, e_Md_one_44, e17, not_true_eq_false, if_false, e15, e16, e30, if_pos c, hf, evK_v]
  · have hh := c_Md_here h ⟨hp.1, by omega⟩
    have hin := c_Md_in (g p) lo hi (spA σ p)
    rw [if_neg hg] at hin
    simp (disch := omega) only [e_Md_one_0, e_Md_one_1, e_Md_one_4, e_Md_one_7, e_Md_one_8, e_Md_one_11, e_Md_one_12, e_Md_one_15, e_Md_one_16, e_Md_one_19, e_Md_one_20, e_Md_one_23, e_Md_one_24, e_Md_one_27, e_Md_one_28, e_Md_one_29, e_Md_one_32, e_Md_one_35, e_Md_one_36, e_Md_one_37, e_Md_one_40, e_Md_one_43, e_Md_one_44, e17, not_true_eq_false, if_false, e15, e16, e30, if_neg c, hh, evK_i, hin, hf, evK_v]
theorem c_Md_isDigit {σ : aM} {g : Int → Int} {N p : Int} (h : TX σ g N) (hp : 0 ≤ p) : ev 172 0 [aR 25 0] [] (spA σ p) = some (some (aI (if isDg (g p) then 1 else 0)), spA σ p) := by
  have e16 : gI (spA σ p) 25 0 16 = p := gI_self _ _ _ _ _
  have e15 : gI (spA σ p) 25 0 15 = gI σ 25 0 15 := gI_nj _ _ _ _ _ _ _ _ (by decide)
  have e30 : gI (spA σ p) 30 0 (gI σ 25 0 15) = N := by rw [gI_nt _ _ _ _ _ _ _ _ (by decide)]; exact h.2.1
  have h1 := h.1
  by_cases c : N ≤ p
  · have := h.2.2.2.2 p c
    rw [if_neg (show ¬ isDg (g p) from fun z => by have := z.1; omega)]
    simp (disch := omega) only [e_Md_isDigit_0, e_Md_isDigit_1, e_Md_isDigit_4, e_Md_isDigit_5, e_Md_isDigit_8, e_Md_isDigit_9, e_Md_isDigit_12, e_Md_isDigit_13, e_Md_isDigit_16, e_Md_isDigit_17, e_Md_isDigit_20, e_Md_isDigit_22, e_Md_isDigit_24, e_Md_isDigit_27, e_Md_isDigit_30, e_Md_isDigit_31, e_Md_isDigit_34, e_Md_isDigit_35, e15, e16, e30, if_pos c]
  · have hh := c_Md_here h ⟨hp, by omega⟩
    have hin := c_Md_in (g p) 48 57 (spA σ p)
    by_cases z : isDg (g p)
    · rw [if_pos z] at hin ⊢
      simp (disch := omega) only [e_Md_isDigit_0, e_Md_isDigit_1, e_Md_isDigit_4, e_Md_isDigit_5, e_Md_isDigit_8, e_Md_isDigit_9, e_Md_isDigit_12, e_Md_isDigit_13, e_Md_isDigit_16, e_Md_isDigit_17, e_Md_isDigit_20, e_Md_isDigit_22, e_Md_isDigit_24, e_Md_isDigit_27, e_Md_isDigit_30, e_Md_isDigit_31, e_Md_isDigit_34, e_Md_isDigit_35, e15, e16, e30, if_neg c, hh, evK_i, hin, one_ne, if_false]
    · rw [if_neg z] at hin ⊢
      simp (disch := omega) only [e_Md_isDigit_0, e_Md_isDigit_1, e_Md_isDigit_4, e_Md_isDigit_5, e_Md_isDigit_8, e_Md_isDigit_9, e_Md_isDigit_12, e_Md_isDigit_13, e_Md_isDigit_16, e_Md_isDigit_17, e_Md_isDigit_20, e_Md_isDigit_22, e_Md_isDigit_24, e_Md_isDigit_27, e_Md_isDigit_30, e_Md_isDigit_31, e_Md_isDigit_34, e_Md_isDigit_35, e15, e16, e30, if_neg c, hh, evK_i, hin, if_true]
/-- a number's loop -/
theorem nl_go {σ : aM} {g : Int → Int} {N p f n k : Int} (h : TX σ g N) (hw : gI σ 25 0 17 = 0) (hp : 0 ≤ p ∧ p ≤ 1000) (hk : 0 ≤ k ∧ k < 2) (hn : 0 ≤ n ∧ n ≤ 1000) (hd : isDg (g p)) : ev 173 19 [aR 25 0, aI f, aI n, aI k] [] (spA σ p) = ev 173 19 [aR 25 0, aI f, aI (10 * n + g p - 48), aI (k + 1)] [] (spA σ (p + 1)) := by
  have hdg := c_Md_isDigit h hp.1
  rw [if_pos hd] at hdg
  have hpN : p < N := Int.not_le.mp (fun z => by have := h.2.2.2.2 p z; have := hd.1; omega)
  have hh := c_Md_here h ⟨hp.1, hpN⟩
  have e17 : gI (spA σ p) 25 0 17 = 0 := by rw [gI_nj _ _ _ _ _ _ _ _ (by decide)]; exact hw
  have e16 : gI (spA σ p) 25 0 16 = p := gI_self _ _ _ _ _
  have eu : uI (spA σ p) 25 0 16 (p + 1) = spA σ (p + 1) := uI_uI _ _ _ _ _ _
  rw [e_Md_number_19]
  simp (disch := omega) only [e_Md_number_20, e_Md_number_21, e_Md_number_24, e_Md_number_25, e_Md_number_28, e_Md_number_31, e_Md_number_32, e_Md_number_35, e_Md_number_38, e_Md_number_40, e_Md_number_41, e_Md_number_42, e_Md_number_43, e_Md_number_46, e_Md_number_47, e_Md_number_49, e_Md_number_50, e_Md_number_51, e_Md_number_52, e_Md_number_53, e_Md_number_56, e_Md_number_57, e_Md_number_58, e_Md_number_61, e_Md_number_64, if_neg (show ¬ 2 ≤ k by omega), e17, not_true_eq_false, if_false, hdg, evK_i, one_ne, hh, wr_id, e16, eu]
theorem nl_end {σ : aM} {g : Int → Int} {N p f n k : Int} (h : TX σ g N) (hw : gI σ 25 0 17 = 0) (hp : 0 ≤ p ∧ p ≤ 1000) (hd : 2 ≤ k ∨ ¬ isDg (g p)) : ev 173 19 [aR 25 0, aI f, aI n, aI k] [] (spA σ p) = if n = 0 then some (some (aI n), spW σ p f) else some (some (aI n), spA σ p) := by
  have hf := c_Md_fails_ok σ p f hw
  have e17 : gI (spA σ p) 25 0 17 = 0 := by rw [gI_nj _ _ _ _ _ _ _ _ (by decide)]; exact hw
  have tl : ev 173 67 [aR 25 0, aI f, aI n, aI k] [] (spA σ p) = if n = 0 then some (some (aI n), spW σ p f) else some (some (aI n), spA σ p) := by
    by_cases z : n = 0
    · rw [if_pos z]
      simp (disch := omega) only [e_Md_number_67, e_Md_number_68, e_Md_number_71, e_Md_number_74, e_Md_number_75, e_Md_number_78, e_Md_number_79, e_Md_number_80, e_Md_number_83, e_Md_number_84, e17, not_true_eq_false, if_false, if_neg (show ¬ ¬ n = 0 from fun y => y z), hf, evK_v]
    · rw [if_neg z]
      simp (disch := omega) only [e_Md_number_67, e_Md_number_68, e_Md_number_71, e_Md_number_74, e_Md_number_75, e_Md_number_78, e_Md_number_79, e_Md_number_80, e_Md_number_83, e_Md_number_84, e17, not_true_eq_false, if_false, if_pos z]
  rw [e_Md_number_19]
  by_cases c : 2 ≤ k
  · simp (disch := omega) only [e_Md_number_20, e_Md_number_21, if_pos c, tl]
  · have hdg := c_Md_isDigit h hp.1
    rw [if_neg (hd.elim (fun z => absurd z c) id)] at hdg
    simp (disch := omega) only [e_Md_number_20, e_Md_number_21, e_Md_number_24, e_Md_number_25, e_Md_number_28, e_Md_number_31, e_Md_number_32, e_Md_number_35, if_neg c, e17, not_true_eq_false, if_false, hdg, evK_i, if_true, tl]
/-- a number, in the reference -/
def NR (σ : aM) (r : (Int × Int) ⊕ Int) (e : Option (Option AV × aM)) : Prop := match r with
  | .inl (p, n) => e = some (some (aI n), spA σ p)
  | .inr k => ∃ x τ, e = some (some (aI x), τ) ∧ FrQ σ τ ∧ gI τ 25 0 17 = 1 ∧ gI τ 25 0 18 = k
theorem NR_w {σ : aM} {p k x : Int} {e : Option (Option AV × aM)} (h : e = some (some (aI x), spW σ p k)) : NR σ (.inr k) e := ⟨x, _, h, spW_X σ p k, gI_self _ _ _ _ _, by simp (disch := omega) only [gI_self, gI_nt, gI_nj, gL_uI, gR_uI, gI_uL, gR_uL, gI_uR, gL_uR]⟩
theorem c_Md_number {σ : aM} {g : Int → Int} {N p : Int} (h : TX σ g N) (hw : gI σ 25 0 17 = 0) (hp : 0 ≤ p ∧ p ≤ 900) : NR σ (pNm g p) (ev 173 0 [aR 25 0, aU, aU, aU] [] (spA σ p)) := by
  have e16 : gI (spA σ p) 25 0 16 = p := gI_self _ _ _ _ _
  unfold pNm
  by_cases d1 : isDg (g p)
  · have h1 := (c_Md_one_ok (lo := 48) (hi := 57) h hw hp.1 (by omega) d1).1
    have s0 : ev 173 0 [aR 25 0, aU, aU, aU] [] (spA σ p) = ev 173 19 [aR 25 0, aI p, aI (g p - 48), aI 0] [] (spA σ (p + 1)) := by
      simp (disch := omega) only [e_Md_number_0, e_Md_number_1, e_Md_number_4, e_Md_number_5, e_Md_number_6, e_Md_number_8, e_Md_number_10, e_Md_number_13, e_Md_number_15, e_Md_number_16, e_Md_number_17, e_Md_number_18, e16, h1, evK_i, wr_id]
    rw [if_neg (show ¬ ¬ isDg (g p) from fun q => q d1), s0]
    by_cases d2 : isDg (g (p + 1))
    · rw [if_neg (show ¬ ¬ isDg (g (p + 1)) from fun q => q d2)]
      have s1 := nl_go (p := p + 1) (f := p) (n := g p - 48) (k := 0) h hw (by omega) (by omega) (by omega) d2
      rw [s1, show p + 2 = p + 1 + 1 by omega, show p + 3 = p + 1 + 1 + 1 by omega]
      by_cases d3 : isDg (g (p + 1 + 1))
      · rw [if_neg (show ¬ ¬ isDg (g (p + 1 + 1)) from fun q => q d3)]
        have s2 := nl_go (p := p + 1 + 1) (f := p) (n := 10 * (g p - 48) + g (p + 1) - 48) (k := 0 + 1) h hw (by omega) (by omega) (by omega) d3
        rw [s2, nl_end h hw (by omega) (Or.inl (by omega))]
        by_cases z : g p = 48 ∧ g (p + 1) = 48 ∧ g (p + 1 + 1) = 48
        · rw [if_pos z, if_pos (by omega)]
          exact NR_w rfl
        · rw [if_neg z, if_neg (by omega)]
          show some (some (aI _), _) = some (some (aI _), _)
          rw [show 10 * (10 * (g p - 48) + g (p + 1) - 48) + g (p + 1 + 1) - 48 = ((g p - 48) * 10 + g (p + 1) - 48) * 10 + g (p + 1 + 1) - 48 by omega]
      · rw [if_pos d3, nl_end h hw (by omega) (Or.inr d3)]
        by_cases z : g p = 48 ∧ g (p + 1) = 48
        · rw [if_pos z, if_pos (by omega)]
          exact NR_w rfl
        · rw [if_neg z, if_neg (by omega)]
          show some (some (aI _), _) = some (some (aI _), _)
          rw [show 10 * (g p - 48) + g (p + 1) - 48 = (g p - 48) * 10 + g (p + 1) - 48 by omega]
    · rw [if_pos d2, nl_end h hw (by omega) (Or.inr d2)]
      by_cases z : g p = 48
      · rw [if_pos z, if_pos (by omega)]
        exact NR_w rfl
      · rw [if_neg z, if_neg (by omega)]
        rfl
  · rw [if_pos d1]
    have h1 := c_Md_one_no (lo := 48) (hi := 57) h hw (by omega) (by omega) d1
    have e17 : gI (spW σ p p) 25 0 17 = 1 := gI_self _ _ _ _ _
    refine NR_w (x := 0) (p := p) ?_
    simp (disch := omega) only [e_Md_number_0, e_Md_number_1, e_Md_number_4, e_Md_number_5, e_Md_number_6, e_Md_number_8, e_Md_number_10, e_Md_number_13, e_Md_number_15, e_Md_number_16, e_Md_number_17, e_Md_number_18, e_Md_number_19, e_Md_number_20, e_Md_number_21, e_Md_number_24, e_Md_number_25, e_Md_number_28, e_Md_number_31, e_Md_number_32, e_Md_number_35, e_Md_number_38, e_Md_number_40, e_Md_number_41, e_Md_number_42, e_Md_number_43, e_Md_number_46, e_Md_number_47, e_Md_number_49, e_Md_number_50, e_Md_number_51, e_Md_number_52, e_Md_number_53, e_Md_number_56, e_Md_number_57, e_Md_number_58, e_Md_number_61, e_Md_number_64, e_Md_number_67, e_Md_number_68, e_Md_number_71, e_Md_number_74, e_Md_number_75, e_Md_number_78, e_Md_number_79, e_Md_number_80, e_Md_number_83, e_Md_number_84, e16, h1, evK_i, wr_id, if_neg (show ¬ (2 : Int) ≤ 0 by omega), e17, one_ne, not_false_eq_true, if_true, Int.sub_self]
theorem c_Md_number_bad (σ : aM) (h : gI σ 25 0 17 = 1) : ∃ x, ev 173 0 [aR 25 0, aU, aU, aU] [] σ = some (some (aI x), σ) := by
  have h1 := c_Md_one_bad σ 48 57 h
  refine ⟨0, ?_⟩
  simp (disch := omega) only [e_Md_number_0, e_Md_number_1, e_Md_number_4, e_Md_number_5, e_Md_number_6, e_Md_number_8, e_Md_number_10, e_Md_number_13, e_Md_number_15, e_Md_number_16, e_Md_number_17, e_Md_number_18, e_Md_number_19, e_Md_number_20, e_Md_number_21, e_Md_number_24, e_Md_number_25, e_Md_number_28, e_Md_number_31, e_Md_number_32, e_Md_number_35, e_Md_number_38, e_Md_number_40, e_Md_number_41, e_Md_number_42, e_Md_number_43, e_Md_number_46, e_Md_number_47, e_Md_number_49, e_Md_number_50, e_Md_number_51, e_Md_number_52, e_Md_number_53, e_Md_number_56, e_Md_number_57, e_Md_number_58, e_Md_number_61, e_Md_number_64, e_Md_number_67, e_Md_number_68, e_Md_number_71, e_Md_number_74, e_Md_number_75, e_Md_number_78, e_Md_number_79, e_Md_number_80, e_Md_number_83, e_Md_number_84, h1, evK_i, wr_id, if_neg (show ¬ (2 : Int) ≤ 0 by omega), h, one_ne, not_false_eq_true, if_true, Int.sub_self]
