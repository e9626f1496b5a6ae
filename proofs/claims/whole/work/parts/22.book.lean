/-! the book's reads -/
abbrev oqq (f : Option Int) : AV := aQ (f.map (fun j => (8, j)))
abbrev elF (σ : aM) (w i : Int) : Prop := gI σ 8 i 5 = 1 ∧ gI σ 8 i 3 = w ∧ ¬ gI σ 8 i 1 = 3
def fstF (σ : aM) (w : Int) : Nat → Int → Option Int → Option Int
  | 0, _, f => f
  | n + 1, i, none => fstF σ w n (i + 1) (if elF σ w i then some i else none)
  | n + 1, i, some j => fstF σ w n (i + 1) (if elF σ w i ∧ ahd σ i j (gI σ 8 i 7) (gI σ 8 j 7) then some i else some j)
/-- the first by rank: none, or its number -/
def frs (σ : aM) (w : Int) : Option Int := fstF σ w (gI σ 6 0 2).toNat 0 none
theorem l_Bk_firstOn (σ : aM) (w : Int) (hc : gI σ 6 0 2 ≤ 60) : ∀ (n : Nat) (i : Int) (f : Option Int) (a4 : AV), 0 ≤ i → i + n = gI σ 6 0 2 → ev 8 4 [aR 6 0, aI w, oqq f, aI i, a4] [] σ = some (some (oqq (fstF σ w n i f)), σ) := by
  intro n
  induction n with
  | zero =>
    intro i f a4 h0 h1
    have hle : gI σ 6 0 2 ≤ i := by omega
    rw [e_Bk_firstOn_4]
    simp (disch := omega) only [e_Bk_firstOn_0, e_Bk_firstOn_1, e_Bk_firstOn_2, e_Bk_firstOn_3, e_Bk_firstOn_5, e_Bk_firstOn_6, e_Bk_firstOn_9, e_Bk_firstOn_12, e_Bk_firstOn_13, e_Bk_firstOn_16, e_Bk_firstOn_17, e_Bk_firstOn_18, e_Bk_firstOn_20, e_Bk_firstOn_22, e_Bk_firstOn_23, e_Bk_firstOn_26, e_Bk_firstOn_29, e_Bk_firstOn_31, e_Bk_firstOn_34, e_Bk_firstOn_35, e_Bk_firstOn_38, e_Bk_firstOn_39, e_Bk_firstOn_42, e_Bk_firstOn_44, e_Bk_firstOn_45, e_Bk_firstOn_47, e_Bk_firstOn_50, e_Bk_firstOn_51, e_Bk_firstOn_54, e_Bk_firstOn_57, e_Bk_firstOn_60, e_Bk_firstOn_62, e_Bk_firstOn_63, e_Bk_firstOn_66, e_Bk_firstOn_69, e_Bk_firstOn_70, if_pos hle]
    rfl
  | succ n ih =>
    intro i f a4 h0 h1
    have hle : ¬ gI σ 6 0 2 ≤ i := by omega
    have ihn : ∀ (a4 : AV), ev 8 4 [aR 6 0, aI w, aN, aI (i + 1), a4] [] σ = some (some (oqq (fstF σ w n (i + 1) none)), σ) := fun a4 => ih (i + 1) none a4 (by omega) (by omega)
    have ihs : ∀ (j : Int) (a4 : AV), ev 8 4 [aR 6 0, aI w, aR 8 j, aI (i + 1), a4] [] σ = some (some (oqq (fstF σ w n (i + 1) (some j))), σ) := fun j a4 => ih (i + 1) (some j) a4 (by omega) (by omega)
    rw [e_Bk_firstOn_4]
    cases f with
    | none =>
      simp (disch := omega) only [e_Bk_firstOn_0, e_Bk_firstOn_1, e_Bk_firstOn_2, e_Bk_firstOn_3, e_Bk_firstOn_5, e_Bk_firstOn_6, e_Bk_firstOn_9, e_Bk_firstOn_12, e_Bk_firstOn_13, e_Bk_firstOn_16, e_Bk_firstOn_17, e_Bk_firstOn_18, e_Bk_firstOn_20, e_Bk_firstOn_22, e_Bk_firstOn_23, e_Bk_firstOn_26, e_Bk_firstOn_29, e_Bk_firstOn_31, e_Bk_firstOn_34, e_Bk_firstOn_35, e_Bk_firstOn_38, e_Bk_firstOn_39, e_Bk_firstOn_42, e_Bk_firstOn_44, e_Bk_firstOn_45, e_Bk_firstOn_47, e_Bk_firstOn_50, e_Bk_firstOn_51, e_Bk_firstOn_54, e_Bk_firstOn_57, e_Bk_firstOn_60, e_Bk_firstOn_62, e_Bk_firstOn_63, e_Bk_firstOn_66, e_Bk_firstOn_69, e_Bk_firstOn_70, if_neg hle, c_Ord_restsOn, evK_i, b01, wr_id, Option.map_none, Int.mul_zero, Int.zero_add, ihn, ihs, if_true]
      rw [fstF]
      grind
    | some j =>
      simp (disch := omega) only [e_Bk_firstOn_0, e_Bk_firstOn_1, e_Bk_firstOn_2, e_Bk_firstOn_3, e_Bk_firstOn_5, e_Bk_firstOn_6, e_Bk_firstOn_9, e_Bk_firstOn_12, e_Bk_firstOn_13, e_Bk_firstOn_16, e_Bk_firstOn_17, e_Bk_firstOn_18, e_Bk_firstOn_20, e_Bk_firstOn_22, e_Bk_firstOn_23, e_Bk_firstOn_26, e_Bk_firstOn_29, e_Bk_firstOn_31, e_Bk_firstOn_34, e_Bk_firstOn_35, e_Bk_firstOn_38, e_Bk_firstOn_39, e_Bk_firstOn_42, e_Bk_firstOn_44, e_Bk_firstOn_45, e_Bk_firstOn_47, e_Bk_firstOn_50, e_Bk_firstOn_51, e_Bk_firstOn_54, e_Bk_firstOn_57, e_Bk_firstOn_60, e_Bk_firstOn_62, e_Bk_firstOn_63, e_Bk_firstOn_66, e_Bk_firstOn_69, e_Bk_firstOn_70, if_neg hle, c_Ord_restsOn, c_Ord_isAheadOf, evK_i, b01, wr_id, Option.map_some, Int.mul_zero, Int.zero_add, ihn, ihs, reduceCtorEq, if_false]
      rw [fstF]
      grind
theorem c_Bk_firstOn (w : Int) (σ : aM) (h0 : 0 ≤ gI σ 6 0 2) (hc : gI σ 6 0 2 ≤ 60) : ev 8 0 [aR 6 0, aI w, aU, aU, aU] [] σ = some (some (oqq (frs σ w)), σ) := by
  have h := l_Bk_firstOn σ w hc (gI σ 6 0 2).toNat 0 none aU (by omega) (by omega)
  have h : ev 8 4 [aR 6 0, aI w, aN, aI 0, aU] [] σ = some (some (oqq (frs σ w)), σ) := h
  simp (disch := omega) only [e_Bk_firstOn_0, e_Bk_firstOn_1, e_Bk_firstOn_2, e_Bk_firstOn_3, h]
theorem fstF_in (σ : aM) (w : Int) : ∀ (n : Nat) (i : Int) (f : Option Int) (j : Int), fstF σ w n i f = some j → f = some j ∨ (i ≤ j ∧ j < i + n ∧ elF σ w j) := by
  intro n
  induction n with
  | zero => intro i f j h; exact Or.inl h
  | succ n ih =>
    intro i f j h
    cases f with
    | none =>
      rw [fstF] at h
      rcases ih _ _ _ h with h1 | ⟨h1, h2, h3⟩
      · split at h1
        · cases h1
          exact Or.inr ⟨by omega, by omega, by assumption⟩
        · cases h1
      · exact Or.inr ⟨by omega, by omega, h3⟩
    | some k =>
      rw [fstF] at h
      rcases ih _ _ _ h with h1 | ⟨h1, h2, h3⟩
      · split at h1
        · rename_i hc
          cases h1
          exact Or.inr ⟨by omega, by omega, hc.1⟩
        · exact Or.inl h1
      · exact Or.inr ⟨by omega, by omega, h3⟩
theorem frs_in {σ : aM} {w j : Int} (h0 : 0 ≤ gI σ 6 0 2) (h : frs σ w = some j) : 0 ≤ j ∧ j < gI σ 6 0 2 ∧ gI σ 8 j 5 = 1 ∧ gI σ 8 j 3 = w ∧ ¬ gI σ 8 j 1 = 3 := by
  rcases fstF_in σ w _ _ _ _ h with h1 | ⟨h1, h2, h3⟩
  · cases h1
  · exact ⟨h1, by omega, h3⟩
def bsP (σ : aM) (w : Int) : Int := match frs σ w with
  | none => 0
  | some j => gI σ 8 j 7
theorem c_Bk_bestPrice (w : Int) (σ : aM) (h0 : 0 ≤ gI σ 6 0 2) (hc : gI σ 6 0 2 ≤ 60) : ev 9 0 [aR 6 0, aI w, aU] [] σ = some (some (aI (bsP σ w)), σ) := by
  unfold bsP
  cases h : frs σ w with
  | none => simp (disch := omega) only [e_Bk_bestPrice_0, e_Bk_bestPrice_1, e_Bk_bestPrice_2, e_Bk_bestPrice_5, e_Bk_bestPrice_6, e_Bk_bestPrice_7, e_Bk_bestPrice_10, e_Bk_bestPrice_11, e_Bk_bestPrice_14, e_Bk_bestPrice_15, e_Bk_bestPrice_18, c_Bk_firstOn, evK_i, h, Option.map_none, not_true_eq_false, if_false]
  | some j => simp (disch := omega) only [e_Bk_bestPrice_0, e_Bk_bestPrice_1, e_Bk_bestPrice_2, e_Bk_bestPrice_5, e_Bk_bestPrice_6, e_Bk_bestPrice_7, e_Bk_bestPrice_10, e_Bk_bestPrice_11, e_Bk_bestPrice_14, e_Bk_bestPrice_15, e_Bk_bestPrice_18, c_Bk_firstOn, evK_i, h, Option.map_some, reduceCtorEq, not_false_eq_true, if_true]
def prO (σ : aM) (i : Int) : Int := if gI σ 8 i 1 = 3 then prB σ i (bsP σ (gI σ 8 i 3)) else gI σ 8 i 7
theorem c_Bk_priceOf (i : Int) (σ : aM) (h0 : 0 ≤ gI σ 6 0 2) (hc : gI σ 6 0 2 ≤ 60) (hb : 0 ≤ bsP σ (gI σ 8 i 3) ∧ bsP σ (gI σ 8 i 3) ≤ 999) (hd : 0 ≤ gI σ 8 i 8 ∧ gI σ 8 i 8 ≤ 999) : ev 10 0 [aR 6 0, aR 8 i] [] σ = some (some (aI (prO σ i)), σ) := by
  unfold prO
  simp (disch := omega) only [e_Bk_priceOf_0, e_Bk_priceOf_1, e_Bk_priceOf_4, e_Bk_priceOf_5, e_Bk_priceOf_8, e_Bk_priceOf_9, e_Bk_priceOf_10, e_Bk_priceOf_11, e_Bk_priceOf_14, e_Bk_priceOf_17, e_Bk_priceOf_20, e_Bk_priceOf_23, e_Bk_priceOf_24, e_Bk_priceOf_27, c_Bk_bestPrice, c_Ord_priceBy, evK_i]
  grind
theorem c_Bk_orderAt (i : Int) (σ : aM) (hc : gI σ 6 0 2 ≤ 60) : ev 5 0 [aR 6 0, aI i] [] σ = some (some (aQ (if 0 ≤ i ∧ i < gI σ 6 0 2 then some (8, i) else none)), σ) := by
  by_cases h : 0 ≤ i ∧ i < gI σ 6 0 2
  · have h1 : ¬ i < 0 := by omega
    have h2 : ¬ gI σ 6 0 2 ≤ i := by omega
    simp (disch := omega) only [e_Bk_orderAt_0, e_Bk_orderAt_1, e_Bk_orderAt_4, e_Bk_orderAt_5, e_Bk_orderAt_6, e_Bk_orderAt_9, e_Bk_orderAt_12, e_Bk_orderAt_13, e_Bk_orderAt_16, e_Bk_orderAt_17, e_Bk_orderAt_18, e_Bk_orderAt_21, e_Bk_orderAt_22, if_neg h1, if_neg h2, if_pos h, Int.mul_zero, Int.zero_add]
  · simp (disch := omega) only [e_Bk_orderAt_0, e_Bk_orderAt_1, e_Bk_orderAt_4, e_Bk_orderAt_5, e_Bk_orderAt_6, e_Bk_orderAt_9, e_Bk_orderAt_12, e_Bk_orderAt_13, e_Bk_orderAt_17, e_Bk_orderAt_18, e_Bk_orderAt_21, e_Bk_orderAt_22, if_neg h]
    grind
def kTm (σ : aM) (i : Int) : aM := uI (uI σ 8 i 10 (gI σ 6 0 6)) 6 0 6 (wr (gI σ 6 0 6 + 1))
theorem c_Bk_giveTime (i : Int) (σ : aM) : ev 6 0 [aR 6 0, aR 8 i] [] σ = some (none, kTm σ i) := by
  unfold kTm
  simp (disch := omega) only [e_Bk_giveTime_0, e_Bk_giveTime_1, e_Bk_giveTime_2, e_Bk_giveTime_5, e_Bk_giveTime_8, e_Bk_giveTime_9, e_Bk_giveTime_10, e_Bk_giveTime_13, e_Bk_giveTime_14, e_Bk_giveTime_15, e_Bk_giveTime_18, gI_self, gI_nt, gI_nj, gL_uI, gR_uI, gI_uL, gR_uL, gI_uR, gL_uR]
def kRs (σ : aM) (i : Int) : aM := kTm (kSh (uI σ 8 i 5 1) i) i
theorem c_Bk_rest (i : Int) (σ : aM) : ev 7 0 [aR 6 0, aR 8 i] [] σ = some (none, kRs σ i) := by
  unfold kRs
  simp (disch := omega) only [e_Bk_rest_0, e_Bk_rest_1, e_Bk_rest_2, e_Bk_rest_5, e_Bk_rest_6, e_Bk_rest_9, e_Bk_rest_10, e_Bk_rest_11, e_Bk_rest_14, c_Ord_showAnew, c_Bk_giveTime, evK_v]
/-- how many orders, of the first ones, are in a state -/
def cnF (σ : aM) (w : Int) : Nat → Int → Int
  | 0, _ => 0
  | n + 1, i => (if gI σ 8 i 5 = w then 1 else 0) + cnF σ w n (i + 1)
def cnI (σ : aM) (w : Int) : Int := cnF σ w (gI σ 6 0 2).toNat 0
theorem cnF_le (σ : aM) (w : Int) : ∀ (n : Nat) (i : Int), 0 ≤ cnF σ w n i ∧ cnF σ w n i ≤ n := by
  intro n
  induction n with
  | zero => intro i; exact ⟨Int.le_refl _, Int.le_refl _⟩
  | succ n ih =>
    intro i
    have := ih (i + 1)
    rw [cnF]
    split <;> omega
theorem l_Bk_countIn (σ : aM) (w : Int) (hc : gI σ 6 0 2 ≤ 60) : ∀ (n : Nat) (i a : Int), 0 ≤ i → i + n = gI σ 6 0 2 → 0 ≤ a → a ≤ i → ev 11 4 [aR 6 0, aI w, aI a, aI i] [] σ = some (some (aI (a + cnF σ w n i)), σ) := by
  intro n
  induction n with
  | zero =>
    intro i a h0 h1 h2 h3
    have hle : gI σ 6 0 2 ≤ i := by omega
    rw [e_Bk_countIn_4]
    simp (disch := omega) only [e_Bk_countIn_0, e_Bk_countIn_1, e_Bk_countIn_2, e_Bk_countIn_3, e_Bk_countIn_5, e_Bk_countIn_6, e_Bk_countIn_9, e_Bk_countIn_12, e_Bk_countIn_13, e_Bk_countIn_16, e_Bk_countIn_17, e_Bk_countIn_18, e_Bk_countIn_21, e_Bk_countIn_22, e_Bk_countIn_25, e_Bk_countIn_28, e_Bk_countIn_31, e_Bk_countIn_34, e_Bk_countIn_35, if_pos hle, cnF, Int.add_zero]
  | succ n ih =>
    intro i a h0 h1 h2 h3
    have hle : ¬ gI σ 6 0 2 ≤ i := by omega
    rw [e_Bk_countIn_4]
    simp (disch := omega) only [e_Bk_countIn_0, e_Bk_countIn_1, e_Bk_countIn_2, e_Bk_countIn_3, e_Bk_countIn_5, e_Bk_countIn_6, e_Bk_countIn_9, e_Bk_countIn_12, e_Bk_countIn_13, e_Bk_countIn_16, e_Bk_countIn_17, e_Bk_countIn_18, e_Bk_countIn_21, e_Bk_countIn_22, e_Bk_countIn_25, e_Bk_countIn_28, e_Bk_countIn_31, e_Bk_countIn_34, e_Bk_countIn_35, if_neg hle, Int.mul_zero, Int.zero_add, wr_id, ih]
    rw [cnF]
    grind
theorem c_Bk_countIn (w : Int) (σ : aM) (h0 : 0 ≤ gI σ 6 0 2) (hc : gI σ 6 0 2 ≤ 60) : ev 11 0 [aR 6 0, aI w, aU, aU] [] σ = some (some (aI (cnI σ w)), σ) := by
  have h := l_Bk_countIn σ w hc (gI σ 6 0 2).toNat 0 0 (by omega) (by omega) (by omega) (by omega)
  simp (disch := omega) only [e_Bk_countIn_0, e_Bk_countIn_1, e_Bk_countIn_2, e_Bk_countIn_3, e_Bk_countIn_5, e_Bk_countIn_6, e_Bk_countIn_9, e_Bk_countIn_12, e_Bk_countIn_13, e_Bk_countIn_16, e_Bk_countIn_17, e_Bk_countIn_18, e_Bk_countIn_21, e_Bk_countIn_22, e_Bk_countIn_25, e_Bk_countIn_28, e_Bk_countIn_31, e_Bk_countIn_34, e_Bk_countIn_35, h, Int.zero_add]
  rfl
/-- the next seed, and a draw below n of it -/
def sdN (s : Int) : Int := wr (wr (s * 1103515245) + 12345)
theorem c_Bk_drawBelow (n : Int) (σ : aM) (h : 1 ≤ n) : ev 12 0 [aR 6 0, aI n] [] σ = some (some (aI (rem (shr (sdN (gI σ 6 0 5)) 16) n)), uI σ 6 0 5 (sdN (gI σ 6 0 5))) := by
  have h1 : 1 ≤ n := h
  unfold sdN
  simp (disch := omega) only [e_Bk_drawBelow_0, e_Bk_drawBelow_1, e_Bk_drawBelow_2, e_Bk_drawBelow_5, e_Bk_drawBelow_7, e_Bk_drawBelow_8, e_Bk_drawBelow_11, e_Bk_drawBelow_12, e_Bk_drawBelow_15, e_Bk_drawBelow_16, e_Bk_drawBelow_17, e_Bk_drawBelow_20, e_Bk_drawBelow_21, e_Bk_drawBelow_24, e_Bk_drawBelow_25, e_Bk_drawBelow_28, e_Bk_drawBelow_30, e_Bk_drawBelow_31, e_Bk_drawBelow_32, e_Bk_drawBelow_33, gI_self, gI_nt, gI_nj, gL_uI, gR_uI, gI_uL, gR_uL, gI_uR, gL_uR, if_pos h1]
/-! the log: a trade is noted -/
def kNt (σ : aM) (x z p q : Int) : aM :=
  let σ1 := if gI σ 9 0 3 < 200 then uI (uI (uI (uI σ 10 0 (gI σ 9 0 3 * 4) (gI σ 8 x 0)) 10 0 (gI σ 9 0 3 * 4 + 1) (gI σ 8 z 0)) 10 0 (gI σ 9 0 3 * 4 + 2) p) 10 0 (gI σ 9 0 3 * 4 + 3) q else σ
  let σ2 := uI (uI σ1 9 0 3 (wr (gI σ 9 0 3 + 1))) 9 0 4 p
  let σ3 := uI σ2 11 0 (gI σ 8 x 2) (wr (gI σ2 11 0 (gI σ 8 x 2) + q))
  let σ4 := uI σ3 12 0 (gI σ 8 x 2) (wr (gI σ3 12 0 (gI σ 8 x 2) - wr (p * q)))
  let σ5 := uI σ4 11 0 (gI σ 8 z 2) (wr (gI σ4 11 0 (gI σ 8 z 2) - q))
  uI σ5 12 0 (gI σ 8 z 2) (wr (gI σ5 12 0 (gI σ 8 z 2) + wr (p * q)))
theorem c_Lg_note (x z p q : Int) (σ : aM) (hx : 0 ≤ gI σ 8 x 2 ∧ gI σ 8 x 2 < 8) (hz : 0 ≤ gI σ 8 z 2 ∧ gI σ 8 z 2 < 8) (hc : 0 ≤ gI σ 9 0 3) : ev 73 0 [aR 9 0, aR 8 x, aR 8 z, aI p, aI q, aU] [] σ = some (none, kNt σ x z p q) := by
  unfold kNt
  by_cases h : gI σ 9 0 3 < 200
  · have h2 : ¬ 200 ≤ gI σ 9 0 3 := by omega
    simp (disch := omega) only [e_Lg_note_0, e_Lg_note_1, e_Lg_note_4, e_Lg_note_7, e_Lg_note_10, e_Lg_note_11, e_Lg_note_14, e_Lg_note_15, e_Lg_note_16, e_Lg_note_18, e_Lg_note_19, e_Lg_note_22, e_Lg_note_24, e_Lg_note_25, e_Lg_note_28, e_Lg_note_29, e_Lg_note_30, e_Lg_note_33, e_Lg_note_35, e_Lg_note_36, e_Lg_note_37, e_Lg_note_38, e_Lg_note_41, e_Lg_note_42, e_Lg_note_43, e_Lg_note_46, e_Lg_note_48, e_Lg_note_49, e_Lg_note_50, e_Lg_note_51, e_Lg_note_52, e_Lg_note_53, e_Lg_note_56, e_Lg_note_58, e_Lg_note_59, e_Lg_note_60, e_Lg_note_62, e_Lg_note_63, e_Lg_note_64, e_Lg_note_65, e_Lg_note_68, e_Lg_note_69, e_Lg_note_70, e_Lg_note_73, e_Lg_note_74, e_Lg_note_75, e_Lg_note_78, e_Lg_note_79, e_Lg_note_82, e_Lg_note_83, e_Lg_note_86, e_Lg_note_87, e_Lg_note_88, e_Lg_note_90, e_Lg_note_91, e_Lg_note_92, e_Lg_note_93, e_Lg_note_96, e_Lg_note_97, e_Lg_note_100, e_Lg_note_101, e_Lg_note_102, e_Lg_note_103, e_Lg_note_105, e_Lg_note_106, e_Lg_note_107, e_Lg_note_108, e_Lg_note_109, e_Lg_note_112, e_Lg_note_113, e_Lg_note_116, e_Lg_note_117, e_Lg_note_118, e_Lg_note_120, e_Lg_note_121, e_Lg_note_122, e_Lg_note_123, e_Lg_note_126, e_Lg_note_127, e_Lg_note_130, e_Lg_note_131, e_Lg_note_132, e_Lg_note_133, e_Lg_note_135, e_Lg_note_136, e_Lg_note_137, e_Lg_note_138, gI_self, gI_nt, gI_nj, gL_uI, gR_uI, gI_uL, gR_uL, gI_uR, gL_uR, if_neg h2, if_pos h, wr_id]
  · have h2 : 200 ≤ gI σ 9 0 3 := by omega
    simp (disch := omega) only [e_Lg_note_0, e_Lg_note_1, e_Lg_note_4, e_Lg_note_7, e_Lg_note_10, e_Lg_note_11, e_Lg_note_14, e_Lg_note_15, e_Lg_note_16, e_Lg_note_18, e_Lg_note_19, e_Lg_note_22, e_Lg_note_24, e_Lg_note_25, e_Lg_note_28, e_Lg_note_29, e_Lg_note_30, e_Lg_note_33, e_Lg_note_35, e_Lg_note_36, e_Lg_note_37, e_Lg_note_38, e_Lg_note_41, e_Lg_note_42, e_Lg_note_43, e_Lg_note_46, e_Lg_note_48, e_Lg_note_49, e_Lg_note_50, e_Lg_note_51, e_Lg_note_52, e_Lg_note_53, e_Lg_note_56, e_Lg_note_58, e_Lg_note_59, e_Lg_note_60, e_Lg_note_62, e_Lg_note_63, e_Lg_note_64, e_Lg_note_65, e_Lg_note_68, e_Lg_note_69, e_Lg_note_70, e_Lg_note_73, e_Lg_note_74, e_Lg_note_75, e_Lg_note_78, e_Lg_note_79, e_Lg_note_82, e_Lg_note_83, e_Lg_note_86, e_Lg_note_87, e_Lg_note_88, e_Lg_note_90, e_Lg_note_91, e_Lg_note_92, e_Lg_note_93, e_Lg_note_96, e_Lg_note_97, e_Lg_note_100, e_Lg_note_101, e_Lg_note_102, e_Lg_note_103, e_Lg_note_105, e_Lg_note_106, e_Lg_note_107, e_Lg_note_108, e_Lg_note_109, e_Lg_note_112, e_Lg_note_113, e_Lg_note_116, e_Lg_note_117, e_Lg_note_118, e_Lg_note_120, e_Lg_note_121, e_Lg_note_122, e_Lg_note_123, e_Lg_note_126, e_Lg_note_127, e_Lg_note_130, e_Lg_note_131, e_Lg_note_132, e_Lg_note_133, e_Lg_note_135, e_Lg_note_136, e_Lg_note_137, e_Lg_note_138, gI_self, gI_nt, gI_nj, gL_uI, gR_uI, gI_uL, gR_uL, gI_uR, gL_uR, if_pos h2, if_neg h]
def kTa (σ : aM) (x z p q : Int) : aM := kGv (kGv (kNt σ x z p q) x q) z q
theorem c_Dk_tradeAway (x z p q : Int) (σ : aM) (hx : 0 ≤ gI σ 8 x 2 ∧ gI σ 8 x 2 < 8) (hz : 0 ≤ gI σ 8 z 2 ∧ gI σ 8 z 2 < 8) (hc : 0 ≤ gI σ 9 0 3) : ev 27 0 [aR 5 0, aR 8 x, aR 8 z, aI p, aI q] [] σ = some (none, kTa σ x z p q) := by
  unfold kTa
  simp (disch := omega) only [e_Dk_tradeAway_0, e_Dk_tradeAway_1, e_Dk_tradeAway_4, e_Dk_tradeAway_7, e_Dk_tradeAway_8, e_Dk_tradeAway_9, e_Dk_tradeAway_10, e_Dk_tradeAway_12, e_Dk_tradeAway_15, e_Dk_tradeAway_16, e_Dk_tradeAway_18, e_Dk_tradeAway_21, e_Dk_tradeAway_22, e_Dk_tradeAway_24, e_Dk_tradeAway_27, c_Lg_note, c_Ord_giveTraded, evK_v]
