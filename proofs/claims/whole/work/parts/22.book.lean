/-! the book's reads -/
abbrev oqq (f : Option Int) : AV := aQ (f.map (fun j => (8, j)))
abbrev elF (σ : aM) (w i : Int) : Prop := gI σ 8 i 5 = 1 ∧ gI σ 8 i 3 = w ∧ ¬ gI σ 8 i 1 = 3
def fstF (σ : aM) (w : Int) : Nat → Int → Option Int → Option Int
  | 0, _, f => f
  | n + 1, i, none => fstF σ w n (i + 1) (if elF σ w i then some i else none)
  | n + 1, i, some j => fstF σ w n (i + 1) (if elF σ w i ∧ ahd σ i j (gI σ 8 i 7) (gI σ 8 j 7) then some i else some j)
/-- the first by rank: none, or its number -/
def frs (σ : aM) (w : Int) : Option Int := fstF σ w (gI σ 6 0 2).toNat 0 none
theorem l_Bk_firstOn (σ : aM) (w : Int) (hc : gI σ 6 0 2 ≤ 60) : ∀ (n : Nat) (i : Int) (f : Option Int) (a4 : AV), 0 ≤ i → i + n = gI σ 6 0 2 → ev 8 4 [aR 6 0, aI w, oqq f, aI i, a4] [] σ = some (some (oqq (fstF σ w n i f)), σ) := by
  intro n
  induction n with
  | zero =>
    intro i f a4 h0 h1
    have hle : gI σ 6 0 2 ≤ i := by omega
    rw [e_Bk_firstOn_4]
    simp (disch := omega) only [e_Bk_firstOn_0, e_Bk_firstOn_1, e_Bk_firstOn_2, e_Bk_firstOn_3, e_Bk_firstOn_5, e_Bk_firstOn_6, e_Bk_firstOn_9, e_Bk_firstOn_12, e_Bk_firstOn_13, e_Bk_firstOn_16, e_Bk_firstOn_17, e_Bk_firstOn_18, e_Bk_firstOn_20, e_Bk_firstOn_22, e_Bk_firstOn_23, e_Bk_firstOn_26, e_Bk_firstOn_29, e_Bk_firstOn_31, e_Bk_firstOn_34, e_Bk_firstOn_35, e_Bk_firstOn_38, e_Bk_firstOn_39, e_Bk_firstOn_42, e_Bk_firstOn_44, e_Bk_firstOn_45, e_Bk_firstOn_47, e_Bk_firstOn_50, e_Bk_firstOn_51, e_Bk_firstOn_54, e_Bk_firstOn_57, e_Bk_firstOn_60, e_Bk_firstOn_62, e_Bk_firstOn_63, e_Bk_firstOn_66, e_Bk_firstOn_69, e_Bk_firstOn_70, if_pos hle]
    rfl
  | succ n ih =>
    intro i f a4 h0 h1
    have hle : ¬ gI σ 6 0 2 ≤ i := by omega
    have ihn : ∀ (a4 : AV), ev 8 4 [aR 6 0, aI w, aN, aI (i + 1), a4] [] σ = some (some (oqq (fstF σ w n (i + 1) none)), σ) := fun a4 => ih (i + 1) none a4 (by omega) (by omega)
    have ihs : ∀ (j : Int) (a4 : AV), ev 8 4 [aR 6 0, aI w, aR 8 j, aI (i + 1), a4] [] σ = some (some (oqq (fstF σ w n (i + 1) (some j))), σ) := fun j a4 => ih (i + 1) (some j) a4 (by omega) (by omega)
    rw [e_Bk_firstOn_4]
    cases f with
    | none =>
      simp (disch := omega) only [e_Bk_firstOn_0, e_Bk_firstOn_1, e_Bk_firstOn_2, e_Bk_firstOn_3, e_Bk_firstOn_5, e_Bk_firstOn_6, e_Bk_firstOn_9, e_Bk_firstOn_12, e_Bk_firstOn_13, e_Bk_firstOn_16, e_Bk_firstOn_17, e_Bk_firstOn_18, e_Bk_firstOn_20, e_Bk_firstOn_22, e_Bk_firstOn_23, e_Bk_firstOn_26, e_Bk_firstOn_29, e_Bk_firstOn_31, e_Bk_firstOn_34, e_Bk_firstOn_35, e_Bk_firstOn_38, e_Bk_firstOn_39, e_Bk_firstOn_42, e_Bk_firstOn_44, e_Bk_firstOn_45, e_Bk_firstOn_47, e_Bk_firstOn_50, e_Bk_firstOn_51, e_Bk_firstOn_54, e_Bk_firstOn_57, e_Bk_firstOn_60, e_Bk_firstOn_62, e_Bk_firstOn_63, e_Bk_firstOn_66, e_Bk_firstOn_69, e_Bk_firstOn_70, if_neg hle, c_Ord_restsOn, evK_i, b01, wr_id, Option.map_none, Int.mul_zero, Int.zero_add, ihn, ihs, if_true]
      rw [fstF]
      grind
    | some j =>
      simp (disch := omega) only [e_Bk_firstOn_0, e_Bk_firstOn_1, e_Bk_firstOn_2, e_Bk_firstOn_3, e_Bk_firstOn_5, e_Bk_firstOn_6, e_Bk_firstOn_9, e_Bk_firstOn_12, e_Bk_firstOn_13, e_Bk_firstOn_16, e_Bk_firstOn_17, e_Bk_firstOn_18, e_Bk_firstOn_20, e_Bk_firstOn_22, e_Bk_firstOn_23, e_Bk_firstOn_26, e_Bk_firstOn_29, e_Bk_firstOn_31, e_Bk_firstOn_34, e_Bk_firstOn_35, e_Bk_firstOn_38, e_Bk_firstOn_39, e_Bk_firstOn_42, e_Bk_firstOn_44, e_Bk_firstOn_45, e_Bk_firstOn_47, e_Bk_firstOn_50, e_Bk_firstOn_51, e_Bk_firstOn_54, e_Bk_firstOn_57, e_Bk_firstOn_60, e_Bk_firstOn_62, e_Bk_firstOn_63, e_Bk_firstOn_66, e_Bk_firstOn_69, e_Bk_firstOn_70, if_neg hle, c_Ord_restsOn, c_Ord_isAheadOf, evK_i, b01, wr_id, Option.map_some, Int.mul_zero, Int.zero_add, ihn, ihs, reduceCtorEq, if_false]
      rw [fstF]
      grind
theorem c_Bk_firstOn (w : Int) (σ : aM) (h0 : 0 ≤ gI σ 6 0 2) (hc : gI σ 6 0 2 ≤ 60) : ev 8 0 [aR 6 0, aI w, aU, aU, aU] [] σ = some (some (oqq (frs σ w)), σ) := by
  have h := l_Bk_firstOn σ w hc (gI σ 6 0 2).toNat 0 none aU (by omega) (by omega)
  have h : ev 8 4 [aR 6 0, aI w, aN, aI 0, aU] [] σ = some (some (oqq (frs σ w)), σ) := h
  simp (disch := omega) only [e_Bk_firstOn_0, e_Bk_firstOn_1, e_Bk_firstOn_2, e_Bk_firstOn_3, h]
