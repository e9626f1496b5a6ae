/-! numbers, for the methods' equations -/
theorem wr_id {a : Int} (h1 : -2147483648 ≤ a) (h2 : a < 2147483648) : wr a = a := Int32.toInt_ofInt_of_le h1 h2
theorem wr_eq (a : Int) : wr a = a.bmod 4294967296 := Int32.toInt_ofInt
theorem wr_add (a b : Int) : wr (wr a + b) = wr (a + b) := by rw [wr_eq, wr_eq, wr_eq, Int.bmod_add_bmod]
theorem wr_sub (a b : Int) : wr (wr a - b) = wr (a - b) := by rw [Int.sub_eq_add_neg, wr_add, ← Int.sub_eq_add_neg]
theorem wr_adr (a b : Int) : wr (a + wr b) = wr (a + b) := by rw [Int.add_comm, wr_add, Int.add_comm]
theorem wr_lo (a : Int) : -2147483648 ≤ wr a := Int32.le_toInt _
theorem wr_hi (a : Int) : wr a < 2147483648 := Int32.toInt_lt _
theorem b01 {c : Prop} [Decidable c] : ((if c then (1 : Int) else 0) = 0) = ¬ c := by by_cases h : c <;> simp [h]
theorem b10 {c : Prop} [Decidable c] : ((if c then (1 : Int) else 0) = 1) = c := by by_cases h : c <;> simp [h]
/-! reads behind writes -/
theorem gI_uI (σ : aM) (t : Nat) (i j v : Int) (t' : Nat) (i' j' : Int) : gI (uI σ t i j v) t' i' j' = if t' = t ∧ i' = i ∧ j' = j then v else gI σ t' i' j' := rfl
theorem gL_uI (σ : aM) (t : Nat) (i j v : Int) (t' : Nat) (i' j' : Int) : gL (uI σ t i j v) t' i' j' = gL σ t' i' j' := rfl
theorem gR_uI (σ : aM) (t : Nat) (i j v : Int) (j' : Int) : gR (uI σ t i j v) j' = gR σ j' := rfl
theorem gI_uL (σ : aM) (t : Nat) (i j : Int) (v : Int64) (t' : Nat) (i' j' : Int) : gI (uL σ t i j v) t' i' j' = gI σ t' i' j' := rfl
theorem gL_uL (σ : aM) (t : Nat) (i j : Int) (v : Int64) (t' : Nat) (i' j' : Int) : gL (uL σ t i j v) t' i' j' = if t' = t ∧ i' = i ∧ j' = j then v else gL σ t' i' j' := rfl
theorem gR_uL (σ : aM) (t : Nat) (i j : Int) (v : Int64) (j' : Int) : gR (uL σ t i j v) j' = gR σ j' := rfl
theorem gI_uR (σ : aM) (j : Int) (q : Option (Nat × Int)) (t' : Nat) (i' j' : Int) : gI (uR σ j q) t' i' j' = gI σ t' i' j' := rfl
theorem gL_uR (σ : aM) (j : Int) (q : Option (Nat × Int)) (t' : Nat) (i' j' : Int) : gL (uR σ j q) t' i' j' = gL σ t' i' j' := rfl
theorem gR_uR (σ : aM) (j : Int) (q : Option (Nat × Int)) (j' : Int) : gR (uR σ j q) j' = if j' = j then q else gR σ j' := rfl
theorem gI_kI (σ : aM) (t : Nat) (i a : Int) (t2 : Nat) (i2 b n : Int) (t' : Nat) (i' j' : Int) : gI (kI σ t i a t2 i2 b n) t' i' j' = if t' = t2 ∧ i' = i2 ∧ b ≤ j' ∧ j' < b + n then gI σ t i (j' - b + a) else gI σ t' i' j' := rfl
theorem gL_kI (σ : aM) (t : Nat) (i a : Int) (t2 : Nat) (i2 b n : Int) (t' : Nat) (i' j' : Int) : gL (kI σ t i a t2 i2 b n) t' i' j' = gL σ t' i' j' := rfl
theorem gR_kI (σ : aM) (t : Nat) (i a : Int) (t2 : Nat) (i2 b n : Int) (j' : Int) : gR (kI σ t i a t2 i2 b n) j' = gR σ j' := rfl
theorem gI_kL (σ : aM) (t : Nat) (i a : Int) (t2 : Nat) (i2 b n : Int) (t' : Nat) (i' j' : Int) : gI (kL σ t i a t2 i2 b n) t' i' j' = gI σ t' i' j' := rfl
theorem gL_kL (σ : aM) (t : Nat) (i a : Int) (t2 : Nat) (i2 b n : Int) (t' : Nat) (i' j' : Int) : gL (kL σ t i a t2 i2 b n) t' i' j' = if t' = t2 ∧ i' = i2 ∧ b ≤ j' ∧ j' < b + n then gL σ t i (j' - b + a) else gL σ t' i' j' := rfl
theorem gR_kL (σ : aM) (t : Nat) (i a : Int) (t2 : Nat) (i2 b n : Int) (j' : Int) : gR (kL σ t i a t2 i2 b n) j' = gR σ j' := rfl
theorem one_ne : ((1 : Int) = 0) = False := by simp
theorem gI_self (σ : aM) (t : Nat) (i j v : Int) : gI (uI σ t i j v) t i j = v := by simp [gI_uI]
theorem gI_nt (σ : aM) (t : Nat) (i j v : Int) (t' : Nat) (i' j' : Int) (h : ¬ t' = t) : gI (uI σ t i j v) t' i' j' = gI σ t' i' j' := by rw [gI_uI, if_neg (fun q => h q.1)]
theorem gI_nj (σ : aM) (t : Nat) (i j v : Int) (t' : Nat) (i' j' : Int) (h : ¬ j' = j) : gI (uI σ t i j v) t' i' j' = gI σ t' i' j' := by rw [gI_uI, if_neg (fun q => h q.2.2)]
theorem gI_ni (σ : aM) (t : Nat) (i j v : Int) (t' : Nat) (i' j' : Int) (h : ¬ i' = i) : gI (uI σ t i j v) t' i' j' = gI σ t' i' j' := by rw [gI_uI, if_neg (fun q => h q.2.1)]
/-! the smallest methods -/
theorem c_Ub_isShelf (s : Int) (σ : aM) : ev 117 0 [aI s] [] σ = some (some (aI (if 0 ≤ s ∧ s < 8 then 1 else 0)), σ) := by
  simp (disch := omega) only [e_Ub_isShelf_0, e_Ub_isShelf_1, e_Ub_isShelf_4, e_Ub_isShelf_5, e_Ub_isShelf_7, e_Ub_isShelf_10, e_Ub_isShelf_11, e_Ub_isShelf_14, e_Ub_isShelf_15]
  grind
theorem c_Ub_isOwner (s : Int) (σ : aM) : ev 118 0 [aI s] [] σ = some (some (aI (if 0 ≤ s ∧ s < 8 then 1 else 0)), σ) := by
  simp (disch := omega) only [e_Ub_isOwner_0, e_Ub_isOwner_1, e_Ub_isOwner_4, e_Ub_isOwner_5, e_Ub_isOwner_7, e_Ub_isOwner_10, e_Ub_isOwner_11, e_Ub_isOwner_14, e_Ub_isOwner_15]
  grind
theorem c_Ub_isSide (s : Int) (σ : aM) : ev 119 0 [aI s] [] σ = some (some (aI (if 0 ≤ s ∧ s < 2 then 1 else 0)), σ) := by
  simp (disch := omega) only [e_Ub_isSide_0, e_Ub_isSide_1, e_Ub_isSide_4, e_Ub_isSide_5, e_Ub_isSide_6, e_Ub_isSide_9, e_Ub_isSide_10, e_Ub_isSide_13, e_Ub_isSide_14]
  grind
theorem c_Ub_isMeasure (s : Int) (σ : aM) : ev 120 0 [aI s] [] σ = some (some (aI (if 1 ≤ s ∧ s < 1000 then 1 else 0)), σ) := by
  simp (disch := omega) only [e_Ub_isMeasure_0, e_Ub_isMeasure_1, e_Ub_isMeasure_2, e_Ub_isMeasure_5, e_Ub_isMeasure_6, e_Ub_isMeasure_9, e_Ub_isMeasure_12, e_Ub_isMeasure_13, e_Ub_isMeasure_16, e_Ub_isMeasure_17]
  grind
theorem c_Ub_otherSide (s : Int) (σ : aM) : ev 121 0 [aI s] [] σ = some (some (aI (if s = 0 then 1 else 0)), σ) := by
  simp (disch := omega) only [e_Ub_otherSide_0, e_Ub_otherSide_1, e_Ub_otherSide_4, e_Ub_otherSide_5, e_Ub_otherSide_8, e_Ub_otherSide_9]
  grind
theorem c_Md_in (v a b : Int) (σ : aM) : ev 123 0 [aI v, aI a, aI b] [] σ = some (some (aI (if a ≤ v ∧ v ≤ b then 1 else 0)), σ) := by
  simp (disch := omega) only [e_Md_in_0, e_Md_in_1, e_Md_in_2, e_Md_in_5, e_Md_in_6, e_Md_in_7, e_Md_in_10, e_Md_in_11, e_Md_in_14, e_Md_in_15]
  grind
theorem c_Md_isSide (s : Int) (σ : aM) : ev 127 0 [aI s] [] σ = some (some (aI (if 0 ≤ s ∧ s < 2 then 1 else 0)), σ) := by
  simp (disch := grind) only [e_Md_isSide_0, e_Md_isSide_1, e_Md_isSide_2, e_Md_isSide_3, e_Md_isSide_6, c_Md_in, evK_i]
  grind
theorem c_Ord_restsOn (i w : Int) (σ : aM) : ev 38 0 [aR 8 i, aI w] [] σ = some (some (aI (if gI σ 8 i 5 = 1 ∧ gI σ 8 i 3 = w then 1 else 0)), σ) := by
  simp (disch := omega) only [e_Ord_restsOn_0, e_Ord_restsOn_1, e_Ord_restsOn_4, e_Ord_restsOn_5, e_Ord_restsOn_8, e_Ord_restsOn_9, e_Ord_restsOn_12, e_Ord_restsOn_13, e_Ord_restsOn_16, e_Ord_restsOn_17, e_Ord_restsOn_20, e_Ord_restsOn_21]
  grind
theorem c_Ord_visibleNow (i : Int) (σ : aM) : ev 39 0 [aR 8 i] [] σ = some (some (aI (if gI σ 8 i 5 = 1 then (if gI σ 8 i 1 = 2 then gI σ 8 i 9 else gI σ 8 i 4) else 0)), σ) := by
  simp (disch := omega) only [e_Ord_visibleNow_0, e_Ord_visibleNow_1, e_Ord_visibleNow_4, e_Ord_visibleNow_5, e_Ord_visibleNow_8, e_Ord_visibleNow_9, e_Ord_visibleNow_10, e_Ord_visibleNow_11, e_Ord_visibleNow_14, e_Ord_visibleNow_15, e_Ord_visibleNow_18, e_Ord_visibleNow_19, e_Ord_visibleNow_22, e_Ord_visibleNow_25, e_Ord_visibleNow_26, e_Ord_visibleNow_29]
  grind
theorem c_Ub_refuse (r : Int) (σ : aM) (h : -7 ≤ r ∧ r < 0) : ev 113 0 [aR 0 0, aI r] [] σ = some (some (aI r), uI σ 4 0 (-r) (wr (gI σ 4 0 (-r) + 1))) := by
  simp (disch := omega) only [e_Ub_refuse_0, e_Ub_refuse_1, e_Ub_refuse_4, e_Ub_refuse_5, e_Ub_refuse_7, e_Ub_refuse_10, e_Ub_refuse_11, e_Ub_refuse_14, e_Ub_refuse_15, e_Ub_refuse_16, e_Ub_refuse_17, e_Ub_refuse_18, e_Ub_refuse_19, e_Ub_refuse_20, e_Ub_refuse_21, e_Ub_refuse_22, wr_id]
  grind
