/-! what the desk's methods leave as it was -/
abbrev chg (t : Nat) (i j : Int) : Prop := (t = 8 ∧ (j = 4 ∨ j = 5 ∨ j = 6 ∨ j = 9 ∨ j = 10)) ∨ (t = 6 ∧ i = 0 ∧ j = 6) ∨ (t = 9 ∧ i = 0) ∨ ((t = 10 ∨ t = 11 ∨ t = 12) ∧ i = 0)
def Fr (σ σ' : aM) : Prop := σ'.2 = σ.2 ∧ ∀ t i j, ¬ chg t i j → gI σ' t i j = gI σ t i j
theorem Fr.rfl (σ : aM) : Fr σ σ := ⟨Eq.refl _, fun _ _ _ _ => Eq.refl _⟩
theorem Fr.trans {a b c : aM} (h1 : Fr a b) (h2 : Fr b c) : Fr a c := ⟨h2.1.trans h1.1, fun t i j h => (h2.2 t i j h).trans (h1.2 t i j h)⟩
theorem Fr.u {a b : aM} (h : Fr a b) {t : Nat} {i j v : Int} (hc : chg t i j) : Fr a (uI b t i j v) := ⟨h.1, fun t' i' j' hn => by
  rw [gI_uI, if_neg (fun q => hn (by obtain ⟨rfl, rfl, rfl⟩ := q; exact hc))]
  exact h.2 t' i' j' hn⟩
theorem Fr.g {a b : aM} (h : Fr a b) {t : Nat} {i j : Int} (hn : ¬ chg t i j) : gI b t i j = gI a t i j := h.2 t i j hn
theorem kGv_fr (σ : aM) (i q : Int) : Fr σ (kGv σ i q) := by
  unfold kGv
  split
  · exact ((((Fr.rfl σ).u (by simp [chg])).u (by simp [chg])).u (by simp [chg]))
  · exact (((Fr.rfl σ).u (by simp [chg])).u (by simp [chg]))
theorem kNt_fr (σ : aM) (x z p q : Int) : Fr σ (kNt σ x z p q) := by
  unfold kNt
  have h1 : Fr σ (if gI σ 9 0 3 < 200 then uI (uI (uI (uI σ 10 0 (gI σ 9 0 3 * 4) (gI σ 8 x 0)) 10 0 (gI σ 9 0 3 * 4 + 1) (gI σ 8 z 0)) 10 0 (gI σ 9 0 3 * 4 + 2) p) 10 0 (gI σ 9 0 3 * 4 + 3) q else σ) := by
    split
    · exact (((((Fr.rfl σ).u (by simp [chg])).u (by simp [chg])).u (by simp [chg])).u (by simp [chg]))
    · exact Fr.rfl σ
  exact ((((((h1.u (by simp [chg])).u (by simp [chg])).u (by simp [chg])).u (by simp [chg])).u (by simp [chg])).u (by simp [chg]))
theorem kTa_fr (σ : aM) (x z p q : Int) : Fr σ (kTa σ x z p q) := ((kNt_fr σ x z p q).trans (kGv_fr _ _ _)).trans (kGv_fr _ _ _)
theorem kSh_fr (σ : aM) (i : Int) : Fr σ (kSh σ i) := by
  unfold kSh
  split
  · exact (Fr.rfl σ).u (by simp [chg])
  · exact Fr.rfl σ
theorem kTm_fr (σ : aM) (i : Int) : Fr σ (kTm σ i) := ((Fr.rfl σ).u (by simp [chg])).u (by simp [chg])
theorem kRs_fr (σ : aM) (i : Int) : Fr σ (kRs σ i) := (((Fr.rfl σ).u (by simp [chg])).trans (kSh_fr _ _)).trans (kTm_fr _ _)
theorem kLs_fr (σ : aM) (i q : Int) : Fr σ (kLs σ i q) := ((Fr.rfl σ).u (by simp [chg])).u (by simp [chg])
/-- what the walk needs: the count, owners, the number of trades -/
def CO (σ : aM) (B : Int) : Prop := (0 ≤ gI σ 6 0 2 ∧ gI σ 6 0 2 ≤ 60) ∧ (∀ i, 0 ≤ i → i ≤ 120 → 0 ≤ gI σ 8 i 2 ∧ gI σ 8 i 2 < 8) ∧ 0 ≤ gI σ 9 0 3 ∧ gI σ 9 0 3 ≤ B
theorem CO.to {σ σ' : aM} {B B' : Int} (h : CO σ B) (hf : Fr σ σ') (h0 : 0 ≤ gI σ' 9 0 3) (h1 : gI σ' 9 0 3 ≤ B') : CO σ' B' := by
  obtain ⟨a, b, -⟩ := h
  refine ⟨by rw [hf.g (by simp [chg])]; exact a, fun i hi hj => by rw [hf.g (by simp [chg])]; exact b i hi hj, h0, h1⟩
theorem CO.same {σ σ' : aM} {B : Int} (h : CO σ B) (hf : Fr σ σ') (h0 : gI σ' 9 0 3 = gI σ 9 0 3) : CO σ' B := h.to hf (by rw [h0]; exact h.2.2.1) (by rw [h0]; exact h.2.2.2)
theorem CO.mono {σ : aM} {B B' : Int} (h : CO σ B) (hb : B ≤ B') : CO σ B' := ⟨h.1, h.2.1, h.2.2.1, Int.le_trans h.2.2.2 hb⟩
/-- how the number of trades goes on -/
theorem kGv_T (σ : aM) (i q : Int) : gI (kGv σ i q) 9 0 3 = gI σ 9 0 3 := by
  unfold kGv
  split <;> simp (disch := omega) only [gI_self, gI_nt, gI_nj, gL_uI, gR_uI, gI_uL, gR_uL, gI_uR, gL_uR]
theorem kNt_T (σ : aM) (x z p q : Int) : gI (kNt σ x z p q) 9 0 3 = wr (gI σ 9 0 3 + 1) := by
  unfold kNt
  simp (disch := omega) only [gI_self, gI_nt, gI_nj, gL_uI, gR_uI, gI_uL, gR_uL, gI_uR, gL_uR]
theorem kTa_T (σ : aM) (x z p q : Int) : gI (kTa σ x z p q) 9 0 3 = wr (gI σ 9 0 3 + 1) := by
  unfold kTa
  rw [kGv_T, kGv_T, kNt_T]
theorem kSh_T (σ : aM) (i : Int) : gI (kSh σ i) 9 0 3 = gI σ 9 0 3 := by
  unfold kSh
  split
  · simp (disch := omega) only [gI_self, gI_nt, gI_nj, gL_uI, gR_uI, gI_uL, gR_uL, gI_uR, gL_uR]
  · rfl
theorem kTm_T (σ : aM) (i : Int) : gI (kTm σ i) 9 0 3 = gI σ 9 0 3 := by
  unfold kTm
  simp (disch := omega) only [gI_self, gI_nt, gI_nj, gL_uI, gR_uI, gI_uL, gR_uL, gI_uR, gL_uR]
theorem kRs_T (σ : aM) (i : Int) : gI (kRs σ i) 9 0 3 = gI σ 9 0 3 := by
  unfold kRs
  rw [kTm_T, kSh_T]
  simp (disch := omega) only [gI_self, gI_nt, gI_nj, gL_uI, gR_uI, gI_uL, gR_uL, gI_uR, gL_uR]
theorem kLs_T (σ : aM) (i q : Int) : gI (kLs σ i q) 9 0 3 = gI σ 9 0 3 := by
  unfold kLs
  simp (disch := omega) only [gI_self, gI_nt, gI_nj, gL_uI, gR_uI, gI_uL, gR_uL, gI_uR, gL_uR]
/-! the desk -/
theorem c_Dk_noLimit (w : Int) (σ : aM) : ev 20 0 [aI w] [] σ = some (some (aI (if w = 0 then 999 else 1)), σ) := by
  simp (disch := omega) only [e_Dk_noLimit_0, e_Dk_noLimit_1, e_Dk_noLimit_4, e_Dk_noLimit_7, e_Dk_noLimit_10, e_Dk_noLimit_11]
  grind
def kEu (σ : aM) (i : Int) : aM := if gI σ 8 i 5 = 4 then uI σ 8 i 5 3 else σ
theorem c_Dk_endUnrested (i : Int) (σ : aM) : ev 21 0 [aR 8 i] [] σ = some (none, kEu σ i) := by
  unfold kEu
  simp (disch := omega) only [e_Dk_endUnrested_0, e_Dk_endUnrested_1, e_Dk_endUnrested_4, e_Dk_endUnrested_5, e_Dk_endUnrested_8, e_Dk_endUnrested_9, e_Dk_endUnrested_10, e_Dk_endUnrested_13]
  grind
theorem kEu_fr (σ : aM) (i : Int) : Fr σ (kEu σ i) := by
  unfold kEu
  split
  · exact (Fr.rfl σ).u (by simp [chg])
  · exact Fr.rfl σ
theorem kEu_T (σ : aM) (i : Int) : gI (kEu σ i) 9 0 3 = gI σ 9 0 3 := by
  unfold kEu
  split
  · simp (disch := omega) only [gI_self, gI_nt, gI_nj, gL_uI, gR_uI, gI_uL, gR_uL, gI_uR, gL_uR]
  · rfl
abbrev wth (σ : aM) (c p l : Int) : Prop := ¬ p = 0 ∧ ((gI σ 8 c 3 = 0 ∧ p ≤ l) ∨ (¬ gI σ 8 c 3 = 0 ∧ l ≤ p))
theorem c_Dk_isWithin (c p l : Int) (σ : aM) : ev 23 0 [aR 8 c, aI p, aI l] [] σ = some (some (aI (if wth σ c p l then 1 else 0)), σ) := by
  simp (disch := omega) only [e_Dk_isWithin_0, e_Dk_isWithin_1, e_Dk_isWithin_4, e_Dk_isWithin_5, e_Dk_isWithin_6, e_Dk_isWithin_7, e_Dk_isWithin_10, e_Dk_isWithin_13, e_Dk_isWithin_14, e_Dk_isWithin_15, e_Dk_isWithin_18, e_Dk_isWithin_19, e_Dk_isWithin_22, e_Dk_isWithin_23, e_Dk_isWithin_26, e_Dk_isWithin_27, e_Dk_isWithin_28, e_Dk_isWithin_31, e_Dk_isWithin_32, e_Dk_isWithin_35, e_Dk_isWithin_36]
  grind
def kLb (σ : aM) (i q : Int) : aM := if wr (gI σ 8 i 4 - q) = 0 then uI (kLs σ i (wr (gI σ 8 i 4 - q))) 8 i 5 3 else kLs σ i (wr (gI σ 8 i 4 - q))
theorem c_Dk_lessenBy (i q : Int) (σ : aM) : ev 29 0 [aR 8 i, aI q] [] σ = some (none, kLb σ i q) := by
  unfold kLb
  have e : ∀ z, gI (kLs σ i z) 8 i 4 = z := by
    intro z
    unfold kLs
    simp (disch := omega) only [gI_self, gI_nt, gI_nj, gL_uI, gR_uI, gI_uL, gR_uL, gI_uR, gL_uR]
  simp (disch := omega) only [e_Dk_lessenBy_0, e_Dk_lessenBy_1, e_Dk_lessenBy_2, e_Dk_lessenBy_5, e_Dk_lessenBy_6, e_Dk_lessenBy_7, e_Dk_lessenBy_10, e_Dk_lessenBy_11, e_Dk_lessenBy_14, e_Dk_lessenBy_17, e_Dk_lessenBy_18, e_Dk_lessenBy_19, e_Dk_lessenBy_22, c_Ord_lessenTo, evK_v, e]
  grind
theorem kLb_fr (σ : aM) (i q : Int) : Fr σ (kLb σ i q) := by
  unfold kLb
  split
  · exact (kLs_fr _ _ _).u (by simp [chg])
  · exact kLs_fr _ _ _
theorem kLb_T (σ : aM) (i q : Int) : gI (kLb σ i q) 9 0 3 = gI σ 9 0 3 := by
  unfold kLb
  split
  · simp (disch := omega) only [gI_self, gI_nt, gI_nj, gL_uI, gR_uI, gI_uL, gR_uL, gI_uR, gL_uR, kLs_T]
  · rw [kLs_T]
def kMo (σ : aM) (c f : Int) : aM := if gI σ 6 0 4 = 1 then uI σ 8 c 5 3 else if gI σ 6 0 4 = 2 then uI σ 8 f 5 3 else
  kLb (kLb σ c (if gI σ 8 f 4 < gI σ 8 c 4 then gI σ 8 f 4 else gI σ 8 c 4)) f (if gI σ 8 f 4 < gI σ 8 c 4 then gI σ 8 f 4 else gI σ 8 c 4)
theorem c_Dk_meetOwn (c f : Int) (σ : aM) : ev 28 0 [aR 5 0, aR 8 c, aR 8 f, aU] [] σ = some (none, kMo σ c f) := by
  unfold kMo
  simp (disch := omega) only [e_Dk_meetOwn_0, e_Dk_meetOwn_1, e_Dk_meetOwn_4, e_Dk_meetOwn_7, e_Dk_meetOwn_8, e_Dk_meetOwn_11, e_Dk_meetOwn_12, e_Dk_meetOwn_13, e_Dk_meetOwn_16, e_Dk_meetOwn_19, e_Dk_meetOwn_20, e_Dk_meetOwn_23, e_Dk_meetOwn_26, e_Dk_meetOwn_27, e_Dk_meetOwn_30, e_Dk_meetOwn_31, e_Dk_meetOwn_32, e_Dk_meetOwn_35, e_Dk_meetOwn_38, e_Dk_meetOwn_39, e_Dk_meetOwn_42, e_Dk_meetOwn_43, e_Dk_meetOwn_46, e_Dk_meetOwn_49, e_Dk_meetOwn_50, e_Dk_meetOwn_51, e_Dk_meetOwn_52, e_Dk_meetOwn_55, e_Dk_meetOwn_56, e_Dk_meetOwn_57, e_Dk_meetOwn_60, c_Dk_lessenBy, evK_v]
  grind
theorem kMo_fr (σ : aM) (c f : Int) : Fr σ (kMo σ c f) := by
  unfold kMo
  split
  · exact (Fr.rfl σ).u (by simp [chg])
  · split
    · exact (Fr.rfl σ).u (by simp [chg])
    · exact (kLb_fr _ _ _).trans (kLb_fr _ _ _)
theorem kMo_T (σ : aM) (c f : Int) : gI (kMo σ c f) 9 0 3 = gI σ 9 0 3 := by
  unfold kMo
  split
  · simp (disch := omega) only [gI_self, gI_nt, gI_nj, gL_uI, gR_uI, gI_uL, gR_uL, gI_uR, gL_uR]
  · split
    · simp (disch := omega) only [gI_self, gI_nt, gI_nj, gL_uI, gR_uI, gI_uL, gR_uL, gI_uR, gL_uR]
    · rw [kLb_T, kLb_T]
def kCr (σ : aM) (i q : Int) : aM := if wr (gI σ 8 i 9 - q) ≤ 0 then kTm (kSh (uI σ 8 i 9 (wr (gI σ 8 i 9 - q))) i) i else uI σ 8 i 9 (wr (gI σ 8 i 9 - q))
theorem c_Dk_comeRound (i q : Int) (σ : aM) : ev 26 0 [aR 5 0, aR 8 i, aI q] [] σ = some (none, kCr σ i q) := by
  unfold kCr
  simp (disch := omega) only [e_Dk_comeRound_0, e_Dk_comeRound_1, e_Dk_comeRound_2, e_Dk_comeRound_5, e_Dk_comeRound_6, e_Dk_comeRound_7, e_Dk_comeRound_10, e_Dk_comeRound_11, e_Dk_comeRound_14, e_Dk_comeRound_17, e_Dk_comeRound_18, e_Dk_comeRound_21, e_Dk_comeRound_22, e_Dk_comeRound_25, e_Dk_comeRound_26, e_Dk_comeRound_29, c_Ord_showAnew, c_Bk_giveTime, evK_v, gI_self, gI_nt, gI_nj, gL_uI, gR_uI, gI_uL, gR_uL, gI_uR, gL_uR]
  grind
theorem kCr_fr (σ : aM) (i q : Int) : Fr σ (kCr σ i q) := by
  unfold kCr
  split
  · exact (((Fr.rfl σ).u (by simp [chg])).trans (kSh_fr _ _)).trans (kTm_fr _ _)
  · exact (Fr.rfl σ).u (by simp [chg])
theorem kCr_T (σ : aM) (i q : Int) : gI (kCr σ i q) 9 0 3 = gI σ 9 0 3 := by
  unfold kCr
  split
  · rw [kTm_T, kSh_T]
    simp (disch := omega) only [gI_self, gI_nt, gI_nj, gL_uI, gR_uI, gI_uL, gR_uL, gI_uR, gL_uR]
  · simp (disch := omega) only [gI_self, gI_nt, gI_nj, gL_uI, gR_uI, gI_uL, gR_uL, gI_uR, gL_uR]
/-- what is to be seen of one -/
def vsN (σ : aM) (i : Int) : Int := if gI σ 8 i 5 = 1 then (if gI σ 8 i 1 = 2 then gI σ 8 i 9 else gI σ 8 i 4) else 0
/-- how much two trade -/
def mtQ (σ : aM) (c f : Int) : Int := if vsN σ f < gI σ 8 c 4 then vsN σ f else gI σ 8 c 4
def kMa (σ : aM) (c f : Int) : aM := if gI σ 8 c 3 = 0 then kTa σ c f (gI σ 8 f 7) (mtQ σ c f) else kTa σ f c (gI σ 8 f 7) (mtQ σ c f)
def kMt (σ : aM) (c f : Int) : aM := if gI (kMa σ c f) 8 f 1 = 2 ∧ gI (kMa σ c f) 8 f 5 = 1 then kCr (kMa σ c f) f (mtQ σ c f) else kMa σ c f
theorem c_Dk_meet (c f : Int) (σ : aM) (hx : 0 ≤ gI σ 8 c 2 ∧ gI σ 8 c 2 < 8) (hz : 0 ≤ gI σ 8 f 2 ∧ gI σ 8 f 2 < 8) (hc : 0 ≤ gI σ 9 0 3) : ev 25 0 [aR 5 0, aR 8 c, aR 8 f, aU] [] σ = some (none, kMt σ c f) := by
  unfold kMt kMa
  have hv := c_Ord_visibleNow f σ
  rw [show (if gI σ 8 f 5 = 1 then (if gI σ 8 f 1 = 2 then gI σ 8 f 9 else gI σ 8 f 4) else 0) = vsN σ f from rfl] at hv
  by_cases h : gI σ 8 c 3 = 0
  · simp (disch := omega) only [e_Dk_meet_0, e_Dk_meet_1, e_Dk_meet_4, e_Dk_meet_5, e_Dk_meet_8, e_Dk_meet_11, e_Dk_meet_12, e_Dk_meet_13, e_Dk_meet_16, e_Dk_meet_19, e_Dk_meet_20, e_Dk_meet_21, e_Dk_meet_22, e_Dk_meet_23, e_Dk_meet_26, e_Dk_meet_27, e_Dk_meet_30, e_Dk_meet_33, e_Dk_meet_34, e_Dk_meet_35, e_Dk_meet_36, e_Dk_meet_37, e_Dk_meet_40, e_Dk_meet_41, e_Dk_meet_44, e_Dk_meet_45, e_Dk_meet_48, e_Dk_meet_49, e_Dk_meet_52, e_Dk_meet_53, e_Dk_meet_56, e_Dk_meet_57, e_Dk_meet_60, e_Dk_meet_61, e_Dk_meet_62, e_Dk_meet_63, e_Dk_meet_66, hv, c_Dk_tradeAway, c_Dk_comeRound, evK_i, evK_v, h, not_true_eq_false, if_false, if_true]
    unfold mtQ
    grind
  · simp (disch := omega) only [e_Dk_meet_0, e_Dk_meet_1, e_Dk_meet_4, e_Dk_meet_5, e_Dk_meet_8, e_Dk_meet_11, e_Dk_meet_12, e_Dk_meet_13, e_Dk_meet_16, e_Dk_meet_19, e_Dk_meet_20, e_Dk_meet_21, e_Dk_meet_22, e_Dk_meet_23, e_Dk_meet_26, e_Dk_meet_27, e_Dk_meet_30, e_Dk_meet_33, e_Dk_meet_34, e_Dk_meet_35, e_Dk_meet_36, e_Dk_meet_37, e_Dk_meet_40, e_Dk_meet_41, e_Dk_meet_44, e_Dk_meet_45, e_Dk_meet_48, e_Dk_meet_49, e_Dk_meet_52, e_Dk_meet_53, e_Dk_meet_56, e_Dk_meet_57, e_Dk_meet_60, e_Dk_meet_61, e_Dk_meet_62, e_Dk_meet_63, e_Dk_meet_66, hv, c_Dk_tradeAway, c_Dk_comeRound, evK_i, evK_v, h, not_false_eq_true, if_true, if_false]
    unfold mtQ
    grind
theorem kMa_fr (σ : aM) (c f : Int) : Fr σ (kMa σ c f) := by
  unfold kMa
  split <;> exact kTa_fr _ _ _ _ _
theorem kMa_T (σ : aM) (c f : Int) : gI (kMa σ c f) 9 0 3 = wr (gI σ 9 0 3 + 1) := by
  unfold kMa
  split <;> exact kTa_T _ _ _ _ _
theorem kMt_fr (σ : aM) (c f : Int) : Fr σ (kMt σ c f) := by
  unfold kMt
  split
  · exact (kMa_fr _ _ _).trans (kCr_fr _ _ _)
  · exact kMa_fr _ _ _
theorem kMt_T (σ : aM) (c f : Int) : gI (kMt σ c f) 9 0 3 = wr (gI σ 9 0 3 + 1) := by
  unfold kMt
  split
  · rw [kCr_T, kMa_T]
  · exact kMa_T _ _ _
/-- one step of going in: against the first of the other side -/
def kSt (σ : aM) (c f : Int) : aM := if gI σ 8 f 2 = gI σ 8 c 2 ∧ ¬ gI σ 6 0 4 = 0 then kMo σ c f else kMt σ c f
theorem kSt_fr (σ : aM) (c f : Int) : Fr σ (kSt σ c f) := by
  unfold kSt
  split
  · exact kMo_fr _ _ _
  · exact kMt_fr _ _ _
theorem kSt_CO {σ : aM} {B : Int} (h : CO σ B) (hB : B < 2147483647) (c f : Int) : CO (kSt σ c f) (B + 1) := by
  have hT := h.2.2
  unfold kSt
  split
  · exact (h.same (kMo_fr _ _ _) (kMo_T _ _ _)).mono (by omega)
  · have e : gI (kMt σ c f) 9 0 3 = gI σ 9 0 3 + 1 := by rw [kMt_T, wr_id (by omega) (by omega)]
    exact h.to (kMt_fr _ _ _) (by omega) (by omega)
def oth (w : Int) : Int := if w = 0 then 1 else 0
def kGo : Nat → aM → Int → Int → aM
  | 0, σ, _, _ => σ
  | n + 1, σ, c, l => if ¬ gI σ 8 c 5 = 4 then σ else match frs σ (oth (gI σ 8 c 3)) with
    | none => σ
    | some f => if wth σ c (gI σ 8 f 7) l then kGo n (kSt σ c f) c l else σ
theorem kGo_fr : ∀ (n : Nat) (σ : aM) (c l : Int), Fr σ (kGo n σ c l) := by
  intro n
  induction n with
  | zero => intro σ c l; exact Fr.rfl σ
  | succ n ih =>
    intro σ c l
    rw [kGo]
    split
    · exact Fr.rfl σ
    · split
      · exact Fr.rfl σ
      · split
        · exact (kSt_fr _ _ _).trans (ih _ _ _)
        · exact Fr.rfl σ
theorem kGo_CO : ∀ (n : Nat) (σ : aM) (c l B : Int), CO σ B → B + n < 2147483647 → CO (kGo n σ c l) (B + n) := by
  intro n
  induction n with
  | zero => intro σ c l B h hB; exact h.mono (by omega)
  | succ n ih =>
    intro σ c l B h hB
    rw [kGo]
    split
    · exact h.mono (by omega)
    · split
      · exact h.mono (by omega)
      · split
        · rename_i f _ _
          have := ih (kSt σ c f) c l (B + 1) (kSt_CO h (by omega) c f) (by omega)
          exact this.mono (by omega)
        · exact h.mono (by omega)
theorem l_Dk_goIn : ∀ (n : Nat) (σ : aM) (c l w i B : Int) (a5 : AV), CO σ B → B + n < 2147483647 → 0 ≤ i → i + n = 1059 → 0 ≤ c → c ≤ 120 → w = oth (gI σ 8 c 3) → ev 24 11 [aR 5 0, aR 8 c, aI l, aI w, aI i, a5] [] σ = some (none, kGo n σ c l) := by
  intro n
  induction n with
  | zero =>
    intro σ c l w i B a5 h hB h0 h1 hc0 hc1 hw
    have hle : 1059 ≤ i := by omega
    rw [e_Dk_goIn_11]
    simp (disch := omega) only [e_Dk_goIn_0, e_Dk_goIn_1, e_Dk_goIn_4, e_Dk_goIn_7, e_Dk_goIn_8, e_Dk_goIn_9, e_Dk_goIn_13, e_Dk_goIn_16, e_Dk_goIn_19, e_Dk_goIn_20, e_Dk_goIn_23, e_Dk_goIn_24, e_Dk_goIn_27, e_Dk_goIn_28, e_Dk_goIn_31, e_Dk_goIn_32, e_Dk_goIn_35, e_Dk_goIn_37, e_Dk_goIn_39, e_Dk_goIn_42, e_Dk_goIn_43, e_Dk_goIn_45, e_Dk_goIn_48, e_Dk_goIn_49, e_Dk_goIn_52, e_Dk_goIn_55, e_Dk_goIn_56, e_Dk_goIn_58, e_Dk_goIn_61, e_Dk_goIn_62, e_Dk_goIn_65, e_Dk_goIn_68, e_Dk_goIn_69, e_Dk_goIn_72, e_Dk_goIn_75, e_Dk_goIn_78, e_Dk_goIn_79, e_Dk_goIn_80, e_Dk_goIn_82, e_Dk_goIn_85, e_Dk_goIn_88, e_Dk_goIn_89, e_Dk_goIn_90, e_Dk_goIn_92, e_Dk_goIn_95, e_Dk_goIn_98, e_Dk_goIn_101, if_pos hle]
    rfl
  | succ n ih =>
    intro σ c l w i B a5 h hB h0 h1 hc0 hc1 hw
    have hle : ¬ 1059 ≤ i := by omega
    have hcnt := h.1
    rw [e_Dk_goIn_11, kGo]
    by_cases hst : gI σ 8 c 5 = 4
    · rw [if_neg (fun q => q hst)]
      cases hf : frs σ (oth (gI σ 8 c 3)) with
      | none =>
        simp (disch := omega) only [e_Dk_goIn_0, e_Dk_goIn_1, e_Dk_goIn_4, e_Dk_goIn_7, e_Dk_goIn_8, e_Dk_goIn_9, e_Dk_goIn_13, e_Dk_goIn_16, e_Dk_goIn_19, e_Dk_goIn_20, e_Dk_goIn_23, e_Dk_goIn_24, e_Dk_goIn_27, e_Dk_goIn_28, e_Dk_goIn_31, e_Dk_goIn_32, e_Dk_goIn_35, e_Dk_goIn_37, e_Dk_goIn_39, e_Dk_goIn_42, e_Dk_goIn_43, e_Dk_goIn_45, e_Dk_goIn_48, e_Dk_goIn_49, e_Dk_goIn_52, e_Dk_goIn_55, e_Dk_goIn_56, e_Dk_goIn_58, e_Dk_goIn_61, e_Dk_goIn_62, e_Dk_goIn_65, e_Dk_goIn_68, e_Dk_goIn_69, e_Dk_goIn_72, e_Dk_goIn_75, e_Dk_goIn_78, e_Dk_goIn_79, e_Dk_goIn_80, e_Dk_goIn_82, e_Dk_goIn_85, e_Dk_goIn_88, e_Dk_goIn_89, e_Dk_goIn_90, e_Dk_goIn_92, e_Dk_goIn_95, e_Dk_goIn_98, e_Dk_goIn_101, if_neg hle, hst, hw, c_Bk_firstOn, evK_i, hf, Option.map_none, not_true_eq_false, if_false, if_true]
      | some f =>
        have hfi := frs_in hcnt.1 hf
        have hof := h.2.1 f (by omega) (by omega)
        have hoc := h.2.1 c hc0 hc1
        have hT := h.2.2.1
        by_cases hwt : wth σ c (gI σ 8 f 7) l
        · have hfr := kSt_fr σ c f
          have e1 : oth (gI (kSt σ c f) 8 c 3) = oth (gI σ 8 c 3) := by rw [hfr.g (by simp [chg])]
          have ih' := fun a5 => ih (kSt σ c f) c l (oth (gI σ 8 c 3)) (i + 1) (B + 1) a5 (kSt_CO h (by omega) c f) (by omega) (by omega) (by omega) hc0 hc1 e1.symm
          dsimp only
          rw [if_pos hwt]
          by_cases hown : gI σ 8 f 2 = gI σ 8 c 2 ∧ ¬ gI σ 6 0 4 = 0
          · have e2 : kSt σ c f = kMo σ c f := if_pos hown
            rw [e2] at ih' ⊢
            simp (disch := omega) only [e_Dk_goIn_0, e_Dk_goIn_1, e_Dk_goIn_4, e_Dk_goIn_7, e_Dk_goIn_8, e_Dk_goIn_9, e_Dk_goIn_13, e_Dk_goIn_16, e_Dk_goIn_19, e_Dk_goIn_20, e_Dk_goIn_23, e_Dk_goIn_24, e_Dk_goIn_27, e_Dk_goIn_28, e_Dk_goIn_31, e_Dk_goIn_32, e_Dk_goIn_35, e_Dk_goIn_37, e_Dk_goIn_39, e_Dk_goIn_42, e_Dk_goIn_43, e_Dk_goIn_45, e_Dk_goIn_48, e_Dk_goIn_49, e_Dk_goIn_52, e_Dk_goIn_55, e_Dk_goIn_56, e_Dk_goIn_58, e_Dk_goIn_61, e_Dk_goIn_62, e_Dk_goIn_65, e_Dk_goIn_68, e_Dk_goIn_69, e_Dk_goIn_72, e_Dk_goIn_75, e_Dk_goIn_78, e_Dk_goIn_79, e_Dk_goIn_80, e_Dk_goIn_82, e_Dk_goIn_85, e_Dk_goIn_88, e_Dk_goIn_89, e_Dk_goIn_90, e_Dk_goIn_92, e_Dk_goIn_95, e_Dk_goIn_98, e_Dk_goIn_101, if_neg hle, hst, hw, c_Bk_firstOn, evK_i, evK_v, hf, Option.map_some, not_true_eq_false, reduceCtorEq, not_false_eq_true, if_false, if_true, c_Dk_isWithin, if_pos hwt, one_ne, hown.1, hown.2, c_Dk_meetOwn, wr_id, ih']
          · have e2 : kSt σ c f = kMt σ c f := if_neg hown
            rw [e2] at ih' ⊢
            simp (disch := omega) only [e_Dk_goIn_0, e_Dk_goIn_1, e_Dk_goIn_4, e_Dk_goIn_7, e_Dk_goIn_8, e_Dk_goIn_9, e_Dk_goIn_13, e_Dk_goIn_16, e_Dk_goIn_19, e_Dk_goIn_20, e_Dk_goIn_23, e_Dk_goIn_24, e_Dk_goIn_27, e_Dk_goIn_28, e_Dk_goIn_31, e_Dk_goIn_32, e_Dk_goIn_35, e_Dk_goIn_37, e_Dk_goIn_39, e_Dk_goIn_42, e_Dk_goIn_43, e_Dk_goIn_45, e_Dk_goIn_48, e_Dk_goIn_49, e_Dk_goIn_52, e_Dk_goIn_55, e_Dk_goIn_56, e_Dk_goIn_58, e_Dk_goIn_61, e_Dk_goIn_62, e_Dk_goIn_65, e_Dk_goIn_68, e_Dk_goIn_69, e_Dk_goIn_72, e_Dk_goIn_75, e_Dk_goIn_78, e_Dk_goIn_79, e_Dk_goIn_80, e_Dk_goIn_82, e_Dk_goIn_85, e_Dk_goIn_88, e_Dk_goIn_89, e_Dk_goIn_90, e_Dk_goIn_92, e_Dk_goIn_95, e_Dk_goIn_98, e_Dk_goIn_101, if_neg hle, hst, hw, c_Bk_firstOn, evK_i, evK_v, hf, Option.map_some, not_true_eq_false, reduceCtorEq, not_false_eq_true, if_false, if_true, c_Dk_isWithin, if_pos hwt, one_ne, c_Dk_meet, wr_id, ih']
            grind
        · dsimp only
          rw [if_neg hwt]
          simp (disch := omega) only [e_Dk_goIn_0, e_Dk_goIn_1, e_Dk_goIn_4, e_Dk_goIn_7, e_Dk_goIn_8, e_Dk_goIn_9, e_Dk_goIn_13, e_Dk_goIn_16, e_Dk_goIn_19, e_Dk_goIn_20, e_Dk_goIn_23, e_Dk_goIn_24, e_Dk_goIn_27, e_Dk_goIn_28, e_Dk_goIn_31, e_Dk_goIn_32, e_Dk_goIn_35, e_Dk_goIn_37, e_Dk_goIn_39, e_Dk_goIn_42, e_Dk_goIn_43, e_Dk_goIn_45, e_Dk_goIn_48, e_Dk_goIn_49, e_Dk_goIn_52, e_Dk_goIn_55, e_Dk_goIn_56, e_Dk_goIn_58, e_Dk_goIn_61, e_Dk_goIn_62, e_Dk_goIn_65, e_Dk_goIn_68, e_Dk_goIn_69, e_Dk_goIn_72, e_Dk_goIn_75, e_Dk_goIn_78, e_Dk_goIn_79, e_Dk_goIn_80, e_Dk_goIn_82, e_Dk_goIn_85, e_Dk_goIn_88, e_Dk_goIn_89, e_Dk_goIn_90, e_Dk_goIn_92, e_Dk_goIn_95, e_Dk_goIn_98, e_Dk_goIn_101, if_neg hle, hst, hw, c_Bk_firstOn, evK_i, evK_v, hf, Option.map_some, not_true_eq_false, reduceCtorEq, not_false_eq_true, if_false, if_true, c_Dk_isWithin, if_neg hwt]
    · rw [if_pos hst]
      simp (disch := omega) only [e_Dk_goIn_0, e_Dk_goIn_1, e_Dk_goIn_4, e_Dk_goIn_7, e_Dk_goIn_8, e_Dk_goIn_9, e_Dk_goIn_13, e_Dk_goIn_16, e_Dk_goIn_19, e_Dk_goIn_20, e_Dk_goIn_23, e_Dk_goIn_24, e_Dk_goIn_27, e_Dk_goIn_28, e_Dk_goIn_31, e_Dk_goIn_32, e_Dk_goIn_35, e_Dk_goIn_37, e_Dk_goIn_39, e_Dk_goIn_42, e_Dk_goIn_43, e_Dk_goIn_45, e_Dk_goIn_48, e_Dk_goIn_49, e_Dk_goIn_52, e_Dk_goIn_55, e_Dk_goIn_56, e_Dk_goIn_58, e_Dk_goIn_61, e_Dk_goIn_62, e_Dk_goIn_65, e_Dk_goIn_68, e_Dk_goIn_69, e_Dk_goIn_72, e_Dk_goIn_75, e_Dk_goIn_78, e_Dk_goIn_79, e_Dk_goIn_80, e_Dk_goIn_82, e_Dk_goIn_85, e_Dk_goIn_88, e_Dk_goIn_89, e_Dk_goIn_90, e_Dk_goIn_92, e_Dk_goIn_95, e_Dk_goIn_98, e_Dk_goIn_101, if_neg hle, hst, not_false_eq_true, if_true]
theorem c_Dk_goIn (c l B : Int) (σ : aM) (h : CO σ B) (hB : B + 1059 < 2147483647) (hc0 : 0 ≤ c) (hc1 : c ≤ 120) : ev 24 0 [aR 5 0, aR 8 c, aI l, aU, aU, aU] [] σ = some (none, kGo 1059 σ c l) := by
  have hl := fun a5 => l_Dk_goIn 1059 σ c l (oth (gI σ 8 c 3)) 0 B a5 h (by omega) (by omega) (by omega) hc0 hc1 rfl
  have ho := c_Ub_otherSide (gI σ 8 c 3) σ
  rw [show (if gI σ 8 c 3 = 0 then (1 : Int) else 0) = oth (gI σ 8 c 3) from rfl] at ho
  simp (disch := omega) only [e_Dk_goIn_0, e_Dk_goIn_1, e_Dk_goIn_4, e_Dk_goIn_7, e_Dk_goIn_8, e_Dk_goIn_9, e_Dk_goIn_13, e_Dk_goIn_16, e_Dk_goIn_19, e_Dk_goIn_20, e_Dk_goIn_23, e_Dk_goIn_24, e_Dk_goIn_27, e_Dk_goIn_28, e_Dk_goIn_31, e_Dk_goIn_32, e_Dk_goIn_35, e_Dk_goIn_37, e_Dk_goIn_39, e_Dk_goIn_42, e_Dk_goIn_43, e_Dk_goIn_45, e_Dk_goIn_48, e_Dk_goIn_49, e_Dk_goIn_52, e_Dk_goIn_55, e_Dk_goIn_56, e_Dk_goIn_58, e_Dk_goIn_61, e_Dk_goIn_62, e_Dk_goIn_65, e_Dk_goIn_68, e_Dk_goIn_69, e_Dk_goIn_72, e_Dk_goIn_75, e_Dk_goIn_78, e_Dk_goIn_79, e_Dk_goIn_80, e_Dk_goIn_82, e_Dk_goIn_85, e_Dk_goIn_88, e_Dk_goIn_89, e_Dk_goIn_90, e_Dk_goIn_92, e_Dk_goIn_95, e_Dk_goIn_98, e_Dk_goIn_101, ho, evK_i, hl]
