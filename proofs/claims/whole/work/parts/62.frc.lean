/-! what the class's desk leaves as it was: all but its book, its orders, its log -/
abbrev lv (y0 i : Int) : Prop := (0 ≤ i ∧ i < 60) ∨ i = y0
abbrev chC (y0 : Int) (t : Nat) (i j : Int) : Prop := (t = 8 ∧ lv y0 i ∧ ¬ j = 0) ∨ ((t = 6 ∨ t = 9 ∨ t = 10 ∨ t = 11 ∨ t = 12) ∧ i = 0)
def FrC (y0 : Int) (σ σ' : aM) : Prop := σ'.2 = σ.2 ∧ ∀ t i j, ¬ chC y0 t i j → gI σ' t i j = gI σ t i j
variable {y0 : Int}
theorem FrC.rfl (σ : aM) : FrC y0 σ σ := ⟨Eq.refl _, fun _ _ _ _ => Eq.refl _⟩
theorem FrC.trans {a b c : aM} (h1 : FrC y0 a b) (h2 : FrC y0 b c) : FrC y0 a c := ⟨h2.1.trans h1.1, fun t i j h => (h2.2 t i j h).trans (h1.2 t i j h)⟩
theorem FrC.u {a b : aM} (h : FrC y0 a b) {t : Nat} {i j v : Int} (hc : chC y0 t i j) : FrC y0 a (uI b t i j v) := ⟨h.1, fun t' i' j' hn => by
  rw [gI_uI, if_neg (fun q => hn (by obtain ⟨rfl, rfl, rfl⟩ := q; exact hc))]
  exact h.2 t' i' j' hn⟩
theorem kGv_frc (σ : aM) {i : Int} (hi : lv y0 i) (q : Int) : FrC y0 σ (kGv σ i q) := by
  unfold kGv
  split
  · exact ((((FrC.rfl σ).u (by omega)).u (by omega)).u (by omega))
  · exact (((FrC.rfl σ).u (by omega)).u (by omega))
theorem kNt_frc (σ : aM) (x z p q : Int) : FrC y0 σ (kNt σ x z p q) := by
  unfold kNt
  have h1 : FrC y0 σ (if gI σ 9 0 3 < 200 then uI (uI (uI (uI σ 10 0 (gI σ 9 0 3 * 4) (gI σ 8 x 0)) 10 0 (gI σ 9 0 3 * 4 + 1) (gI σ 8 z 0)) 10 0 (gI σ 9 0 3 * 4 + 2) p) 10 0 (gI σ 9 0 3 * 4 + 3) q else σ) := by
    split
    · exact (((((FrC.rfl σ).u (by omega)).u (by omega)).u (by omega)).u (by omega))
    · exact FrC.rfl σ
  exact ((((((h1.u (by omega)).u (by omega)).u (by omega)).u (by omega)).u (by omega)).u (by omega))
theorem kTa_frc (σ : aM) {x z : Int} (hx : lv y0 x) (hz : lv y0 z) (p q : Int) : FrC y0 σ (kTa σ x z p q) := ((kNt_frc σ x z p q).trans (kGv_frc _ hx _)).trans (kGv_frc _ hz _)
theorem kSh_frc (σ : aM) {i : Int} (hi : lv y0 i) : FrC y0 σ (kSh σ i) := by
  unfold kSh
  split
  · exact (FrC.rfl σ).u (by omega)
  · exact FrC.rfl σ
theorem kTm_frc (σ : aM) {i : Int} (hi : lv y0 i) : FrC y0 σ (kTm σ i) := ((FrC.rfl σ).u (by omega)).u (by omega)
theorem kRs_frc (σ : aM) {i : Int} (hi : lv y0 i) : FrC y0 σ (kRs σ i) := (((FrC.rfl σ).u (by omega)).trans (kSh_frc _ hi)).trans (kTm_frc _ hi)
theorem kLs_frc (σ : aM) {i : Int} (hi : lv y0 i) (q : Int) : FrC y0 σ (kLs σ i q) := ((FrC.rfl σ).u (by omega)).u (by omega)
theorem kLb_frc (σ : aM) {i : Int} (hi : lv y0 i) (q : Int) : FrC y0 σ (kLb σ i q) := by
  unfold kLb
  split
  · exact (kLs_frc _ hi _).u (by omega)
  · exact kLs_frc _ hi _
theorem kMo_frc (σ : aM) {c f : Int} (hc : lv y0 c) (hf : lv y0 f) : FrC y0 σ (kMo σ c f) := by
  unfold kMo
  split
  · exact (FrC.rfl σ).u (by omega)
  · split
    · exact (FrC.rfl σ).u (by omega)
    · exact (kLb_frc _ hc _).trans (kLb_frc _ hf _)
theorem kCr_frc (σ : aM) {i : Int} (hi : lv y0 i) (q : Int) : FrC y0 σ (kCr σ i q) := by
  unfold kCr
  split
  · exact (((FrC.rfl σ).u (by omega)).trans (kSh_frc _ hi)).trans (kTm_frc _ hi)
  · exact (FrC.rfl σ).u (by omega)
theorem kMa_frc (σ : aM) {c f : Int} (hc : lv y0 c) (hf : lv y0 f) : FrC y0 σ (kMa σ c f) := by
  unfold kMa
  split
  · exact kTa_frc _ hc hf _ _
  · exact kTa_frc _ hf hc _ _
theorem kMt_frc (σ : aM) {c f : Int} (hc : lv y0 c) (hf : lv y0 f) : FrC y0 σ (kMt σ c f) := by
  unfold kMt
  split
  · exact (kMa_frc _ hc hf).trans (kCr_frc _ hf _)
  · exact kMa_frc _ hc hf
theorem kSt_frc (σ : aM) {c f : Int} (hc : lv y0 c) (hf : lv y0 f) : FrC y0 σ (kSt σ c f) := by
  unfold kSt
  split
  · exact kMo_frc _ hc hf
  · exact kMt_frc _ hc hf
theorem frs_lv {σ : aM} {w f : Int} (h : 0 ≤ gI σ 6 0 2 ∧ gI σ 6 0 2 ≤ 60) (hf : frs σ w = some f) : lv y0 f := by
  have := frs_in h.1 hf
  omega
theorem kGo_frc : ∀ (n : Nat) (σ : aM) (c l : Int), lv y0 c → (0 ≤ gI σ 6 0 2 ∧ gI σ 6 0 2 ≤ 60) → FrC y0 σ (kGo n σ c l) := by
  intro n
  induction n with
  | zero => intro σ c l _ _; exact FrC.rfl σ
  | succ n ih =>
    intro σ c l hc h
    rw [kGo]
    split
    · exact FrC.rfl σ
    · split
      · exact FrC.rfl σ
      · rename_i f hf
        split
        · exact (kSt_frc _ hc (frs_lv h hf)).trans (ih _ _ _ hc (by rw [(kSt_fr σ c f).g (by simp [chg])]; exact h))
        · exact FrC.rfl σ
theorem kEu_frc (σ : aM) {i : Int} (hi : lv y0 i) : FrC y0 σ (kEu σ i) := by
  unfold kEu
  split
  · exact (FrC.rfl σ).u (by omega)
  · exact FrC.rfl σ
theorem kS1_frc {σ : aM} {j : Int} (hj : lv y0 j) (h : 0 ≤ gI σ 6 0 2 ∧ gI σ 6 0 2 ≤ 60) : FrC y0 σ (kS1 σ j) := (((FrC.rfl σ).u (by omega)).trans (kGo_frc _ _ _ _ hj (by rw [gI_nt _ _ _ _ _ _ _ _ (by decide)]; exact h))).trans (kEu_frc _ hj)
theorem kWk_frc : ∀ (n : Nat) (σ : aM), (0 ≤ gI σ 6 0 2 ∧ gI σ 6 0 2 ≤ 60) → FrC y0 σ (kWk n σ) := by
  intro n
  induction n with
  | zero => intro σ _; exact FrC.rfl σ
  | succ n ih =>
    intro σ h
    rw [kWk]
    split
    · exact FrC.rfl σ
    · rename_i j hj
      have h2 := rcF_in _ _ _ _ hj
      exact (kS1_frc (by omega) h).trans (ih _ (by rw [(kS1_fr σ j).g (by simp [chg])]; exact h))
theorem kWs_frc {σ : aM} (h : 0 ≤ gI σ 6 0 2 ∧ gI σ 6 0 2 ≤ 60) : FrC y0 σ (kWs σ) := by
  unfold kWs
  split
  · exact kWk_frc _ _ h
  · exact FrC.rfl σ
theorem kEn_frc {σ : aM} {c : Int} (hc : lv y0 c) (h : 0 ≤ gI σ 6 0 2 ∧ gI σ 6 0 2 ≤ 60) : FrC y0 σ (kEn σ c) := by
  unfold kEn
  have h1 : FrC y0 σ (if gI σ 6 0 3 = 1 then kGo 1059 σ c (gI σ 8 c 7) else σ) := by
    split
    · exact kGo_frc _ _ _ _ hc h
    · exact FrC.rfl σ
  generalize (if gI σ 6 0 3 = 1 then kGo 1059 σ c (gI σ 8 c 7) else σ) = τ at h1
  show FrC y0 σ (if gI τ 8 c 5 = 4 then kRs τ c else τ)
  split
  · exact h1.trans (kRs_frc _ hc)
  · exact h1
theorem kTr_frc {σ : aM} {c : Int} (hc : lv y0 c) (h : 0 ≤ gI σ 6 0 2 ∧ gI σ 6 0 2 ≤ 60) (how : Int) : FrC y0 σ (kTr σ c how) := by
  unfold kTr
  refine FrC.trans ?_ (kEu_frc _ hc)
  split
  · exact kGo_frc _ _ _ _ hc h
  · exact FrC.rfl σ
theorem kCm_frc {σ : aM} {c : Int} (hc : lv y0 c) (h : 0 ≤ gI σ 6 0 2 ∧ gI σ 6 0 2 ≤ 60) (kd how : Int) : FrC y0 σ (kCm σ c kd how) := by
  unfold kCm
  split
  · exact (FrC.rfl σ).u (by omega)
  · split
    · exact kRs_frc _ hc
    · split
      · exact kEn_frc hc h
      · exact kTr_frc hc h _
theorem kBg_frc (σ : aM) {c : Int} (hc : lv y0 c) (kd ow sd q p d : Int) : FrC y0 σ (kBg σ c kd ow sd q p d) := by
  unfold kBg
  exact ((((((((((FrC.rfl σ).u (by omega)).u (by omega)).u (by omega)).u (by omega)).u (by omega)).u (by omega)).u (by omega)).u (by omega)).u (by omega)).u (by omega)
theorem kNw_frc {σ : aM} (h : 0 ≤ gI σ 6 0 2 ∧ gI σ 6 0 2 < 60) (kd ow sd q p d : Int) : FrC y0 σ (kNw σ kd ow sd q p d) := ((FrC.rfl σ).u (by omega)).trans (kBg_frc _ (by omega) _ _ _ _ _ _)
theorem kNw_cnt {σ : aM} (h : 0 ≤ gI σ 6 0 2 ∧ gI σ 6 0 2 < 60) (kd ow sd q p d : Int) : gI (kNw σ kd ow sd q p d) 6 0 2 = gI σ 6 0 2 + 1 := (g_kNw σ kd ow sd q p d ⟨h.2, h.1⟩).2.1
theorem kBr_frc {σ : aM} (h : 0 ≤ gI σ 6 0 2 ∧ gI σ 6 0 2 < 60) (kd ow sd q p d how : Int) : FrC y0 σ (kBr σ kd ow sd q p d how) := by
  have e := kNw_cnt h kd ow sd q p d
  unfold kBr
  exact ((kNw_frc h kd ow sd q p d).trans (kCm_frc (by omega) (by omega) _ _)).trans (kWs_frc (by rw [(kCm_fr _ _ _ _).g (by simp [chg])]; omega))
theorem kBr_cnt {σ : aM} (h : 0 ≤ gI σ 6 0 2 ∧ gI σ 6 0 2 < 60) (kd ow sd q p d how : Int) : gI (kBr σ kd ow sd q p d how) 6 0 2 = gI σ 6 0 2 + 1 := by
  unfold kBr
  rw [(kWs_fr _).g (by simp [chg]), (kCm_fr _ _ _ _).g (by simp [chg]), kNw_cnt h]
theorem kP1_frc {σ : aM} (h : 0 ≤ gI σ 6 0 2 ∧ gI σ 6 0 2 ≤ 60) (ow sd q : Int) : FrC 120 σ (kP1 σ ow sd q) := by
  have e : gI (kBg σ 120 0 ow sd q 0 0) 6 0 2 = gI σ 6 0 2 := by
    unfold kBg
    simp (disch := omega) only [gI_nt]
  exact (kBg_frc _ (by omega) _ _ _ _ _ _).trans (kGo_frc _ _ _ _ (by omega) (by rw [e]; exact h))
theorem kP1_cnt (σ : aM) (ow sd q : Int) : gI (kP1 σ ow sd q) 6 0 2 = gI σ 6 0 2 := by
  unfold kP1
  rw [(kGo_fr _ _ _ _).g (by simp [chg])]
  unfold kBg
  simp (disch := omega) only [gI_nt]
theorem kPs_frc {σ : aM} (h : 0 ≤ gI σ 6 0 2 ∧ gI σ 6 0 2 ≤ 60) (ow sd q : Int) : FrC 120 σ (kPs σ ow sd q) := (kP1_frc h ow sd q).trans (kWs_frc (by rw [kP1_cnt]; exact h))
theorem kA1_cnt (σ : aM) (i q p : Int) : gI (kA1 σ i q p) 6 0 2 = gI σ 6 0 2 := by
  unfold kA1
  split
  · simp (disch := omega) only [gI_nt]
  · split
    · exact (kLs_fr _ _ _).g (by simp [chg])
    · rw [(kEn_fr _ _).g (by simp [chg])]
      simp (disch := omega) only [gI_nt]
theorem kA1_frc {σ : aM} {i : Int} (hi : lv y0 i) (h : 0 ≤ gI σ 6 0 2 ∧ gI σ 6 0 2 ≤ 60) (q p : Int) : FrC y0 σ (kA1 σ i q p) := by
  unfold kA1
  split
  · exact ((FrC.rfl σ).u (by omega)).u (by omega)
  · split
    · exact kLs_frc _ hi _
    · exact ((((FrC.rfl σ).u (by omega)).u (by omega)).u (by omega)).trans (kEn_frc hi (by simp (disch := omega) only [gI_nt]; exact h))
theorem kAl_frc {σ : aM} {i : Int} (hi : lv y0 i) (h : 0 ≤ gI σ 6 0 2 ∧ gI σ 6 0 2 ≤ 60) (q p : Int) : FrC y0 σ (kAl σ i q p) := (kA1_frc hi h q p).trans (kWs_frc (by rw [kA1_cnt]; exact h))
theorem kO1_frc (σ : aM) {x z : Int} (hx : lv y0 x) (hz : lv y0 z) (u p : Int) : FrC y0 σ (kO1 σ u p x z) := ((kTa_frc _ hx hz _ _).trans (kSh_frc _ hx)).trans (kSh_frc _ hz)
theorem kOp_frc : ∀ (n : Nat) (σ : aM) (u p : Int), (0 ≤ gI σ 6 0 2 ∧ gI σ 6 0 2 ≤ 60) → FrC y0 σ (kOp n σ u p) := by
  intro n
  induction n with
  | zero => intro σ u p _; exact FrC.rfl σ
  | succ n ih =>
    intro σ u p h
    rw [kOp]
    split
    · exact FrC.rfl σ
    · split
      · rename_i x z hx hz
        exact (kO1_frc _ (frs_lv h hx) (frs_lv h hz) _ _).trans (ih _ _ _ (by rw [(kO1_fr σ u p x z).g (by simp [chg])]; exact h))
      · exact FrC.rfl σ
