/-! no order comes to wait -/
def NoW (σ σ' : aM) : Prop := ∀ o, gI σ' 8 o 5 = 0 → gI σ 8 o 5 = 0
theorem NoW.rfl (σ : aM) : NoW σ σ := fun _ h => h
theorem NoW.trans {a b c : aM} (h1 : NoW a b) (h2 : NoW b c) : NoW a c := fun o h => h1 o (h2 o h)
theorem NoW.u {a b : aM} (h : NoW a b) {t : Nat} {i j v : Int} (hc : ¬ t = 8 ∨ ¬ j = 5 ∨ ¬ v = 0) : NoW a (uI b t i j v) := fun o z => by
  rw [gI_uI] at z
  by_cases q : 8 = t ∧ o = i ∧ 5 = j
  · rw [if_pos q] at z; omega
  · rw [if_neg q] at z; exact h o z
theorem kGv_nw (σ : aM) (i q : Int) : NoW σ (kGv σ i q) := by
  unfold kGv
  split
  · exact (((NoW.rfl σ).u (by omega)).u (by omega)).u (by omega)
  · exact ((NoW.rfl σ).u (by omega)).u (by omega)
theorem kNt_nw (σ : aM) (x z p q : Int) : NoW σ (kNt σ x z p q) := fun o h => by rw [g_kNt8] at h; exact h
theorem kTa_nw (σ : aM) (x z p q : Int) : NoW σ (kTa σ x z p q) := ((kNt_nw σ x z p q).trans (kGv_nw _ _ _)).trans (kGv_nw _ _ _)
theorem kSh_nw (σ : aM) (i : Int) : NoW σ (kSh σ i) := by
  unfold kSh
  split
  · exact (NoW.rfl σ).u (by omega)
  · exact NoW.rfl σ
theorem kTm_nw (σ : aM) (i : Int) : NoW σ (kTm σ i) := ((NoW.rfl σ).u (by omega)).u (by omega)
theorem kLs_nw (σ : aM) (i q : Int) : NoW σ (kLs σ i q) := ((NoW.rfl σ).u (by omega)).u (by omega)
theorem kLb_nw (σ : aM) (i q : Int) : NoW σ (kLb σ i q) := by
  unfold kLb
  split
  · exact (kLs_nw _ _ _).u (by omega)
  · exact kLs_nw _ _ _
theorem kMo_nw (σ : aM) (c f : Int) : NoW σ (kMo σ c f) := by
  unfold kMo
  split
  · exact (NoW.rfl σ).u (by omega)
  · split
    · exact (NoW.rfl σ).u (by omega)
    · exact (kLb_nw _ _ _).trans (kLb_nw _ _ _)
theorem kCr_nw (σ : aM) (i q : Int) : NoW σ (kCr σ i q) := by
  unfold kCr
  split
  · exact (((NoW.rfl σ).u (by omega)).trans (kSh_nw _ _)).trans (kTm_nw _ _)
  · exact (NoW.rfl σ).u (by omega)
theorem kMa_nw (σ : aM) (c f : Int) : NoW σ (kMa σ c f) := by
  unfold kMa
  split <;> exact kTa_nw _ _ _ _ _
theorem kMt_nw (σ : aM) (c f : Int) : NoW σ (kMt σ c f) := by
  unfold kMt
  split
  · exact (kMa_nw _ _ _).trans (kCr_nw _ _ _)
  · exact kMa_nw _ _ _
theorem kSt_nw (σ : aM) (c f : Int) : NoW σ (kSt σ c f) := by
  unfold kSt
  split
  · exact kMo_nw _ _ _
  · exact kMt_nw _ _ _
theorem kGo_nw : ∀ (n : Nat) (σ : aM) (c l : Int), NoW σ (kGo n σ c l) := by
  intro n
  induction n with
  | zero => intro σ c l; exact NoW.rfl σ
  | succ n ih =>
    intro σ c l
    rw [kGo]
    split
    · exact NoW.rfl σ
    · split
      · exact NoW.rfl σ
      · split
        · exact (kSt_nw _ _ _).trans (ih _ _ _)
        · exact NoW.rfl σ
theorem kEu_nw (σ : aM) (i : Int) : NoW σ (kEu σ i) := by
  unfold kEu
  split
  · exact (NoW.rfl σ).u (by omega)
  · exact NoW.rfl σ
theorem kS1_nw (σ : aM) (j : Int) : NoW (uI σ 8 j 5 4) (kS1 σ j) := (kGo_nw _ _ _ _).trans (kEu_nw _ _)
theorem cnG_mono {τ τ' : aM} {w : Int} : ∀ (n : Nat) (i : Int), (∀ o, i ≤ o → o < i + n → gI τ' 8 o 5 = w → gI τ 8 o 5 = w) → cnF τ' w n i ≤ cnF τ w n i := by
  intro n
  induction n with
  | zero => intro i h; exact Int.le_refl _
  | succ n ih =>
    intro i h
    have h1 := ih (i + 1) (fun o o0 o1 => h o (by omega) (by omega))
    have h2 := h i (by omega) (by omega)
    rw [cnF, cnF]
    by_cases z : gI τ' 8 i 5 = w
    · rw [if_pos z, if_pos (h2 z)]; omega
    · rw [if_neg z]; split <;> omega
theorem cnG_lt {τ τ' : aM} {w : Int} (f : Int) (hf : gI τ 8 f 5 = w) (hf' : ¬ gI τ' 8 f 5 = w) : ∀ (n : Nat) (i : Int), i ≤ f → f < i + n → (∀ o, i ≤ o → o < i + n → gI τ' 8 o 5 = w → gI τ 8 o 5 = w) → cnF τ' w n i + 1 ≤ cnF τ w n i := by
  intro n
  induction n with
  | zero => intro i h0 h1 h; omega
  | succ n ih =>
    intro i h0 h1 h
    have h2 := h i (by omega) (by omega)
    rw [cnF, cnF]
    by_cases y : i = f
    · have h3 := cnG_mono (τ := τ) (τ' := τ') (w := w) n (i + 1) (fun o o0 o1 => h o (by omega) (by omega))
      rw [y] at h3 ⊢
      rw [if_neg hf', if_pos hf]
      omega
    · have h3 := ih (i + 1) (by omega) (by omega) (fun o o0 o1 => h o (by omega) (by omega))
      by_cases z : gI τ' 8 i 5 = w
      · rw [if_pos z, if_pos (h2 z)]; omega
      · rw [if_neg z]; split <;> omega
theorem cnF_pos {τ : aM} {w : Int} (f : Int) (hf : gI τ 8 f 5 = w) : ∀ (n : Nat) (i : Int), i ≤ f → f < i + n → 1 ≤ cnF τ w n i := by
  intro n
  induction n with
  | zero => intro i h0 h1; omega
  | succ n ih =>
    intro i h0 h1
    have h2 := cnF_le τ w n (i + 1)
    rw [cnF]
    by_cases y : i = f
    · rw [y, if_pos hf]; rw [y] at h2; omega
    · have h3 := ih (i + 1) (by omega) (by omega)
      split <;> omega
/-- one leaves, with another QUANTITY and PRICE maybe, and comes -/
theorem leave_Sim {τ σ τ' σ' : aM} {j B q p : Int} (hS : Sim τ σ (-1) B) (hj : 0 ≤ j ∧ j < gI τ 6 0 2) (hq : 0 ≤ q ∧ q ≤ 999) (hp : (0 ≤ p ∧ p ≤ 999) ∧ (¬ gI τ 8 j 1 = 3 → 1 ≤ p))
    (t5 : gI τ' 8 j 5 = 4) (t4 : gI τ' 8 j 4 = q) (t7 : gI τ' 8 j 7 = p) (tt : ∀ t i k, ¬ (t = 8 ∧ i = j ∧ (k = 4 ∨ k = 5 ∨ k = 7)) → gI τ' t i k = gI τ t i k)
    (s5 : gI σ' 26 0 (240 + j) = 3) (s7 : gI σ' 26 0 (300 + j) = p) (ss : ∀ k, ¬ k = 240 + j → ¬ k = 180 + j → ¬ k = 300 + j → gI σ' 26 0 k = gI σ 26 0 k) : Sim τ' σ' j B ∧ CC τ' j := by
  obtain ⟨hO, hI, hD, hG, hg⟩ := hS
  have hc6 := hO.1.2
  obtain ⟨ra, rb, rt, rv, rc⟩ := RO.p hO hj.1 hj.2
  obtain ⟨ia, ib, ip, idd, is, ir⟩ := IO_p hI hj.1 hj.2
  have kj : ∀ k, ¬ (k = 4 ∨ k = 5 ∨ k = 7) → gI τ' 8 j k = gI τ 8 j k := fun k z => tt _ _ _ (fun y => z y.2.2)
  have n1 : ¬ gI τ' 8 j 5 = 1 := by rw [t5]; omega
  have hU := updO (τ' := τ') (σ' := σ') (c' := j) (f0 := j) (fun o => o = j) hO hI hD (tt _ _ _ (by omega)) (by rw [tt _ _ _ (by omega)]; exact Int.le_refl _) (ss _ (by omega) (by omega) (by omega)) (fun o o0 o1 hm => ⟨EqC_of (fun k => tt _ _ _ (fun z => hm z.2.1)), EqS_of o0 (by omega) (fun k _ _ _ => ss k (by omega) (by omega) (by omega)), by omega⟩) (fun o o0 o1 hm => ?_)
  · refine ⟨⟨hU.1, hU.2.1, hU.2.2, GL_same hG (fun k _ => ss k (by omega) (by omega) (by omega)) (fun t i k z => tt _ _ _ (fun y => z y.1)), IG_same hg (fun t i k z => tt _ _ _ (fun y => z y.1)) (fun i => tt _ _ _ (by omega))⟩, ?_⟩
    refine ⟨Or.inl ⟨hj.1, by rw [tt _ _ _ (by omega)]; exact hj.2⟩, ?_, ?_, ?_⟩
    · rw [kj 3 (by omega)]; exact ia.2.1
    · rw [kj 2 (by omega)]; exact ia.2.2
    · rw [t4]; exact hq
  · subst hm
    refine ⟨⟨?_, fun z => absurd rfl z, fun z => absurd z n1, fun z => absurd z n1, fun _ => ⟨s5, n1⟩⟩, ⟨?_, ?_, ?_, ?_, fun z => absurd rfl z, fun z => absurd z n1⟩, fun z => absurd z n1⟩
    · rw [ss _ (by omega) (by omega) (by omega), ss _ (by omega) (by omega) (by omega), ss _ (by omega) (by omega) (by omega), s7, ss _ (by omega) (by omega) (by omega), kj 1 (by omega), kj 2 (by omega), kj 3 (by omega), t7, kj 8 (by omega)]; exact ⟨ra.1, ra.2.1, ra.2.2.1, rfl, ra.2.2.2.2⟩
    · rw [kj 1 (by omega), kj 2 (by omega), kj 3 (by omega)]; exact ia
    · rw [t4, t7, kj 8 (by omega), kj 6 (by omega)]; exact ⟨hq, hp.1, ib.2.2.1, ib.2.2.2⟩
    · rw [kj 1 (by omega), t7]; exact hp.2
    · rw [kj 1 (by omega), kj 8 (by omega)]; exact idd
theorem kS1_OG (τ : aM) (j : Int) : kS1 τ j = kOG (uI τ 8 j 5 4) j (if gI τ 8 j 3 = 0 then 999 else 1) 0 := by
  unfold kS1 kEu kOG
  rw [if_pos (Eq.refl (0 : Int))]
/-- one stop goes in, on both sides -/
theorem stop_one {τ σ : aM} {B j : Int} (hS : Sim τ σ (-1) B) (hB : B + 1060 < 2147483647) (hj : 0 ≤ j ∧ j < gI τ 6 0 2) (hr : rcS τ j) :
    ∃ σ', ev 157 0 [aR 25 0, aI j, aI 0, aI 0] [] σ = some (none, σ') ∧ Sim (kS1 τ j) σ' (-1) (B + 1060) ∧ FrM σ σ' := by
  obtain ⟨ra, rb, rt, rv, rc⟩ := RO.p hS.1 hj.1 hj.2
  obtain ⟨ia, ib, ip, idd, is, ir⟩ := IO_p hS.2.1 hj.1 hj.2
  have rb := rb (by omega)
  have is := is (by omega)
  have hk := is.2 hr.2.1
  have e3 : gI (uI τ 8 j 5 4) 8 j 3 = gI τ 8 j 3 := gI_nj _ _ _ _ _ _ _ _ (by decide)
  have e4 : gI (uI τ 8 j 5 4) 8 j 4 = gI τ 8 j 4 := gI_nj _ _ _ _ _ _ _ _ (by decide)
  have e6 : gI (uI τ 8 j 5 4) 8 j 6 = gI τ 8 j 6 := gI_nj _ _ _ _ _ _ _ _ (by decide)
  obtain ⟨k1, k2⟩ := leave_Sim (τ' := uI τ 8 j 5 4) (σ' := uI σ 26 0 (240 + j) 3) (q := gI τ 8 j 4) (p := gI τ 8 j 7) hS hj ib.1 ⟨ib.2.1, ip⟩ (gI_self _ _ _ _ _) e4 (gI_nj _ _ _ _ _ _ _ _ (by decide)) (fun t i k z => by rw [gI_uI, if_neg (fun y => z ⟨y.1, y.2.1, Or.inr (Or.inl y.2.2)⟩)]) (gI_self _ _ _ _ _) (by rw [gI_nj _ _ _ _ _ _ _ _ (by omega)]; exact ra.2.2.2.1) (fun k y1 y2 y3 => gI_nj _ _ _ _ _ _ _ _ y1)
  rw [kS1_OG]
  exact c_Md_orderGoesIn (l := if gI τ 8 j 3 = 0 then 999 else 1) k1 hB k2 ⟨hj.1, by rw [gI_nt _ _ _ _ _ _ _ _ (by decide)]; exact hj.2⟩ (gI_self _ _ _ _ _) (by rw [e4]; exact hk.2) (Or.inl rfl) (by rw [e4]; exact rb.1) (by rw [e6]; exact rb.2.2) (Or.inr ⟨rfl, by rw [e3]⟩)
theorem l_stops : ∀ (n : Nat) (τ σ : aM) (B i : Int), Sim τ σ (-1) B → B + 1060 * n < 2147483647 → cnI τ 0 ≤ n → i < gI τ 6 0 2 →
    ∃ σ', ev 159 25 [aR 25 0, aI i] [] σ = some (none, σ') ∧ Sim (kWk n τ) σ' (-1) (B + 1060 * n) ∧ FrM σ σ' := by
  have stop : ∀ (τ σ : aM) (B i : Int), Sim τ σ (-1) B → rcN τ = none → i < gI τ 6 0 2 → ev 159 25 [aR 25 0, aI i] [] σ = some (none, σ) := fun τ σ B i hS hr hi => by
    have hc6 := hS.1.1
    have hf := l_stops_find hS (gI τ 6 0 2).toNat 0 (by omega) (by omega)
    have hr' : rcF τ (gI τ 6 0 2).toNat 0 = none := hr
    rw [hr'] at hf
    dsimp only at hf
    simp (disch := omega) only [e_Md_stops_26, e_Md_stops_27, e_Md_stops_30, e_Md_stops_33, e_Md_stops_34, e_Md_stops_37, e_Md_stops_38, e_Md_stops_25, hc6.1, if_neg (show ¬ gI τ 6 0 2 ≤ i by omega), hf]
    simp (disch := omega) only [e_Md_stops_65, e_Md_stops_66, e_Md_stops_67, e_Md_stops_70, e_Md_stops_73, e_Md_stops_74, e_Md_stops_77, e_Md_stops_78, e_Md_stops_79, e_Md_stops_80, e_Md_stops_81, e_Md_stops_84, e_Md_stops_87, hc6.1, if_pos (Int.le_refl (gI τ 6 0 2))]
    simp (disch := omega) only [e_Md_stops_25, e_Md_stops_26, e_Md_stops_27, e_Md_stops_30, e_Md_stops_33, e_Md_stops_34, e_Md_stops_87, hc6.1, if_pos (Int.le_refl (gI τ 6 0 2))]
  intro n
  induction n with
  | zero =>
    intro τ σ B i hS hB hc hi
    have hc6 := hS.1.1.2
    have hr : rcN τ = none := by
      cases hq : rcN τ with
      | none => rfl
      | some j =>
        have h2 := rcF_in _ _ _ _ hq
        have h3 := cnF_pos (τ := τ) (w := 0) j h2.2.2.2.1 (gI τ 6 0 2).toNat 0 h2.1 (by omega)
        unfold cnI at hc
        omega
    exact ⟨σ, stop τ σ B i hS hr hi, Sim_mono hS (by omega), FrM.rfl σ⟩
  | succ n ih =>
    intro τ σ B i hS hB hc hi
    have hc6 := hS.1.1
    rw [kWk]
    cases hr : rcN τ with
    | none => exact ⟨σ, stop τ σ B i hS hr hi, Sim_mono hS (by omega), FrM.rfl σ⟩
    | some j =>
      have h2 := rcF_in _ _ _ _ hr
      have hj : 0 ≤ j ∧ j < gI τ 6 0 2 := ⟨h2.1, by omega⟩
      obtain ⟨σ1, k1, k2, k3⟩ := stop_one hS (by omega) hj h2.2.2
      have e2 : gI (kS1 τ j) 6 0 2 = gI τ 6 0 2 := (kS1_fr τ j).g (by simp [chg])
      have hnw : NoW τ (kS1 τ j) := ((NoW.rfl τ).u (by omega)).trans (kS1_nw τ j)
      have hlt := cnG_lt (τ := τ) (τ' := kS1 τ j) (w := 0) j h2.2.2.2.1 (fun z => by
        have := kS1_nw τ j j z
        rw [gI_self] at this
        omega) (gI τ 6 0 2).toNat 0 hj.1 (by omega) (fun o _ _ z => hnw o z)
      obtain ⟨σ', j1, j2, j3⟩ := ih (kS1 τ j) σ1 (B + 1060) j k2 (by omega) (by
        unfold cnI at hc ⊢
        rw [e2]
        omega) (by rw [e2]; exact hj.2)
      have hf := l_stops_find hS (gI τ 6 0 2).toNat 0 (by omega) (by omega)
      have hr' : rcF τ (gI τ 6 0 2).toNat 0 = some j := hr
      rw [hr'] at hf
      dsimp only at hf
      refine ⟨σ', ?_, Sim_mono j2 (by omega), k3.trans j3⟩
      simp (disch := omega) only [e_Md_stops_26, e_Md_stops_27, e_Md_stops_30, e_Md_stops_33, e_Md_stops_34, e_Md_stops_37, e_Md_stops_38, e_Md_stops_25, hc6.1, if_neg (show ¬ gI τ 6 0 2 ≤ i by omega), hf]
      simp (disch := omega) only [e_Md_stops_65, e_Md_stops_66, e_Md_stops_67, e_Md_stops_70, e_Md_stops_73, e_Md_stops_74, e_Md_stops_77, e_Md_stops_78, e_Md_stops_79, e_Md_stops_80, e_Md_stops_81, e_Md_stops_84, hc6.1, if_neg (show ¬ gI τ 6 0 2 ≤ j by omega), k1, evK_v, j1]
theorem rcN_0 {τ : aM} (h : ¬ 0 < gI τ 6 0 2) : rcN τ = none := by
  unfold rcN
  rw [show (gI τ 6 0 2).toNat = 0 by omega]
  rfl
theorem c_Md_stops {τ σ : aM} {B : Int} (hS : Sim τ σ (-1) B) (hB : B + 63600 < 2147483647) : ∃ σ', ev 159 0 [aR 25 0, aU] [] σ = some (none, σ') ∧ Sim (kWs τ) σ' (-1) (B + 63600) ∧ FrM σ σ' := by
  have hc6 := hS.1.1
  have hp := hS.2.2.2.1.1.1
  unfold kWs
  by_cases h1 : gI τ 6 0 3 = 1
  · rw [if_pos h1]
    by_cases h0 : 0 < gI τ 6 0 2
    · have hcn := cnF_le τ 0 (gI τ 6 0 2).toNat 0
      obtain ⟨σ', j1, j2, j3⟩ := l_stops 60 τ σ B 0 hS (by omega) (by unfold cnI; omega) h0
      refine ⟨σ', ?_, j2, j3⟩
      simp (disch := omega) only [e_Md_stops_0, e_Md_stops_1, e_Md_stops_4, e_Md_stops_7, e_Md_stops_8, e_Md_stops_9, e_Md_stops_12, e_Md_stops_13, e_Md_stops_16, e_Md_stops_17, e_Md_stops_20, e_Md_stops_23, e_Md_stops_24, hp, h1, not_true_eq_false, if_false, j1]
    · refine ⟨σ, ?_, ?_, FrM.rfl σ⟩
      · simp (disch := omega) only [e_Md_stops_0, e_Md_stops_1, e_Md_stops_4, e_Md_stops_7, e_Md_stops_8, e_Md_stops_9, e_Md_stops_12, e_Md_stops_13, e_Md_stops_16, e_Md_stops_17, e_Md_stops_20, e_Md_stops_23, e_Md_stops_24, e_Md_stops_25, e_Md_stops_26, e_Md_stops_27, e_Md_stops_30, e_Md_stops_33, e_Md_stops_34, e_Md_stops_87, hp, h1, not_true_eq_false, if_false, hc6.1, if_pos (show gI τ 6 0 2 ≤ 0 by omega)]
      · rw [show kWk 60 τ = τ by rw [kWk, rcN_0 h0]]
        exact Sim_mono hS (by omega)
  · rw [if_neg h1]
    refine ⟨σ, ?_, Sim_mono hS (by omega), FrM.rfl σ⟩
    simp (disch := omega) only [e_Md_stops_0, e_Md_stops_1, e_Md_stops_4, e_Md_stops_7, e_Md_stops_8, e_Md_stops_9, e_Md_stops_12, e_Md_stops_13, e_Md_stops_16, e_Md_stops_17, e_Md_stops_20, e_Md_stops_23, e_Md_stops_24, e_Md_stops_25, e_Md_stops_26, e_Md_stops_27, e_Md_stops_30, e_Md_stops_33, e_Md_stops_34, e_Md_stops_87, hp, h1, not_false_eq_true, if_true, hc6.1, if_pos (Int.le_refl (gI τ 6 0 2))]
