/-! a new order comes, on both sides -/
def mCo (σ : aM) (c kd ow sd q p d : Int) : aM := uI (uI (uI (uI (uI (uI (uI (uI (uI (uI (uI σ 26 0 c kd) 26 0 (60 + c) ow) 26 0 (120 + c) sd) 26 0 (180 + c) q) 26 0 (240 + c) 0) 26 0 (300 + c) p) 26 0 (360 + c) d) 26 0 (420 + c) 0) 26 0 (480 + c) 0) 26 0 (540 + c) 0) 26 0 600 (c + 1)
theorem c_Md_comes (σ : aM) (c kd ow sd q p d : Int) (hc : gI σ 26 0 600 = c) (h : 0 ≤ c ∧ c < 60) : ev 160 0 [aR 25 0, aI kd, aI ow, aI sd, aI q, aI p, aI d, aU] [] σ = some (some (aI c), mCo σ c kd ow sd q p d) := by
  unfold mCo
  simp (disch := omega) only [e_Md_comes_0, e_Md_comes_1, e_Md_comes_4, e_Md_comes_7, e_Md_comes_8, e_Md_comes_10, e_Md_comes_11, e_Md_comes_14, e_Md_comes_15, e_Md_comes_17, e_Md_comes_18, e_Md_comes_19, e_Md_comes_20, e_Md_comes_21, e_Md_comes_24, e_Md_comes_26, e_Md_comes_28, e_Md_comes_29, e_Md_comes_30, e_Md_comes_31, e_Md_comes_32, e_Md_comes_35, e_Md_comes_37, e_Md_comes_39, e_Md_comes_40, e_Md_comes_41, e_Md_comes_42, e_Md_comes_43, e_Md_comes_46, e_Md_comes_49, e_Md_comes_51, e_Md_comes_52, e_Md_comes_54, e_Md_comes_55, e_Md_comes_56, e_Md_comes_59, e_Md_comes_62, e_Md_comes_64, e_Md_comes_65, e_Md_comes_66, e_Md_comes_67, e_Md_comes_68, e_Md_comes_71, e_Md_comes_74, e_Md_comes_76, e_Md_comes_77, e_Md_comes_79, e_Md_comes_80, e_Md_comes_81, e_Md_comes_84, e_Md_comes_87, e_Md_comes_89, e_Md_comes_90, e_Md_comes_92, e_Md_comes_93, e_Md_comes_94, e_Md_comes_97, e_Md_comes_100, e_Md_comes_102, e_Md_comes_103, e_Md_comes_104, e_Md_comes_105, e_Md_comes_106, e_Md_comes_109, e_Md_comes_112, e_Md_comes_114, e_Md_comes_115, e_Md_comes_116, e_Md_comes_117, e_Md_comes_118, e_Md_comes_121, e_Md_comes_124, e_Md_comes_126, e_Md_comes_127, e_Md_comes_128, e_Md_comes_129, e_Md_comes_130, e_Md_comes_133, e_Md_comes_136, e_Md_comes_137, e_Md_comes_138, e_Md_comes_139, e_Md_comes_140, e_Md_comes_141, e_Md_comes_143, hc, wr_id, Int.zero_add, gI_self, gI_nt, gI_nj, gL_uI, gR_uI, gI_uL, gR_uL, gI_uR, gL_uR]
theorem FrM_mCo (σ : aM) (c kd ow sd q p d : Int) : FrM σ (mCo σ c kd ow sd q p d) := by
  unfold mCo
  exact ((((((((((((FrM.rfl σ).u _ _ _ (Or.inl rfl)).u _ _ _ (Or.inl rfl)).u _ _ _ (Or.inl rfl)).u _ _ _ (Or.inl rfl)).u _ _ _ (Or.inl rfl)).u _ _ _ (Or.inl rfl)).u _ _ _ (Or.inl rfl)).u _ _ _ (Or.inl rfl)).u _ _ _ (Or.inl rfl)).u _ _ _ (Or.inl rfl)).u _ _ _ (Or.inl rfl))
theorem g_kNw (τ : aM) (kd ow sd q p d : Int) (h : gI τ 6 0 2 < 60 ∧ 0 ≤ gI τ 6 0 2) : (∀ t i j, ¬ (t = 8 ∧ i = gI τ 6 0 2 ∧ 1 ≤ j ∧ j ≤ 10) → ¬ (t = 6 ∧ i = 0 ∧ j = 2) → gI (kNw τ kd ow sd q p d) t i j = gI τ t i j) ∧ gI (kNw τ kd ow sd q p d) 6 0 2 = gI τ 6 0 2 + 1 ∧
    (gI (kNw τ kd ow sd q p d) 8 (gI τ 6 0 2) 1 = kd ∧ gI (kNw τ kd ow sd q p d) 8 (gI τ 6 0 2) 2 = ow ∧ gI (kNw τ kd ow sd q p d) 8 (gI τ 6 0 2) 3 = sd ∧ gI (kNw τ kd ow sd q p d) 8 (gI τ 6 0 2) 4 = q ∧ gI (kNw τ kd ow sd q p d) 8 (gI τ 6 0 2) 5 = 4 ∧ gI (kNw τ kd ow sd q p d) 8 (gI τ 6 0 2) 6 = 0 ∧ gI (kNw τ kd ow sd q p d) 8 (gI τ 6 0 2) 7 = p ∧ gI (kNw τ kd ow sd q p d) 8 (gI τ 6 0 2) 8 = d) := by
  have w1 : wr (gI τ 6 0 2 + 1) = gI τ 6 0 2 + 1 := wr_id (by omega) (by omega)
  unfold kNw kBg
  rw [w1]
  refine ⟨fun t i j h1 h2 => ?_, ?_, ?_⟩
  · by_cases z : t = 8 ∧ i = gI τ 6 0 2
    · obtain ⟨z1, z2⟩ := z
      subst z1; subst z2
      simp (disch := omega) only [gI_nj, gI_nt]
    · have z' : ∀ k, ¬ (t = 8 ∧ i = gI τ 6 0 2 ∧ j = k) := fun k y => z ⟨y.1, y.2.1⟩
      rw [gI_uI, if_neg (z' _), gI_uI, if_neg (z' _), gI_uI, if_neg (z' _), gI_uI, if_neg (z' _), gI_uI, if_neg (z' _), gI_uI, if_neg (z' _), gI_uI, if_neg (z' _), gI_uI, if_neg (z' _), gI_uI, if_neg (z' _), gI_uI, if_neg (z' _), gI_uI, if_neg h2]
  · simp (disch := omega) only [gI_self, gI_nt, gI_nj, gL_uI, gR_uI, gI_uL, gR_uL, gI_uR, gL_uR]
  · simp (disch := omega) only [gI_self, gI_nt, gI_nj, gL_uI, gR_uI, gI_uL, gR_uL, gI_uR, gL_uR, and_self]
theorem g_mCo (σ : aM) (c kd ow sd q p d : Int) (h : 0 ≤ c ∧ c < 60) : (∀ k, 0 ≤ k → k < 600 → ¬ k % 60 = c → gI (mCo σ c kd ow sd q p d) 26 0 k = gI σ 26 0 k) ∧ (∀ k, 601 ≤ k → gI (mCo σ c kd ow sd q p d) 26 0 k = gI σ 26 0 k) ∧ gI (mCo σ c kd ow sd q p d) 26 0 600 = c + 1 ∧
    (gI (mCo σ c kd ow sd q p d) 26 0 c = kd ∧ gI (mCo σ c kd ow sd q p d) 26 0 (60 + c) = ow ∧ gI (mCo σ c kd ow sd q p d) 26 0 (120 + c) = sd ∧ gI (mCo σ c kd ow sd q p d) 26 0 (180 + c) = q ∧ gI (mCo σ c kd ow sd q p d) 26 0 (240 + c) = 0 ∧ gI (mCo σ c kd ow sd q p d) 26 0 (300 + c) = p ∧ gI (mCo σ c kd ow sd q p d) 26 0 (360 + c) = d ∧ gI (mCo σ c kd ow sd q p d) 26 0 (540 + c) = 0) := by
  unfold mCo
  refine ⟨fun k h1 h2 h3 => ?_, fun k h1 => ?_, ?_, ?_⟩
  · simp (disch := omega) only [gI_nj]
  · simp (disch := omega) only [gI_nj]
  · simp (disch := omega) only [gI_self, gI_nt, gI_nj, gL_uI, gR_uI, gI_uL, gR_uL, gI_uR, gL_uR]
  · simp (disch := omega) only [gI_self, gI_nt, gI_nj, gL_uI, gR_uI, gI_uL, gR_uL, gI_uR, gL_uR, and_self]
theorem come_Sim {τ σ : aM} {B kd ow sd q p d : Int} (hS : Sim τ σ (-1) B) (h60 : gI τ 6 0 2 < 60) (hk : 1 ≤ kd ∧ kd ≤ 4) (ho : 0 ≤ ow ∧ ow < 8) (hs : 0 ≤ sd ∧ sd ≤ 1) (hq : 0 ≤ q ∧ q ≤ 999) (hp : (0 ≤ p ∧ p ≤ 999) ∧ (¬ kd = 3 → 1 ≤ p)) (hd : (0 ≤ d ∧ d ≤ 999) ∧ (kd = 2 → 1 ≤ d)) :
    Sim (kNw τ kd ow sd q p d) (uI (mCo σ (gI τ 6 0 2) kd ow sd q p d) 26 0 (240 + gI τ 6 0 2) 3) (gI τ 6 0 2) B ∧ CC (kNw τ kd ow sd q p d) (gI τ 6 0 2) := by
  obtain ⟨hO, hI, hD, hG, hg⟩ := hS
  have hc6 := hO.1.2
  obtain ⟨n1, n2, n3, n4, n5, n6, n7, n8, n9, n10⟩ := g_kNw τ kd ow sd q p d ⟨h60, hc6.1⟩
  obtain ⟨m1, m2, m3, m4, m5, m6, m7, m8, m9, m10, m11⟩ := g_mCo σ (gI τ 6 0 2) kd ow sd q p d ⟨hc6.1, h60⟩
  have u1 : ∀ k, ¬ k = 240 + gI τ 6 0 2 → gI (uI (mCo σ (gI τ 6 0 2) kd ow sd q p d) 26 0 (240 + gI τ 6 0 2) 3) 26 0 k = gI (mCo σ (gI τ 6 0 2) kd ow sd q p d) 26 0 k := fun k z => gI_nj _ _ _ _ _ _ _ _ z
  have u2 : gI (uI (mCo σ (gI τ 6 0 2) kd ow sd q p d) 26 0 (240 + gI τ 6 0 2) 3) 26 0 (240 + gI τ 6 0 2) = 3 := gI_self _ _ _ _ _
  generalize uI (mCo σ (gI τ 6 0 2) kd ow sd q p d) 26 0 (240 + gI τ 6 0 2) 3 = M at u1 u2 ⊢
  have old : ∀ o, 0 ≤ o → o < gI τ 6 0 2 → EqC τ (kNw τ kd ow sd q p d) o ∧ EqS σ M o := fun o o0 o1 => ⟨EqC_of (fun j => n1 _ _ _ (by omega) (by omega)), EqS_of o0 (by omega) (fun k k0 k1 k2 => by rw [u1 _ (by omega), m1 _ k0 k1 (by omega)])⟩
  refine ⟨⟨⟨by rw [u1 _ (by omega), m3, n2]; omega, fun o o0 o1 => ?_⟩, fun o o0 o1 => ?_, fun i j i0 i1 j0 j1 hi hj hij => ?_, ?_, ?_⟩, ?_⟩
  · show ROp _ _ _ _
    rw [n2] at o1
    by_cases z : o = gI τ 6 0 2
    · subst z
      refine ⟨?_, fun z => absurd rfl z, fun z => by rw [n7] at z; omega, fun z => by rw [n7] at z; omega, fun _ => ⟨u2, by rw [n7]; omega⟩⟩
      rw [u1 _ (by omega), u1 _ (by omega), u1 _ (by omega), u1 _ (by omega), u1 _ (by omega), m4, m5, m6, m9, m10, n3, n4, n5, n9, n10]
      exact ⟨rfl, rfl, rfl, rfl, rfl⟩
    · obtain ⟨z1, z2⟩ := old o o0 (by omega)
      exact ROp_same (RO.p hO o0 (by omega)) z1 z2 (by omega)
  · show IOp _ _ _
    rw [n2] at o1
    by_cases z : o = gI τ 6 0 2
    · subst z
      refine ⟨?_, ?_, ?_, ?_, fun z => absurd rfl z, fun z => by rw [n7] at z; omega⟩
      · rw [n3, n4, n5]; exact ⟨hk, hs, ho⟩
      · rw [n6, n8, n9, n10]; exact ⟨hq, hp.1, hd.1, wr_id (by omega) (by omega)⟩
      · rw [n3, n9]; exact hp.2
      · rw [n3, n10]; exact hd.2
    · obtain ⟨z1, z2⟩ := old o o0 (by omega)
      exact IOp_same (IO_p hI o0 (by omega)) z1 (by rw [n1 _ _ _ (by omega) (by omega)]; exact Int.le_refl _) (by omega)
  · rw [n2] at i1 j1
    by_cases zi : i = gI τ 6 0 2
    · subst zi; rw [n7] at hi; omega
    · by_cases zj : j = gI τ 6 0 2
      · subst zj; rw [n7] at hj; omega
      · rw [n1 _ _ _ (by omega) (by omega)] at hi hj ⊢
        rw [n1 8 j 10 (by omega) (by omega)]
        exact hD i j i0 (by omega) j0 (by omega) hi hj hij
  · obtain ⟨⟨b1, b2, b3, b4, b5, b6⟩, bp, bf⟩ := hG
    have mm : ∀ k, 601 ≤ k → gI M 26 0 k = gI σ 26 0 k := fun k z => by rw [u1 _ (by omega), m2 _ z]
    refine ⟨⟨?_, ?_, ?_, ?_, ?_, ?_⟩, fun w w0 w8 => ?_, fun k k0 k8 => ?_⟩
    · rw [mm _ (by omega), n1 _ _ _ (by omega) (by omega), b1]
    · rw [mm _ (by omega), n1 _ _ _ (by omega) (by omega), b2]
    · rw [mm _ (by omega), n1 _ _ _ (by omega) (by omega), b3]
    · rw [mm _ (by omega), n1 _ _ _ (by omega) (by omega), b4]
    · rw [mm _ (by omega), n1 _ _ _ (by omega) (by omega), b5]
    · rw [mm _ (by omega), n1 _ _ _ (by omega) (by omega), b6]
    · rw [mm _ (by omega), mm _ (by omega), n1 _ _ _ (by omega) (by omega), n1 _ _ _ (by omega) (by omega)]; exact bp w w0 w8
    · rw [mm _ (by omega), n1 _ _ _ (by omega) (by omega)]; exact bf k k0 k8
  · unfold IG
    rw [n1 9 0 4 (by omega) (by omega), n1 6 0 4 (by omega) (by omega), n1 6 0 3 (by omega) (by omega), n1 6 0 6 (by omega) (by omega), n1 9 0 3 (by omega) (by omega), n1 8 120 0 (by omega) (by omega)]
    obtain ⟨g1, g2, g3, g4, g5, g6, g7⟩ := hg
    exact ⟨g1, g2, g3, g4, g5, fun i i0 i1 => by rw [n1 8 i 0 (by omega) (by omega)]; exact g6 i i0 i1, g7⟩
  · exact ⟨Or.inl ⟨hc6.1, by rw [n2]; omega⟩, by rw [n5]; exact hs, by rw [n4]; exact ho, by rw [n6]; exact hq⟩
