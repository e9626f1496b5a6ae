/-! one trade of the auction, on both sides; what is seen of a hidden one is kept apart -/
def pt (τ σ : aM) : aM := (fun t i j => if t = 26 ∧ i = 0 ∧ 420 ≤ j ∧ j < 480 then gI τ 8 (j - 420) 9 else gI σ t i j, σ.2)
theorem g_pt (τ σ : aM) (t : Nat) (i j : Int) : gI (pt τ σ) t i j = if t = 26 ∧ i = 0 ∧ 420 ≤ j ∧ j < 480 then gI τ 8 (j - 420) 9 else gI σ t i j := rfl
theorem pt_k (τ σ : aM) (k : Int) (h : k < 420 ∨ 480 ≤ k) : gI (pt τ σ) 26 0 k = gI σ 26 0 k := by rw [g_pt, if_neg (by omega)]
theorem pt_s (τ σ : aM) (o : Int) (h : 0 ≤ o ∧ o < 60) : gI (pt τ σ) 26 0 (420 + o) = gI τ 8 o 9 := by rw [g_pt, if_pos ⟨rfl, rfl, by omega, by omega⟩, show 420 + o - 420 = o by omega]
theorem R1_pt {τ σ : aM} (h : RO τ (pt τ σ) (-1)) : R1 τ σ (-1) := by
  refine ⟨by rw [← pt_k τ σ 600 (by omega)]; exact h.1, fun o o0 o1 => ?_⟩
  have hc := h.1.2
  obtain ⟨ra, rb, rt, rv, rc⟩ := RO.p h o0 o1
  rw [pt_k _ _ _ (by omega), pt_k _ _ _ (by omega), pt_k _ _ _ (by omega), pt_k _ _ _ (by omega), pt_k _ _ _ (by omega)] at ra
  rw [pt_k _ _ _ (by omega), pt_k _ _ _ (by omega), pt_k _ _ _ (by omega)] at rb
  rw [pt_k _ _ _ (by omega)] at rt rc
  exact ⟨ra, rb, rt, trivial, rc⟩
theorem cx_eff (σ : aM) (o q : Int) (h : 0 ≤ o ∧ o < 60) (hq : 0 ≤ q ∧ q ≤ 999) (hl : q ≤ gI σ 26 0 (180 + o) ∧ gI σ 26 0 (180 + o) ≤ 999) :
    FrM σ (mLo2 (mLo1 σ o q) o) ∧ (∀ k, ¬ k = 180 + o → ¬ k = 540 + o → ¬ k = 240 + o → gI (mLo2 (mLo1 σ o q) o) 26 0 k = gI σ 26 0 k) ∧
    gI (mLo2 (mLo1 σ o q) o) 26 0 (180 + o) = gI σ 26 0 (180 + o) - q ∧ gI (mLo2 (mLo1 σ o q) o) 26 0 (540 + o) = wr (gI σ 26 0 (540 + o) + q) ∧ gI (mLo2 (mLo1 σ o q) o) 26 0 (240 + o) = (if gI σ 26 0 (180 + o) - q = 0 then 2 else gI σ 26 0 (240 + o)) := by
  have w1 : wr (gI σ 26 0 (180 + o) - q) = gI σ 26 0 (180 + o) - q := wr_id (by omega) (by omega)
  have a1 : gI (mLo1 σ o q) 26 0 (180 + o) = gI σ 26 0 (180 + o) - q := by
    unfold mLo1
    simp (disch := omega) only [gI_self, gI_nt, gI_nj, gL_uI, gR_uI, gI_uL, gR_uL, gI_uR, gL_uR, w1]
  have a2 : gI (mLo1 σ o q) 26 0 (540 + o) = wr (gI σ 26 0 (540 + o) + q) := by
    unfold mLo1
    simp (disch := omega) only [gI_self, gI_nt, gI_nj, gL_uI, gR_uI, gI_uL, gR_uL, gI_uR, gL_uR]
  have ak : ∀ k, ¬ k = 180 + o → ¬ k = 540 + o → gI (mLo1 σ o q) 26 0 k = gI σ 26 0 k := fun k k1 k2 => by
    unfold mLo1
    simp (disch := omega) only [gI_self, gI_nt, gI_nj, gL_uI, gR_uI, gI_uL, gR_uL, gI_uR, gL_uR]
  have aF : FrM σ (mLo1 σ o q) := by
    unfold mLo1
    exact ((FrM.rfl σ).u _ _ _ (Or.inl rfl)).u _ _ _ (Or.inl rfl)
  generalize mLo1 σ o q = M at a1 a2 ak aF ⊢
  unfold mLo2
  rw [a1]
  by_cases z : gI σ 26 0 (180 + o) - q = 0
  · rw [if_pos z, if_pos z]
    refine ⟨aF.u _ _ _ (Or.inl rfl), fun k k1 k2 k3 => ?_, ?_, ?_, ?_⟩
    · rw [gI_nj _ _ _ _ _ _ _ _ k3]; exact ak k k1 k2
    · rw [gI_nj _ _ _ _ _ _ _ _ (by omega)]; exact a1
    · rw [gI_nj _ _ _ _ _ _ _ _ (by omega)]; exact a2
    · rw [gI_self]
  · rw [if_neg z, if_neg z]
    exact ⟨aF, fun k k1 k2 _ => ak k k1 k2, a1, a2, ak _ (by omega) (by omega)⟩
theorem c_Md_crossed (o q : Int) (σ : aM) (h : 0 ≤ o ∧ o < 60) : ev 186 0 [aR 25 0, aI o, aI q] [] σ = some (none, mLo2 (mLo1 σ o q) o) := by
  have e : mLo1 σ o q = mLo1 σ o q := rfl
  conv at e => lhs; unfold mLo1
  unfold mLo2
  by_cases z : gI (mLo1 σ o q) 26 0 (180 + o) = 0
  · rw [if_pos z]
    simp (disch := omega) only [e_Md_crossed_0, e_Md_crossed_1, e_Md_crossed_4, e_Md_crossed_7, e_Md_crossed_8, e_Md_crossed_9, e_Md_crossed_10, e_Md_crossed_11, e_Md_crossed_12, e_Md_crossed_13, e_Md_crossed_14, e_Md_crossed_15, e_Md_crossed_18, e_Md_crossed_21, e_Md_crossed_22, e_Md_crossed_23, e_Md_crossed_24, e_Md_crossed_25, e_Md_crossed_26, e_Md_crossed_27, e_Md_crossed_28, e_Md_crossed_29, e_Md_crossed_32, e_Md_crossed_35, e_Md_crossed_36, e_Md_crossed_37, e_Md_crossed_38, e_Md_crossed_41, e_Md_crossed_42, e_Md_crossed_45, e_Md_crossed_48, e_Md_crossed_49, e_Md_crossed_50, e_Md_crossed_51, e_Md_crossed_52, wr_id, gI_self, gI_nt, gI_nj, gL_uI, gR_uI, gI_uL, gR_uL, gI_uR, gL_uR, e, if_neg (show ¬ ¬ gI (mLo1 σ o q) 26 0 (180 + o) = 0 from fun y => y z)]
  · rw [if_neg z]
    simp (disch := omega) only [e_Md_crossed_0, e_Md_crossed_1, e_Md_crossed_4, e_Md_crossed_7, e_Md_crossed_8, e_Md_crossed_9, e_Md_crossed_10, e_Md_crossed_11, e_Md_crossed_12, e_Md_crossed_13, e_Md_crossed_14, e_Md_crossed_15, e_Md_crossed_18, e_Md_crossed_21, e_Md_crossed_22, e_Md_crossed_23, e_Md_crossed_24, e_Md_crossed_25, e_Md_crossed_26, e_Md_crossed_27, e_Md_crossed_28, e_Md_crossed_29, e_Md_crossed_32, e_Md_crossed_35, e_Md_crossed_36, e_Md_crossed_37, e_Md_crossed_38, e_Md_crossed_41, e_Md_crossed_42, e_Md_crossed_45, e_Md_crossed_48, e_Md_crossed_49, e_Md_crossed_50, e_Md_crossed_51, e_Md_crossed_52, wr_id, gI_self, gI_nt, gI_nj, gL_uI, gR_uI, gI_uL, gR_uL, gI_uR, gL_uR, e, if_pos z]
theorem g_kSh (σ : aM) (x : Int) (t : Nat) (i j : Int) : gI (kSh σ x) t i j = if t = 8 ∧ i = x ∧ j = 9 ∧ gI σ 8 x 1 = 2 then (if gI σ 8 x 4 < gI σ 8 x 8 then gI σ 8 x 4 else gI σ 8 x 8) else gI σ t i j := by
  unfold kSh
  by_cases c : gI σ 8 x 1 = 2
  · rw [if_pos c, gI_uI]
    by_cases d : t = 8 ∧ i = x ∧ j = 9
    · rw [if_pos d, if_pos (show t = 8 ∧ i = x ∧ j = 9 ∧ gI σ 8 x 1 = 2 from ⟨d.1, d.2.1, d.2.2, c⟩)]
    · rw [if_neg d, if_neg (fun y => d ⟨y.1, y.2.1, y.2.2.1⟩)]
  · rw [if_neg c, if_neg (fun y => c y.2.2.2)]
theorem kO1_eff (τ : aM) (u p x z q : Int) (hxz : ¬ x = z) (hq : opQ τ u x z = q) : (∀ t i j, ¬ t = 8 → gI (kO1 τ u p x z) t i j = gI (kNt τ x z p q) t i j) ∧ (∀ i j, ¬ i = x → ¬ i = z → gI (kO1 τ u p x z) 8 i j = gI τ 8 i j) ∧
    ∀ i, (i = x ∨ i = z) → gI (kO1 τ u p x z) 8 i 4 = wr (gI τ 8 i 4 - q) ∧ gI (kO1 τ u p x z) 8 i 6 = wr (gI τ 8 i 6 + q) ∧ gI (kO1 τ u p x z) 8 i 5 = (if wr (gI τ 8 i 4 - q) = 0 then 2 else gI τ 8 i 5) ∧
      (gI τ 8 i 1 = 2 → gI (kO1 τ u p x z) 8 i 9 = if wr (gI τ 8 i 4 - q) < gI τ 8 i 8 then wr (gI τ 8 i 4 - q) else gI τ 8 i 8) ∧ ∀ j, ¬ j = 4 → ¬ j = 5 → ¬ j = 6 → ¬ j = 9 → gI (kO1 τ u p x z) 8 i j = gI τ 8 i j := by
  have h8 := g_kTa8 τ x z p q hxz
  have ho := fun t ht i j => g_kTa_o τ x z p q t ht i j
  unfold kO1
  rw [hq]
  generalize kTa τ x z p q = T at h8 ho ⊢
  have K : ∀ i j, ¬ j = 9 → gI (kSh T x) 8 i j = gI T 8 i j := fun i j j9 => by rw [g_kSh, if_neg (fun y => j9 y.2.2.1)]
  have T8 : ∀ i j, ¬ j = 9 → gI (kSh (kSh T x) z) 8 i j = gI T 8 i j := fun i j j9 => by rw [g_kSh, if_neg (fun y => j9 y.2.2.1), K i j j9]
  refine ⟨fun t i j t8 => ?_, fun i j ix iz => ?_, fun i hi => ⟨?_, ?_, ?_, fun k2 => ?_, fun j j4 j5 j6 j9 => ?_⟩⟩
  · rw [g_kSh, if_neg (fun y => t8 y.1), g_kSh, if_neg (fun y => t8 y.1)]
    exact ho t t8 i j
  · rw [g_kSh, if_neg (fun y => iz y.2.1), g_kSh, if_neg (fun y => ix y.2.1), h8, if_neg (show ¬ (i = x ∨ i = z) from fun y => y.elim ix iz)]
  · rw [T8 _ _ (by omega), h8, if_pos hi, if_pos rfl]
  · rw [T8 _ _ (by omega), h8, if_pos hi, if_neg (by omega), if_pos rfl]
  · rw [T8 _ _ (by omega), h8, if_pos hi, if_neg (by omega), if_neg (by omega)]
    exact ite_congr (propext ⟨fun y => y.2, fun y => ⟨rfl, y⟩⟩) (fun _ => rfl) (fun _ => rfl)
  · have t1 : gI T 8 i 1 = 2 := by rw [h8, if_pos hi, if_neg (by omega), if_neg (by omega), if_neg (by omega)]; exact k2
    have t4 : gI T 8 i 4 = wr (gI τ 8 i 4 - q) := by rw [h8, if_pos hi, if_pos rfl]
    have t8 : gI T 8 i 8 = gI τ 8 i 8 := by rw [h8, if_pos hi, if_neg (by omega), if_neg (by omega), if_neg (by omega)]
    rw [← t4, ← t8]
    rcases hi with hi | hi
    · subst hi
      rw [g_kSh, if_neg (fun y => hxz y.2.1), g_kSh, if_pos ⟨rfl, rfl, rfl, t1⟩]
    · subst hi
      rw [g_kSh, K _ 1 (by omega), K _ 4 (by omega), K _ 8 (by omega), if_pos ⟨rfl, rfl, rfl, t1⟩]
  · rw [T8 _ _ j9, h8, if_pos hi, if_neg j4, if_neg j6, if_neg (fun y => j5 y.1)]
/-- what the reference makes of one trade -/
def mX (σ : aM) (x z q : Int) : aM := mLo2 (mLo1 (mLo2 (mLo1 (uI (uI σ 33 0 x 1) 33 0 z 1) x q) x) z q) z
theorem mX_eff (σ : aM) (x z q : Int) (hx : 0 ≤ x ∧ x < 60) (hz : 0 ≤ z ∧ z < 60) (hxz : ¬ x = z) (hq : 0 ≤ q ∧ q ≤ 999) (hlx : q ≤ gI σ 26 0 (180 + x) ∧ gI σ 26 0 (180 + x) ≤ 999) (hlz : q ≤ gI σ 26 0 (180 + z) ∧ gI σ 26 0 (180 + z) ≤ 999) :
    FrM (uI (uI σ 33 0 x 1) 33 0 z 1) (mX σ x z q) ∧ (∀ k, (∀ o, (o = x ∨ o = z) → ¬ k = 180 + o ∧ ¬ k = 540 + o ∧ ¬ k = 240 + o) → gI (mX σ x z q) 26 0 k = gI σ 26 0 k) ∧
    ∀ o, (o = x ∨ o = z) → gI (mX σ x z q) 26 0 (180 + o) = gI σ 26 0 (180 + o) - q ∧ gI (mX σ x z q) 26 0 (540 + o) = wr (gI σ 26 0 (540 + o) + q) ∧ gI (mX σ x z q) 26 0 (240 + o) = (if gI σ 26 0 (180 + o) - q = 0 then 2 else gI σ 26 0 (240 + o)) := by
  have b0 : ∀ k, gI (uI (uI σ 33 0 x 1) 33 0 z 1) 26 0 k = gI σ 26 0 k := fun k => by rw [gI_nt _ _ _ _ _ _ _ _ (by decide), gI_nt _ _ _ _ _ _ _ _ (by decide)]
  unfold mX
  generalize uI (uI σ 33 0 x 1) 33 0 z 1 = S at b0 ⊢
  obtain ⟨c1, c2, c3, c4, c5⟩ := cx_eff S x q hx hq (by rw [b0]; exact hlx)
  generalize mLo2 (mLo1 S x q) x = S2 at c1 c2 c3 c4 c5 ⊢
  have b2 : gI S2 26 0 (180 + z) = gI σ 26 0 (180 + z) := by rw [c2 _ (by omega) (by omega) (by omega), b0]
  obtain ⟨d1, d2, d3, d4, d5⟩ := cx_eff S2 z q hz hq (by rw [b2]; exact hlz)
  refine ⟨c1.trans d1, fun k hk => ?_, fun o ho => ?_⟩
  · have k1 := hk x (Or.inl rfl)
    have k2 := hk z (Or.inr rfl)
    rw [d2 k k2.1 k2.2.1 k2.2.2, c2 k k1.1 k1.2.1 k1.2.2, b0]
  · rcases ho with ho | ho
    · subst ho
      rw [d2 _ (by omega) (by omega) (by omega), d2 _ (by omega) (by omega) (by omega), d2 _ (by omega) (by omega) (by omega), c3, c4, c5, b0, b0, b0]
      exact ⟨rfl, rfl, rfl⟩
    · subst ho
      rw [d3, d4, d5, b2, c2 _ (by omega) (by omega) (by omega), c2 _ (by omega) (by omega) (by omega), b0, b0]
      exact ⟨rfl, rfl, rfl⟩
