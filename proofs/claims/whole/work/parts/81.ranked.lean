/-! the reference's rank, by counting -/
theorem suF_snoc (f : Int → Int) : ∀ (n : Nat) (i : Int), suF f (n + 1) i = suF f n i + f (i + n) := by
  intro n
  induction n with
  | zero => intro i; rw [suF, suF, suF]; simp
  | succ n ih =>
    intro i
    rw [suF, ih (i + 1), suF]
    have : f (i + 1 + (n : Int)) = f (i + ((n + 1 : Nat) : Int)) := congrArg f (by omega)
    rw [this]
    omega
theorem suF_one (b v : Int) : ∀ (n : Nat) (i : Int), i ≤ b → b < i + n → suF (fun k => if k = b then v else 0) n i = v := by
  intro n
  induction n with
  | zero => intro i h0 h1; omega
  | succ n ih =>
    intro i h0 h1
    rw [suF]
    by_cases z : i = b
    · rw [if_pos z, suF_eq (g := fun _ => 0) n (i + 1) (fun k k0 k1 => if_neg (by omega)), suF_0 (fun _ => rfl)]
      omega
    · rw [if_neg z, ih (i + 1) (by omega) (by omega)]
      omega
theorem suF_set (v lf : Int → Int) (N : Nat) : ∀ (r : Nat) (f : Int → Int), (∀ a b : Int, 0 ≤ a → a < r → 0 ≤ b → b < r → lf a = lf b → a = b) → (∀ a : Int, 0 ≤ a → a < r → 0 ≤ lf a ∧ lf a < N) → (∀ k : Int, 0 ≤ k → k < N → (f k = v k ∧ ∃ a : Int, (0 ≤ a ∧ a < r) ∧ lf a = k) ∨ (f k = 0 ∧ ¬ ∃ a : Int, (0 ≤ a ∧ a < r) ∧ lf a = k)) → suF f N 0 = suF (fun a => v (lf a)) r 0 := by
  intro r
  induction r with
  | zero =>
    intro f hi hr hf
    rw [suF_eq (g := fun _ => 0) N 0 (fun k k0 k1 => by
      rcases hf k k0 (by omega) with ⟨_, a, h, _⟩ | ⟨h, _⟩
      · omega
      · exact h), suF_0 (fun _ => rfl)]
    rfl
  | succ r ih =>
    intro f hi hr hf
    have hb := hr r (by omega) (by omega)
    rw [suF_snoc, Int.zero_add]
    have hfb : f (lf r) = v (lf r) := by
      rcases hf (lf r) hb.1 hb.2 with h | h
      · exact h.1
      · exact absurd ⟨(r : Int), by omega, rfl⟩ h.2
    have e : suF f N 0 = suF (fun k => if k = lf r then 0 else f k) N 0 + suF (fun k => if k = lf r then v (lf r) else 0) N 0 := suF_add _ _ _ (fun k => by
      by_cases z : k = lf r
      · rw [if_pos z, if_pos z, z, hfb]; omega
      · rw [if_neg z, if_neg z]; omega) _ _
    rw [e, suF_one (lf r) (v (lf r)) N 0 hb.1 (by omega), ih (fun k => if k = lf r then 0 else f k) (fun a b a0 a1 b0 b1 => hi a b a0 (by omega) b0 (by omega)) (fun a a0 a1 => hr a a0 (by omega)) (fun k k0 k1 => ?_)]
    by_cases z : k = lf r
    · refine Or.inr ⟨if_pos z, fun ⟨a, a1, a2⟩ => ?_⟩
      have := hi a r a1.1 (by omega) (by omega) (by omega) (a2.trans z)
      omega
    · rw [if_neg z]
      rcases hf k k0 k1 with ⟨h1, a, a1, a2⟩ | ⟨h1, h2⟩
      · refine Or.inl ⟨h1, a, ⟨a1.1, ?_⟩, a2⟩
        by_cases y : a = r
        · exact absurd (y ▸ a2.symm) z
        · omega
      · exact Or.inr ⟨h1, fun ⟨a, a1, a2⟩ => h2 ⟨a, by omega, a2⟩⟩
/-- one that is ahead of o counts so much -/
def ahV (τ : aM) (o : Int) (v : Int → Int) (k : Int) : Int := if ¬ k = o ∧ elK τ (gI τ 8 o 3) k ∧ AH τ (gI τ 8 o 3) k o then v k else 0
theorem Ln_ahV {τ : aM} {w m r : Int} {lf : Int → Int} (hL : Ln τ w (gI τ 6 0 2) m lf) (h0 : 0 ≤ gI τ 6 0 2) (hr : 0 ≤ r ∧ r < m) (v : Int → Int) : suF (ahV τ (lf r) v) (gI τ 6 0 2).toNat 0 = suF (fun a => v (lf a)) r.toNat 0 := by
  obtain ⟨l1, l2, l3, l4⟩ := hL
  have hin : ∀ a b, 0 ≤ a → a < m → 0 ≤ b → b < m → lf a = lf b → a = b := fun a b a0 a1 b0 b1 e => by
    rcases Int.lt_trichotomy a b with y | y | y
    · have := l4 a b a0 y b1; rw [e] at this; exact absurd this AH_irr
    · exact y
    · have := l4 b a b0 y a1; rw [e] at this; exact absurd this AH_irr
  have hw : gI τ 8 (lf r) 3 = w := (l2 r hr.1 hr.2).2.1.2
  refine suF_set v lf _ r.toNat _ (fun a b a0 a1 b0 b1 e => hin a b a0 (by omega) b0 (by omega) e) (fun a a0 a1 => by have := (l2 a a0 (by omega)).1; omega) (fun k k0 k1 => ?_)
  unfold ahV
  rw [hw]
  by_cases z : ¬ k = lf r ∧ elK τ w k ∧ AH τ w k (lf r)
  · refine Or.inl ⟨if_pos z, ?_⟩
    obtain ⟨a, a1, a2⟩ := l3 k k0 (by omega) z.2.1
    refine ⟨a, ⟨a1.1, ?_⟩, a2⟩
    have : a < r := Int.not_le.mp (fun y => by
      by_cases q : a = r
      · exact z.1 (by rw [← q, a2])
      · have h := l4 r a hr.1 (by omega) a1.2
        rw [a2] at h
        exact AH_irr (AH_trans z.2.1.1.2 hw z.2.2 h))
    omega
  · refine Or.inr ⟨if_neg z, fun ⟨a, a1, a2⟩ => z ⟨fun q => ?_, ?_, ?_⟩⟩
    · have := hin a r a1.1 (by omega) hr.1 hr.2 (a2.trans q)
      omega
    · rw [← a2]; exact (l2 a a1.1 (by omega)).2
    · rw [← a2]; exact l4 a r a1.1 (by omega) hr.2
theorem l_Md_aheadMany {τ σ : aM} {o : Int} (h : RO τ σ (-1)) (hI : IO τ (-1)) (ho : 0 ≤ o ∧ o < gI τ 6 0 2) (h5 : gI τ 8 o 5 = 1) : ∀ (n : Nat) (i a : Int), 0 ≤ i → i + n = gI τ 6 0 2 → (0 ≤ a ∧ a ≤ i) → ev 146 4 [aR 25 0, aI o, aI a, aI i] [] σ = some (some (aI (a + suF (ahV τ o (fun _ => 1)) n i)), σ) := by
  have hm := h.1
  have k3 := (RO.p h ho.1 ho.2).1.2.2.1
  intro n
  induction n with
  | zero =>
    intro i a h0 h1 h2
    rw [e_Md_aheadMany_4]
    simp (disch := omega) only [e_Md_aheadMany_5, e_Md_aheadMany_6, e_Md_aheadMany_9, e_Md_aheadMany_12, e_Md_aheadMany_13, e_Md_aheadMany_61, e_Md_aheadMany_62, hm.1, if_pos (show gI τ 6 0 2 ≤ i by omega), suF, Int.add_zero]
  | succ n ih =>
    intro i a h0 h1 h2
    have hle : ¬ gI τ 6 0 2 ≤ i := by omega
    have hrk := c_Md_isRanked i (gI τ 8 o 3) h hI h0 (by omega)
    rw [e_Md_aheadMany_4, suF]
    by_cases z1 : i = o
    · rw [show ahV τ o (fun _ => 1) i = 0 from if_neg (fun y => y.1 z1), Int.zero_add]
      simp (disch := omega) only [e_Md_aheadMany_5, e_Md_aheadMany_6, e_Md_aheadMany_9, e_Md_aheadMany_12, e_Md_aheadMany_13, e_Md_aheadMany_16, e_Md_aheadMany_17, e_Md_aheadMany_18, e_Md_aheadMany_19, e_Md_aheadMany_22, e_Md_aheadMany_23, e_Md_aheadMany_24, e_Md_aheadMany_25, e_Md_aheadMany_28, e_Md_aheadMany_30, e_Md_aheadMany_31, e_Md_aheadMany_32, e_Md_aheadMany_33, e_Md_aheadMany_36, e_Md_aheadMany_39, e_Md_aheadMany_40, e_Md_aheadMany_41, e_Md_aheadMany_42, e_Md_aheadMany_45, e_Md_aheadMany_48, e_Md_aheadMany_49, e_Md_aheadMany_52, e_Md_aheadMany_53, e_Md_aheadMany_54, e_Md_aheadMany_55, e_Md_aheadMany_58, hm.1, if_neg hle, if_pos z1, Int.add_zero, wr_id, ih]
    · by_cases z2 : elK τ (gI τ 8 o 3) i
      · have hah := c_Md_isAheadOf i o (gI τ 8 o 3) h hI ⟨h0, by omega⟩ ho z2.1 ⟨h5, rfl⟩
        rw [if_pos z2] at hrk
        by_cases z3 : AH τ (gI τ 8 o 3) i o
        · rw [if_pos z3] at hah
          rw [show ahV τ o (fun _ => 1) i = 1 from if_pos ⟨z1, z2, z3⟩, ← Int.add_assoc]
          simp (disch := omega) only [e_Md_aheadMany_5, e_Md_aheadMany_6, e_Md_aheadMany_9, e_Md_aheadMany_12, e_Md_aheadMany_13, e_Md_aheadMany_16, e_Md_aheadMany_17, e_Md_aheadMany_18, e_Md_aheadMany_19, e_Md_aheadMany_22, e_Md_aheadMany_23, e_Md_aheadMany_24, e_Md_aheadMany_25, e_Md_aheadMany_28, e_Md_aheadMany_30, e_Md_aheadMany_31, e_Md_aheadMany_32, e_Md_aheadMany_33, e_Md_aheadMany_36, e_Md_aheadMany_39, e_Md_aheadMany_40, e_Md_aheadMany_41, e_Md_aheadMany_42, e_Md_aheadMany_45, e_Md_aheadMany_48, e_Md_aheadMany_49, e_Md_aheadMany_52, e_Md_aheadMany_53, e_Md_aheadMany_54, e_Md_aheadMany_55, e_Md_aheadMany_58, hm.1, if_neg hle, if_neg z1, k3, hrk, hah, evK_i, one_ne, if_false, wr_id, ih]
        · rw [if_neg z3] at hah
          rw [show ahV τ o (fun _ => 1) i = 0 from if_neg (fun y => z3 y.2.2), Int.zero_add]
          simp (disch := omega) only [e_Md_aheadMany_5, e_Md_aheadMany_6, e_Md_aheadMany_9, e_Md_aheadMany_12, e_Md_aheadMany_13, e_Md_aheadMany_16, e_Md_aheadMany_17, e_Md_aheadMany_18, e_Md_aheadMany_19, e_Md_aheadMany_22, e_Md_aheadMany_23, e_Md_aheadMany_24, e_Md_aheadMany_25, e_Md_aheadMany_28, e_Md_aheadMany_30, e_Md_aheadMany_31, e_Md_aheadMany_32, e_Md_aheadMany_33, e_Md_aheadMany_36, e_Md_aheadMany_39, e_Md_aheadMany_40, e_Md_aheadMany_41, e_Md_aheadMany_42, e_Md_aheadMany_45, e_Md_aheadMany_48, e_Md_aheadMany_49, e_Md_aheadMany_52, e_Md_aheadMany_53, e_Md_aheadMany_54, e_Md_aheadMany_55, e_Md_aheadMany_58, hm.1, if_neg hle, if_neg z1, k3, hrk, hah, evK_i, one_ne, if_false, if_true, Int.add_zero, wr_id, ih]
      · rw [if_neg z2] at hrk
        rw [show ahV τ o (fun _ => 1) i = 0 from if_neg (fun y => z2 y.2.1), Int.zero_add]
        simp (disch := omega) only [e_Md_aheadMany_5, e_Md_aheadMany_6, e_Md_aheadMany_9, e_Md_aheadMany_12, e_Md_aheadMany_13, e_Md_aheadMany_16, e_Md_aheadMany_17, e_Md_aheadMany_18, e_Md_aheadMany_19, e_Md_aheadMany_22, e_Md_aheadMany_23, e_Md_aheadMany_24, e_Md_aheadMany_25, e_Md_aheadMany_28, e_Md_aheadMany_30, e_Md_aheadMany_31, e_Md_aheadMany_32, e_Md_aheadMany_33, e_Md_aheadMany_36, e_Md_aheadMany_39, e_Md_aheadMany_40, e_Md_aheadMany_41, e_Md_aheadMany_42, e_Md_aheadMany_45, e_Md_aheadMany_48, e_Md_aheadMany_49, e_Md_aheadMany_52, e_Md_aheadMany_53, e_Md_aheadMany_54, e_Md_aheadMany_55, e_Md_aheadMany_58, hm.1, if_neg hle, if_neg z1, k3, hrk, evK_i, if_true, Int.add_zero, wr_id, ih]
theorem suF_c1 : ∀ (n : Nat) (i : Int), suF (fun _ => 1) n i = n := by
  intro n
  induction n with
  | zero => intro i; rfl
  | succ n ih => intro i; rw [suF, ih]; omega
theorem c_Md_aheadMany {τ σ : aM} {w m r : Int} {lf : Int → Int} (h : RO τ σ (-1)) (hI : IO τ (-1)) (hL : Ln τ w (gI τ 6 0 2) m lf) (hr : 0 ≤ r ∧ r < m) : ev 146 0 [aR 25 0, aI (lf r), aU, aU] [] σ = some (some (aI r), σ) := by
  have h2 := hL.2.1 r hr.1 hr.2
  have hc := h.1.2
  have h1 := l_Md_aheadMany h hI h2.1 h2.2.1.1 (gI τ 6 0 2).toNat 0 0 (by omega) (by omega) (by omega)
  rw [Ln_ahV hL hc.1 hr, suF_c1, Int.zero_add, Int.toNat_of_nonneg hr.1] at h1
  simp (disch := omega) only [e_Md_aheadMany_0, e_Md_aheadMany_1, e_Md_aheadMany_2, e_Md_aheadMany_3, h1]
/-- the i-th of the line; -1 if there is none -/
def lnA (m : Int) (lf : Int → Int) (i : Int) : Int := if 0 ≤ i ∧ i < m then lf i else -1
theorem l_Md_ranked {τ σ : aM} {w m i : Int} {lf : Int → Int} (h : RO τ σ (-1)) (hI : IO τ (-1)) (hL : Ln τ w (gI τ 6 0 2) m lf) : ∀ (n : Nat) (k : Int), 0 ≤ k → k + n = gI τ 6 0 2 → ev 194 5 [aR 25 0, aI w, aI i, aI (if (0 ≤ i ∧ i < m) ∧ lf i < k then lf i else -1), aI k] [] σ = some (some (aI (lnA m lf i)), σ) := by
  have hm := h.1
  intro n
  induction n with
  | zero =>
    intro k h0 h1
    have e : (if (0 ≤ i ∧ i < m) ∧ lf i < k then lf i else -1) = lnA m lf i := by
      unfold lnA
      by_cases z : 0 ≤ i ∧ i < m
      · have := (hL.2.1 i z.1 z.2).1
        rw [if_pos ⟨z, by omega⟩, if_pos z]
      · rw [if_neg (fun y => z y.1), if_neg z]
    rw [e_Md_ranked_5]
    simp (disch := omega) only [e_Md_ranked_7, e_Md_ranked_8, e_Md_ranked_11, e_Md_ranked_14, e_Md_ranked_15, e_Md_ranked_51, e_Md_ranked_52, hm.1, if_pos (show gI τ 6 0 2 ≤ k by omega), e]
  | succ n ih =>
    intro k h0 h1
    have hle : ¬ gI τ 6 0 2 ≤ k := by omega
    have hrk := c_Md_isRanked k w h hI h0 (by omega)
    have ihk := ih (k + 1) (by omega) (by omega)
    rw [e_Md_ranked_5]
    obtain ⟨F, hF⟩ : ∃ F, F = (if (0 ≤ i ∧ i < m) ∧ lf i < k then lf i else -1) := ⟨_, rfl⟩
    rw [← hF]
    by_cases z : elK τ w k
    · rw [if_pos z] at hrk
      obtain ⟨r, r1, r2⟩ := hL.2.2.1 k h0 (by omega) z
      have ham := c_Md_aheadMany h hI hL r1
      rw [r2] at ham
      by_cases y : r = i
      · rw [if_pos (show (0 ≤ i ∧ i < m) ∧ lf i < k + 1 by rw [← y]; omega), ← y, r2] at ihk
        simp (disch := omega) only [e_Md_ranked_7, e_Md_ranked_8, e_Md_ranked_11, e_Md_ranked_14, e_Md_ranked_15, e_Md_ranked_18, e_Md_ranked_19, e_Md_ranked_21, e_Md_ranked_22, e_Md_ranked_25, e_Md_ranked_28, e_Md_ranked_29, e_Md_ranked_31, e_Md_ranked_34, e_Md_ranked_35, e_Md_ranked_38, e_Md_ranked_40, e_Md_ranked_43, e_Md_ranked_44, e_Md_ranked_45, e_Md_ranked_48, hm.1, if_neg hle, hrk, evK_i, one_ne, if_false, ham, if_neg (show ¬ ¬ r = i from fun q => q y), wr_id]
        rw [← y, ihk]
      · have e : (if (0 ≤ i ∧ i < m) ∧ lf i < k + 1 then lf i else -1) = F := by
          rw [hF]
          by_cases q : (0 ≤ i ∧ i < m) ∧ lf i < k
          · rw [if_pos q, if_pos ⟨q.1, by omega⟩]
          · rw [if_neg q, if_neg (fun u => q ⟨u.1, by
              have : ¬ lf i = k := fun t => by
                rcases Int.lt_trichotomy r i with a | a | a
                · have := hL.2.2.2 r i r1.1 a u.1.2; rw [r2, t] at this; exact AH_irr this
                · exact y a
                · have := hL.2.2.2 i r u.1.1 a r1.2; rw [r2, t] at this; exact AH_irr this
              omega⟩)]
        rw [e] at ihk
        simp (disch := omega) only [e_Md_ranked_7, e_Md_ranked_8, e_Md_ranked_11, e_Md_ranked_14, e_Md_ranked_15, e_Md_ranked_18, e_Md_ranked_19, e_Md_ranked_21, e_Md_ranked_22, e_Md_ranked_25, e_Md_ranked_28, e_Md_ranked_29, e_Md_ranked_31, e_Md_ranked_34, e_Md_ranked_35, e_Md_ranked_38, e_Md_ranked_40, e_Md_ranked_43, e_Md_ranked_44, e_Md_ranked_45, e_Md_ranked_48, hm.1, if_neg hle, hrk, evK_i, one_ne, if_false, ham, if_pos y, wr_id, ihk]
    · rw [if_neg z] at hrk
      have e : (if (0 ≤ i ∧ i < m) ∧ lf i < k + 1 then lf i else -1) = F := by
        rw [hF]
        by_cases q : (0 ≤ i ∧ i < m) ∧ lf i < k
        · rw [if_pos q, if_pos ⟨q.1, by omega⟩]
        · rw [if_neg q, if_neg (fun u => q ⟨u.1, by
            have : ¬ lf i = k := fun t => z (t ▸ (hL.2.1 i u.1.1 u.1.2).2)
            omega⟩)]
      rw [e] at ihk
      simp (disch := omega) only [e_Md_ranked_7, e_Md_ranked_8, e_Md_ranked_11, e_Md_ranked_14, e_Md_ranked_15, e_Md_ranked_18, e_Md_ranked_19, e_Md_ranked_21, e_Md_ranked_22, e_Md_ranked_25, e_Md_ranked_28, e_Md_ranked_29, e_Md_ranked_31, e_Md_ranked_34, e_Md_ranked_35, e_Md_ranked_38, e_Md_ranked_40, e_Md_ranked_43, e_Md_ranked_44, e_Md_ranked_45, e_Md_ranked_48, hm.1, if_neg hle, hrk, evK_i, if_true, wr_id, ihk]
theorem c_Md_ranked {τ σ : aM} {w m : Int} {lf : Int → Int} (i : Int) (h : RO τ σ (-1)) (hI : IO τ (-1)) (hL : Ln τ w (gI τ 6 0 2) m lf) : ev 194 0 [aR 25 0, aI w, aI i, aU, aU] [] σ = some (some (aI (lnA m lf i)), σ) := by
  have hm := h.1
  have h1 := l_Md_ranked (i := i) h hI hL (gI τ 6 0 2).toNat 0 (by omega) (by omega)
  rw [if_neg (fun y => by have := (hL.2.1 i y.1.1 y.1.2).1; omega)] at h1
  simp (disch := omega) only [e_Md_ranked_0, e_Md_ranked_1, e_Md_ranked_2, e_Md_ranked_3, h1]
