/-! the ranking -/
/-- memories that differ in the ranking alone -/
def FrK (σ τ : aM) : Prop := τ.2.1 = σ.2.1 ∧ ∀ t i j, ¬ t = 16 → ¬ t = 18 → gI τ t i j = gI σ t i j
theorem FrK.rfl (σ : aM) : FrK σ σ := ⟨Eq.refl _, fun _ _ _ _ _ => Eq.refl _⟩
theorem FrK.u {σ τ : aM} (h : FrK σ τ) {t : Nat} (i j v : Int) (ht : t = 16 ∨ t = 18) : FrK σ (uI τ t i j v) := ⟨h.1, fun t' i' j' h1 h2 => by
  rw [gI_uI, if_neg (fun q => by omega)]
  exact h.2 t' i' j' h1 h2⟩
theorem FrK.r {σ τ : aM} (h : FrK σ τ) (j : Int) (q : Option (Nat × Int)) : FrK σ (uR τ j q) := ⟨h.1, h.2⟩
/-- the line holds these, by place, with their prices -/
def RkF (τ : aM) (m : Int) (lf pf : Int → Int) : Prop := gI τ 16 0 2 = m ∧ ∀ r, 0 ≤ r → r < m → gR τ r = some (8, lf r) ∧ gI τ 18 0 r = pf (lf r)
def insF (lf : Int → Int) (a o : Int) (r : Int) : Int := if r < a then lf r else if r = a then o else lf (r - 1)
theorem l_Rk_placeIn (σ : aM) (m o : Int) (lf pf : Int → Int) (hm : 0 ≤ m ∧ m < 60) : ∀ (n : Nat) (a : Int) (τ : aM), a = n → a ≤ m → FrK σ τ → gI τ 16 0 2 = m → (∀ r, 0 ≤ r → r < a → gR τ r = some (8, lf r) ∧ gI τ 18 0 r = pf (lf r)) → (∀ r, a ≤ r → r < m → gR τ (r + 1) = some (8, lf r) ∧ gI τ 18 0 (r + 1) = pf (lf r)) → (∀ r, a ≤ r → r < m → ahd σ o (lf r) (pf o) (pf (lf r))) → ∃ τ' b, ev 47 15 [aR 16 0, aR 8 o, aI (pf o), aI a] [] τ = some (none, τ') ∧ FrK σ τ' ∧ (0 ≤ b ∧ b ≤ m) ∧ RkF τ' (m + 1) (insF lf b o) pf ∧ (∀ r, b ≤ r → r < m → ahd σ o (lf r) (pf o) (pf (lf r))) ∧ (0 < b → ¬ ahd σ o (lf (b - 1)) (pf o) (pf (lf (b - 1)))) := by
  have fin : ∀ (a : Int) (τ : aM), 0 ≤ a → a ≤ m → FrK σ τ → gI τ 16 0 2 = m → (∀ r, 0 ≤ r → r < a → gR τ r = some (8, lf r) ∧ gI τ 18 0 r = pf (lf r)) → (∀ r, a ≤ r → r < m → gR τ (r + 1) = some (8, lf r) ∧ gI τ 18 0 (r + 1) = pf (lf r)) → RkF (uI (uI (uR τ a (some (8, o))) 18 0 a (pf o)) 16 0 2 (m + 1)) (m + 1) (insF lf a o) pf := by
    intro a τ h0 h1 hF h2 h3 h4
    refine ⟨gI_self _ _ _ _ _, fun r r0 r1 => ?_⟩
    simp (disch := omega) only [gI_self, gI_nt, gI_nj, gL_uI, gR_uI, gI_uL, gR_uL, gI_uR, gL_uR, gR_uR]
    rw [gI_uI]
    unfold insF
    by_cases c1 : r < a
    · have := h3 r r0 c1
      rw [if_pos c1, if_neg (by omega), if_neg (by omega)]
      simp (disch := omega) only [gI_self, gI_nt, gI_nj, gL_uI, gR_uI, gI_uL, gR_uL, gI_uR, gL_uR]
      exact this
    · by_cases c2 : r = a
      · rw [if_neg c1, if_pos c2, if_pos c2, if_pos ⟨rfl, rfl, c2⟩]
        exact ⟨rfl, rfl⟩
      · have := h4 (r - 1) (by omega) (by omega)
        rw [show r - 1 + 1 = r by omega] at this
        rw [if_neg c1, if_neg c2, if_neg c2, if_neg (by omega)]
        simp (disch := omega) only [gI_self, gI_nt, gI_nj, gL_uI, gR_uI, gI_uL, gR_uL, gI_uR, gL_uR]
        exact this
  intro n
  induction n with
  | zero =>
    intro a τ ha ham hF h2 h3 h4 h5
    have hle : a ≤ 0 := by omega
    refine ⟨_, a, ?_, ((hF.r a (some (8, o))).u 0 a (pf o) (by omega)).u 0 2 (m + 1) (by omega), by omega, fin a τ (by omega) ham hF h2 h3 h4, h5, fun q => absurd q (by omega)⟩
    rw [e_Rk_placeIn_15]
    simp (disch := omega) only [e_Rk_placeIn_0, e_Rk_placeIn_1, e_Rk_placeIn_4, e_Rk_placeIn_6, e_Rk_placeIn_9, e_Rk_placeIn_10, e_Rk_placeIn_11, e_Rk_placeIn_14, e_Rk_placeIn_16, e_Rk_placeIn_19, e_Rk_placeIn_20, e_Rk_placeIn_21, e_Rk_placeIn_24, e_Rk_placeIn_25, e_Rk_placeIn_26, e_Rk_placeIn_27, e_Rk_placeIn_28, e_Rk_placeIn_29, e_Rk_placeIn_30, e_Rk_placeIn_33, e_Rk_placeIn_34, e_Rk_placeIn_35, e_Rk_placeIn_36, e_Rk_placeIn_37, e_Rk_placeIn_40, e_Rk_placeIn_43, e_Rk_placeIn_44, e_Rk_placeIn_47, e_Rk_placeIn_48, e_Rk_placeIn_49, e_Rk_placeIn_52, e_Rk_placeIn_53, e_Rk_placeIn_54, e_Rk_placeIn_55, e_Rk_placeIn_56, e_Rk_placeIn_57, e_Rk_placeIn_58, e_Rk_placeIn_61, e_Rk_placeIn_62, e_Rk_placeIn_63, e_Rk_placeIn_66, e_Rk_placeIn_67, e_Rk_placeIn_68, e_Rk_placeIn_69, e_Rk_placeIn_70, e_Rk_placeIn_71, e_Rk_placeIn_74, e_Rk_placeIn_77, e_Rk_placeIn_78, e_Rk_placeIn_81, e_Rk_placeIn_82, e_Rk_placeIn_83, e_Rk_placeIn_84, e_Rk_placeIn_85, e_Rk_placeIn_88, e_Rk_placeIn_89, e_Rk_placeIn_90, e_Rk_placeIn_91, e_Rk_placeIn_92, e_Rk_placeIn_93, e_Rk_placeIn_96, e_Rk_placeIn_97, e_Rk_placeIn_98, e_Rk_placeIn_101, if_pos hle, gI_self, gI_nt, gI_nj, gL_uI, gR_uI, gI_uL, gR_uL, gI_uR, gL_uR, h2, wr_id]
  | succ n ih =>
    intro a τ ha ham hF h2 h3 h4 h5
    have hle : ¬ a ≤ 0 := by omega
    have hr := h3 (a - 1) (by omega) (by omega)
    have hah := c_Ord_isAheadOf o (lf (a - 1)) (pf o) (pf (lf (a - 1))) τ
    have hiff : ahd τ o (lf (a - 1)) (pf o) (pf (lf (a - 1))) ↔ ahd σ o (lf (a - 1)) (pf o) (pf (lf (a - 1))) := by
      unfold ahd
      rw [hF.2 8 o 3 (by decide) (by decide), hF.2 8 o 1 (by decide) (by decide), hF.2 8 (lf (a - 1)) 1 (by decide) (by decide), hF.2 8 o 10 (by decide) (by decide), hF.2 8 (lf (a - 1)) 10 (by decide) (by decide)]
    rw [e_Rk_placeIn_15]
    by_cases hc : ahd σ o (lf (a - 1)) (pf o) (pf (lf (a - 1)))
    · have hct := hiff.mpr hc
      obtain ⟨τ', b, k1, k2⟩ := ih (a - 1) (uI (uR τ a (some (8, lf (a - 1)))) 18 0 a (pf (lf (a - 1)))) (by omega) (by omega) ((hF.r _ _).u _ _ _ (by omega)) (by simp (disch := omega) only [gI_self, gI_nt, gI_nj, gL_uI, gR_uI, gI_uL, gR_uL, gI_uR, gL_uR]; exact h2) (fun r q0 q1 => by
          have := h3 r q0 (by omega)
          simp (disch := omega) only [gI_self, gI_nt, gI_nj, gL_uI, gR_uI, gI_uL, gR_uL, gI_uR, gL_uR, gR_uR]
          rw [if_neg (by omega)]
          exact this) (fun r q0 q1 => by
          simp (disch := omega) only [gI_self, gI_nt, gI_nj, gL_uI, gR_uI, gI_uL, gR_uL, gI_uR, gL_uR, gR_uR]
          rw [gI_uI]
          by_cases c : r = a - 1
          · subst c
            rw [if_pos (by omega), if_pos ⟨rfl, rfl, by omega⟩]
            exact ⟨rfl, rfl⟩
          · have := h4 r (by omega) q1
            rw [if_neg (by omega), if_neg (by omega)]
            simp (disch := omega) only [gI_self, gI_nt, gI_nj, gL_uI, gR_uI, gI_uL, gR_uL, gI_uR, gL_uR]
            exact this) (fun r q0 q1 => by
          by_cases c : r = a - 1
          · subst c; exact hc
          · exact h5 r (by omega) q1)
      refine ⟨τ', b, ?_, k2⟩
      simp (disch := omega) only [e_Rk_placeIn_0, e_Rk_placeIn_1, e_Rk_placeIn_4, e_Rk_placeIn_6, e_Rk_placeIn_9, e_Rk_placeIn_10, e_Rk_placeIn_11, e_Rk_placeIn_14, e_Rk_placeIn_16, e_Rk_placeIn_19, e_Rk_placeIn_20, e_Rk_placeIn_21, e_Rk_placeIn_24, e_Rk_placeIn_25, e_Rk_placeIn_26, e_Rk_placeIn_27, e_Rk_placeIn_28, e_Rk_placeIn_29, e_Rk_placeIn_30, e_Rk_placeIn_33, e_Rk_placeIn_34, e_Rk_placeIn_35, e_Rk_placeIn_36, e_Rk_placeIn_37, e_Rk_placeIn_40, e_Rk_placeIn_43, e_Rk_placeIn_44, e_Rk_placeIn_47, e_Rk_placeIn_48, e_Rk_placeIn_49, e_Rk_placeIn_52, e_Rk_placeIn_53, e_Rk_placeIn_54, e_Rk_placeIn_55, e_Rk_placeIn_56, e_Rk_placeIn_57, e_Rk_placeIn_58, e_Rk_placeIn_61, e_Rk_placeIn_62, e_Rk_placeIn_63, e_Rk_placeIn_66, e_Rk_placeIn_67, e_Rk_placeIn_68, e_Rk_placeIn_69, e_Rk_placeIn_70, e_Rk_placeIn_71, e_Rk_placeIn_74, e_Rk_placeIn_77, e_Rk_placeIn_78, e_Rk_placeIn_81, e_Rk_placeIn_82, e_Rk_placeIn_83, e_Rk_placeIn_84, e_Rk_placeIn_85, e_Rk_placeIn_88, e_Rk_placeIn_89, e_Rk_placeIn_90, e_Rk_placeIn_91, e_Rk_placeIn_92, e_Rk_placeIn_93, e_Rk_placeIn_96, e_Rk_placeIn_97, e_Rk_placeIn_98, e_Rk_placeIn_101, if_neg hle, wr_id, hr.1, hr.2, hah, evK_i, if_pos hct, one_ne, if_false, gI_self, gI_nt, gI_nj, gL_uI, gR_uI, gI_uL, gR_uL, gI_uR, gL_uR, show a + -1 = a - 1 by omega, k1]
    · have hct : ¬ ahd τ o (lf (a - 1)) (pf o) (pf (lf (a - 1))) := fun q => hc (hiff.mp q)
      refine ⟨_, a, ?_, ((hF.r a (some (8, o))).u 0 a (pf o) (by omega)).u 0 2 (m + 1) (by omega), by omega, fin a τ (by omega) ham hF h2 h3 h4, h5, fun _ => hc⟩
      simp (disch := omega) only [e_Rk_placeIn_0, e_Rk_placeIn_1, e_Rk_placeIn_4, e_Rk_placeIn_6, e_Rk_placeIn_9, e_Rk_placeIn_10, e_Rk_placeIn_11, e_Rk_placeIn_14, e_Rk_placeIn_16, e_Rk_placeIn_19, e_Rk_placeIn_20, e_Rk_placeIn_21, e_Rk_placeIn_24, e_Rk_placeIn_25, e_Rk_placeIn_26, e_Rk_placeIn_27, e_Rk_placeIn_28, e_Rk_placeIn_29, e_Rk_placeIn_30, e_Rk_placeIn_33, e_Rk_placeIn_34, e_Rk_placeIn_35, e_Rk_placeIn_36, e_Rk_placeIn_37, e_Rk_placeIn_40, e_Rk_placeIn_43, e_Rk_placeIn_44, e_Rk_placeIn_47, e_Rk_placeIn_48, e_Rk_placeIn_49, e_Rk_placeIn_52, e_Rk_placeIn_53, e_Rk_placeIn_54, e_Rk_placeIn_55, e_Rk_placeIn_56, e_Rk_placeIn_57, e_Rk_placeIn_58, e_Rk_placeIn_61, e_Rk_placeIn_62, e_Rk_placeIn_63, e_Rk_placeIn_66, e_Rk_placeIn_67, e_Rk_placeIn_68, e_Rk_placeIn_69, e_Rk_placeIn_70, e_Rk_placeIn_71, e_Rk_placeIn_74, e_Rk_placeIn_77, e_Rk_placeIn_78, e_Rk_placeIn_81, e_Rk_placeIn_82, e_Rk_placeIn_83, e_Rk_placeIn_84, e_Rk_placeIn_85, e_Rk_placeIn_88, e_Rk_placeIn_89, e_Rk_placeIn_90, e_Rk_placeIn_91, e_Rk_placeIn_92, e_Rk_placeIn_93, e_Rk_placeIn_96, e_Rk_placeIn_97, e_Rk_placeIn_98, e_Rk_placeIn_101, if_neg hle, wr_id, hr.1, hr.2, hah, evK_i, if_neg hct, if_true, gI_self, gI_nt, gI_nj, gL_uI, gR_uI, gI_uL, gR_uL, gI_uR, gL_uR, h2]
theorem c_Rk_placeIn (σ τ : aM) (m o p : Int) (lf pf : Int → Int) (hm : 0 ≤ m ∧ m < 60) (hF : FrK σ τ) (hR : RkF τ m lf pf) (hp : p = pf o) : ∃ τ' b, ev 47 0 [aR 16 0, aR 8 o, aI p, aU] [] τ = some (none, τ') ∧ FrK σ τ' ∧ (0 ≤ b ∧ b ≤ m) ∧ RkF τ' (m + 1) (insF lf b o) pf ∧ (∀ r, b ≤ r → r < m → ahd σ o (lf r) (pf o) (pf (lf r))) ∧ (0 < b → ¬ ahd σ o (lf (b - 1)) (pf o) (pf (lf (b - 1)))) := by
  subst hp
  obtain ⟨τ', b, k1, k2⟩ := l_Rk_placeIn σ m o lf pf hm m.toNat m τ (by omega) (by omega) hF hR.1 hR.2 (fun r q0 q1 => by omega) (fun r q0 q1 => by omega)
  refine ⟨τ', b, ?_, k2⟩
  have h60 : ¬ 60 ≤ m := by omega
  have h61 : m < 60 := by omega
  simp (disch := omega) only [e_Rk_placeIn_0, e_Rk_placeIn_1, e_Rk_placeIn_4, e_Rk_placeIn_6, e_Rk_placeIn_9, e_Rk_placeIn_10, e_Rk_placeIn_11, e_Rk_placeIn_14, e_Rk_placeIn_16, e_Rk_placeIn_19, e_Rk_placeIn_20, e_Rk_placeIn_21, e_Rk_placeIn_24, e_Rk_placeIn_25, e_Rk_placeIn_26, e_Rk_placeIn_27, e_Rk_placeIn_28, e_Rk_placeIn_29, e_Rk_placeIn_30, e_Rk_placeIn_33, e_Rk_placeIn_34, e_Rk_placeIn_35, e_Rk_placeIn_36, e_Rk_placeIn_37, e_Rk_placeIn_40, e_Rk_placeIn_43, e_Rk_placeIn_44, e_Rk_placeIn_47, e_Rk_placeIn_48, e_Rk_placeIn_49, e_Rk_placeIn_52, e_Rk_placeIn_53, e_Rk_placeIn_54, e_Rk_placeIn_55, e_Rk_placeIn_56, e_Rk_placeIn_57, e_Rk_placeIn_58, e_Rk_placeIn_61, e_Rk_placeIn_62, e_Rk_placeIn_63, e_Rk_placeIn_66, e_Rk_placeIn_67, e_Rk_placeIn_68, e_Rk_placeIn_69, e_Rk_placeIn_70, e_Rk_placeIn_71, e_Rk_placeIn_74, e_Rk_placeIn_77, e_Rk_placeIn_78, e_Rk_placeIn_81, e_Rk_placeIn_82, e_Rk_placeIn_83, e_Rk_placeIn_84, e_Rk_placeIn_85, e_Rk_placeIn_88, e_Rk_placeIn_89, e_Rk_placeIn_90, e_Rk_placeIn_91, e_Rk_placeIn_92, e_Rk_placeIn_93, e_Rk_placeIn_96, e_Rk_placeIn_97, e_Rk_placeIn_98, e_Rk_placeIn_101, hR.1, if_neg h60, if_pos h61, k1]
/-- one that is in the ranking, with its price -/
def pfB (σ : aM) (w i : Int) : Int := prB σ i (bsP σ w)
abbrev elK (σ : aM) (w i : Int) : Prop := (gI σ 8 i 5 = 1 ∧ gI σ 8 i 3 = w) ∧ ¬ pfB σ w i = 0
abbrev AH (σ : aM) (w i j : Int) : Prop := ahd σ i j (pfB σ w i) (pfB σ w j)
/-- times are apart -/
def DT (σ : aM) : Prop := ∀ i j, 0 ≤ i → i < gI σ 6 0 2 → 0 ≤ j → j < gI σ 6 0 2 → gI σ 8 i 5 = 1 → gI σ 8 j 5 = 1 → ¬ i = j → ¬ gI σ 8 i 10 = gI σ 8 j 10
theorem AH_tot {σ : aM} {w i j : Int} (hD : DT σ) (hi : 0 ≤ i ∧ i < gI σ 6 0 2) (hj : 0 ≤ j ∧ j < gI σ 6 0 2) (ei : elK σ w i) (ej : elK σ w j) (hn : ¬ AH σ w i j) (hne : ¬ i = j) : AH σ w j i := by
  have ht := hD i j hi.1 hi.2 hj.1 hj.2 ei.1.1 ej.1.1 hne
  have e1 := ei.1.2
  have e2 := ej.1.2
  unfold AH ahd at hn ⊢
  rw [e1] at hn
  rw [e2]
  grind
theorem AH_trans {σ : aM} {w i j k : Int} (ei : gI σ 8 i 3 = w) (ej : gI σ 8 j 3 = w) (h1 : AH σ w i j) (h2 : AH σ w j k) : AH σ w i k := by
  unfold AH ahd at h1 h2 ⊢
  rw [ei] at h1 ⊢
  rw [ej] at h2
  grind
theorem AH_irr {σ : aM} {w i : Int} : ¬ AH σ w i i := by
  unfold AH ahd
  grind
/-- the line of a side: those of the first k, sorted -/
def Ln (σ : aM) (w k m : Int) (lf : Int → Int) : Prop := (0 ≤ m ∧ m ≤ k) ∧ (∀ r, 0 ≤ r → r < m → (0 ≤ lf r ∧ lf r < k) ∧ elK σ w (lf r)) ∧ (∀ i, 0 ≤ i → i < k → elK σ w i → ∃ r, (0 ≤ r ∧ r < m) ∧ lf r = i) ∧ ∀ r q, 0 ≤ r → r < q → q < m → AH σ w (lf r) (lf q)
theorem Ln_ins {σ : aM} {w k m b : Int} {lf : Int → Int} (hD : DT σ) (hk : k < gI σ 6 0 2) (h : Ln σ w k m lf) (hb : 0 ≤ b ∧ b ≤ m) (ek : elK σ w k) (h1 : ∀ r, b ≤ r → r < m → AH σ w k (lf r)) (h2 : 0 < b → ¬ AH σ w k (lf (b - 1))) : Ln σ w (k + 1) (m + 1) (insF lf b k) := by
  obtain ⟨a1, a2, a3, a4⟩ := h
  have hbk : 0 < b → AH σ w (lf (b - 1)) k := fun q => by
    obtain ⟨c1, c2⟩ := a2 (b - 1) (by omega) (by omega)
    exact AH_tot hD (by omega) (by omega) ek c2 (h2 q) (by omega)
  have hlow : ∀ r, 0 ≤ r → r < b → AH σ w (lf r) k := fun r q0 q1 => by
    by_cases c : r = b - 1
    · subst c; exact hbk (by omega)
    · exact AH_trans (a2 r q0 (by omega)).2.1.2 (a2 (b - 1) (by omega) (by omega)).2.1.2 (a4 r (b - 1) q0 (by omega) (by omega)) (hbk (by omega))
  refine ⟨by omega, fun r q0 q1 => ?_, fun i q0 q1 ei => ?_, fun r q q0 q1 q2 => ?_⟩
  · unfold insF
    by_cases c1 : r < b
    · rw [if_pos c1]
      have := a2 r q0 (by omega)
      exact ⟨by omega, this.2⟩
    · rw [if_neg c1]
      by_cases c2 : r = b
      · rw [if_pos c2]
        exact ⟨by omega, ek⟩
      · rw [if_neg c2]
        have := a2 (r - 1) (by omega) (by omega)
        exact ⟨by omega, this.2⟩
  · by_cases c : i = k
    · subst c
      refine ⟨b, by omega, ?_⟩
      unfold insF
      rw [if_neg (by omega), if_pos rfl]
    · obtain ⟨r, c1, c2⟩ := a3 i q0 (by omega) ei
      by_cases c3 : r < b
      · refine ⟨r, by omega, ?_⟩
        unfold insF
        rw [if_pos c3]
        exact c2
      · refine ⟨r + 1, by omega, ?_⟩
        unfold insF
        rw [if_neg (by omega), if_neg (by omega), show r + 1 - 1 = r by omega]
        exact c2
  · unfold insF
    by_cases c1 : r < b
    · rw [if_pos c1]
      by_cases c2 : q < b
      · rw [if_pos c2]
        exact a4 r q q0 q1 (by omega)
      · rw [if_neg c2]
        by_cases c3 : q = b
        · rw [if_pos c3]
          exact hlow r q0 c1
        · rw [if_neg c3]
          by_cases c4 : r < q - 1
          · exact a4 r (q - 1) q0 c4 (by omega)
          · omega
    · rw [if_neg c1, if_neg (by omega : ¬ q < b), if_neg (by omega : ¬ q = b)]
      by_cases c2 : r = b
      · rw [if_pos c2]
        exact h1 (q - 1) (by omega) (by omega)
      · rw [if_neg c2]
        exact a4 (r - 1) (q - 1) (by omega) (by omega) (by omega)
theorem l_Rk_lineUp (σ : aM) (w B : Int) (h : CO σ B) (hr : RG σ) (hD : DT σ) : ∀ (n : Nat) (i m : Int) (lf : Int → Int) (τ : aM) (a5 a6 : AV), 0 ≤ i → i + n = gI σ 6 0 2 → FrK σ τ → Ln σ w i m lf → RkF τ m lf (pfB σ w) → ∃ τ' m' lf', ev 46 14 [aR 16 0, aR 6 0, aI w, aI (bsP σ w), aI i, a5, a6] [] τ = some (none, τ') ∧ FrK σ τ' ∧ Ln σ w (gI σ 6 0 2) m' lf' ∧ RkF τ' m' lf' (pfB σ w) := by
  have hc := h.1
  have hb := bsP_rg (w := w) h hr
  intro n
  induction n with
  | zero =>
    intro i m lf τ a5 a6 h0 h1 hF hL hR
    have hle : gI σ 6 0 2 ≤ i := by omega
    have hi : i = gI σ 6 0 2 := by omega
    refine ⟨τ, m, lf, ?_, hF, hi ▸ hL, hR⟩
    rw [e_Rk_lineUp_14]
    simp (disch := omega) only [e_Rk_lineUp_0, e_Rk_lineUp_1, e_Rk_lineUp_2, e_Rk_lineUp_5, e_Rk_lineUp_6, e_Rk_lineUp_7, e_Rk_lineUp_10, e_Rk_lineUp_11, e_Rk_lineUp_12, e_Rk_lineUp_16, e_Rk_lineUp_17, e_Rk_lineUp_20, e_Rk_lineUp_23, e_Rk_lineUp_24, e_Rk_lineUp_27, e_Rk_lineUp_29, e_Rk_lineUp_30, e_Rk_lineUp_32, e_Rk_lineUp_34, e_Rk_lineUp_35, e_Rk_lineUp_38, e_Rk_lineUp_40, e_Rk_lineUp_42, e_Rk_lineUp_43, e_Rk_lineUp_46, e_Rk_lineUp_49, e_Rk_lineUp_51, e_Rk_lineUp_54, e_Rk_lineUp_55, e_Rk_lineUp_57, e_Rk_lineUp_59, e_Rk_lineUp_62, e_Rk_lineUp_65, e_Rk_lineUp_68, hF.2, if_pos hle]
  | succ n ih =>
    intro i m lf τ a5 a6 h0 h1 hF hL hR
    have hle : ¬ gI σ 6 0 2 ≤ i := by omega
    have hri := hr i h0 (by omega)
    have hpr := c_Ord_priceBy i (bsP σ w) τ hb (by rw [hF.2 8 i 8 (by decide) (by decide)]; exact hri.2.2)
    have hpe : prB τ i (bsP σ w) = pfB σ w i := by
      unfold pfB prB
      rw [hF.2 8 i 1 (by decide) (by decide), hF.2 8 i 7 (by decide) (by decide), hF.2 8 i 5 (by decide) (by decide), hF.2 8 i 3 (by decide) (by decide), hF.2 8 i 8 (by decide) (by decide)]
    have hrs := c_Ord_restsOn i w τ
    rw [hF.2 8 i 5 (by decide) (by decide), hF.2 8 i 3 (by decide) (by decide)] at hrs
    rw [hpe] at hpr
    rw [e_Rk_lineUp_14]
    by_cases he : elK σ w i
    · obtain ⟨τ1, b, k1, k2, k3, k4, k5, k6⟩ := c_Rk_placeIn σ τ m i (pfB σ w i) lf (pfB σ w) (by have := hL.1; omega) hF hR rfl
      obtain ⟨τ2, m2, lf2, g1, g2⟩ := ih (i + 1) (m + 1) (insF lf b i) τ1 (aR 8 i) (aI (pfB σ w i)) (by omega) (by omega) k2 (Ln_ins hD (by omega) hL k3 he k5 k6) k4
      refine ⟨τ2, m2, lf2, ?_, g2⟩
      simp (disch := omega) only [e_Rk_lineUp_0, e_Rk_lineUp_1, e_Rk_lineUp_2, e_Rk_lineUp_5, e_Rk_lineUp_6, e_Rk_lineUp_7, e_Rk_lineUp_10, e_Rk_lineUp_11, e_Rk_lineUp_12, e_Rk_lineUp_16, e_Rk_lineUp_17, e_Rk_lineUp_20, e_Rk_lineUp_23, e_Rk_lineUp_24, e_Rk_lineUp_27, e_Rk_lineUp_29, e_Rk_lineUp_30, e_Rk_lineUp_32, e_Rk_lineUp_34, e_Rk_lineUp_35, e_Rk_lineUp_38, e_Rk_lineUp_40, e_Rk_lineUp_42, e_Rk_lineUp_43, e_Rk_lineUp_46, e_Rk_lineUp_49, e_Rk_lineUp_51, e_Rk_lineUp_54, e_Rk_lineUp_55, e_Rk_lineUp_57, e_Rk_lineUp_59, e_Rk_lineUp_62, e_Rk_lineUp_65, e_Rk_lineUp_68, hF.2, if_neg hle, Int.mul_zero, Int.zero_add, hpr, hrs, evK_i, evK_v, if_pos he.1, one_ne, he.2, if_false, wr_id, k1, g1]
    · have hL' : Ln σ w (i + 1) m lf := by
        obtain ⟨a1, a2, a3, a4⟩ := hL
        refine ⟨by omega, fun r q0 q1 => ⟨by have := (a2 r q0 q1).1; omega, (a2 r q0 q1).2⟩, fun j q0 q1 ej => ?_, a4⟩
        by_cases c : j = i
        · subst c; exact absurd ej he
        · exact a3 j q0 (by omega) ej
      obtain ⟨τ2, m2, lf2, g1, g2⟩ := ih (i + 1) m lf τ (aR 8 i) (aI (pfB σ w i)) (by omega) (by omega) hF hL' hR
      refine ⟨τ2, m2, lf2, ?_, g2⟩
      simp (disch := omega) only [e_Rk_lineUp_0, e_Rk_lineUp_1, e_Rk_lineUp_2, e_Rk_lineUp_5, e_Rk_lineUp_6, e_Rk_lineUp_7, e_Rk_lineUp_10, e_Rk_lineUp_11, e_Rk_lineUp_12, e_Rk_lineUp_16, e_Rk_lineUp_17, e_Rk_lineUp_20, e_Rk_lineUp_23, e_Rk_lineUp_24, e_Rk_lineUp_27, e_Rk_lineUp_29, e_Rk_lineUp_30, e_Rk_lineUp_32, e_Rk_lineUp_34, e_Rk_lineUp_35, e_Rk_lineUp_38, e_Rk_lineUp_40, e_Rk_lineUp_42, e_Rk_lineUp_43, e_Rk_lineUp_46, e_Rk_lineUp_49, e_Rk_lineUp_51, e_Rk_lineUp_54, e_Rk_lineUp_55, e_Rk_lineUp_57, e_Rk_lineUp_59, e_Rk_lineUp_62, e_Rk_lineUp_65, e_Rk_lineUp_68, hF.2, if_neg hle, Int.mul_zero, Int.zero_add, hpr, hrs, evK_i, b01, wr_id, g1]
      by_cases c1 : gI σ 8 i 5 = 1 ∧ gI σ 8 i 3 = w
      · have c2 : pfB σ w i = 0 := Classical.not_not.mp (fun q => he ⟨c1, q⟩)
        rw [if_neg (fun q => q c1), if_pos c2]
      · rw [if_pos c1]
theorem fstF_cg {σ τ : aM} (h : ∀ i j, gI τ 8 i j = gI σ 8 i j) (w : Int) : ∀ (n : Nat) (i : Int) (f : Option Int), fstF τ w n i f = fstF σ w n i f := by
  intro n
  induction n with
  | zero => intro i f; rfl
  | succ n ih =>
    intro i f
    cases f with
    | none =>
      rw [fstF, fstF, ih]
      simp only [elF, h]
    | some j =>
      rw [fstF, fstF, ih]
      simp only [elF, ahd, h]
theorem frs_cg {σ τ : aM} (h : ∀ i j, gI τ 8 i j = gI σ 8 i j) (hc : gI τ 6 0 2 = gI σ 6 0 2) (w : Int) : frs τ w = frs σ w := by
  unfold frs
  rw [hc, fstF_cg h]
theorem bsP_cg {σ τ : aM} (h : ∀ i j, gI τ 8 i j = gI σ 8 i j) (hc : gI τ 6 0 2 = gI σ 6 0 2) (w : Int) : bsP τ w = bsP σ w := by
  unfold bsP
  rw [frs_cg h hc]
  simp only [h]
theorem c_Rk_lineUp (σ : aM) (w B : Int) (h : CO σ B) (hr : RG σ) (hD : DT σ) : ∃ τ' m' lf', ev 46 0 [aR 16 0, aR 6 0, aI w, aU, aU, aU, aU] [] σ = some (none, τ') ∧ FrK σ τ' ∧ Ln σ w (gI σ 6 0 2) m' lf' ∧ RkF τ' m' lf' (pfB σ w) := by
  have hc := h.1
  have hF : FrK σ (uI σ 16 0 2 0) := (FrK.rfl σ).u _ _ _ (by omega)
  have hb := c_Bk_bestPrice w (uI σ 16 0 2 0) (by simp (disch := omega) only [gI_self, gI_nt, gI_nj, gL_uI, gR_uI, gI_uL, gR_uL, gI_uR, gL_uR]; exact hc.1) (by simp (disch := omega) only [gI_self, gI_nt, gI_nj, gL_uI, gR_uI, gI_uL, gR_uL, gI_uR, gL_uR]; exact hc.2)
  obtain ⟨τ', m', lf', k1, k2⟩ := l_Rk_lineUp σ w B h hr hD (nC σ) 0 0 (fun _ => 0) (uI σ 16 0 2 0) aU aU (by omega) (by unfold nC; omega) hF ⟨by omega, fun r q0 q1 => by omega, fun i q0 q1 _ => by omega, fun r q q0 q1 q2 => by omega⟩ ⟨gI_self _ _ _ _ _, fun r q0 q1 => by omega⟩
  refine ⟨τ', m', lf', ?_, k2⟩
  have hbe : bsP (uI σ 16 0 2 0) w = bsP σ w := bsP_cg (fun i j => by simp (disch := omega) only [gI_self, gI_nt, gI_nj, gL_uI, gR_uI, gI_uL, gR_uL, gI_uR, gL_uR]) (by simp (disch := omega) only [gI_self, gI_nt, gI_nj, gL_uI, gR_uI, gI_uL, gR_uL, gI_uR, gL_uR]) w
  rw [hbe] at hb
  simp (disch := omega) only [e_Rk_lineUp_0, e_Rk_lineUp_1, e_Rk_lineUp_2, e_Rk_lineUp_5, e_Rk_lineUp_6, e_Rk_lineUp_7, e_Rk_lineUp_10, e_Rk_lineUp_11, e_Rk_lineUp_12, e_Rk_lineUp_16, e_Rk_lineUp_17, e_Rk_lineUp_20, e_Rk_lineUp_23, e_Rk_lineUp_24, e_Rk_lineUp_27, e_Rk_lineUp_29, e_Rk_lineUp_30, e_Rk_lineUp_32, e_Rk_lineUp_34, e_Rk_lineUp_35, e_Rk_lineUp_38, e_Rk_lineUp_40, e_Rk_lineUp_42, e_Rk_lineUp_43, e_Rk_lineUp_46, e_Rk_lineUp_49, e_Rk_lineUp_51, e_Rk_lineUp_54, e_Rk_lineUp_55, e_Rk_lineUp_57, e_Rk_lineUp_59, e_Rk_lineUp_62, e_Rk_lineUp_65, e_Rk_lineUp_68, hb, evK_i, k1]
/-! what is read off the line -/
theorem c_Rk_orderAt (τ : aM) (m i : Int) (lf pf : Int → Int) (hm : 0 ≤ m ∧ m ≤ 60) (hR : RkF τ m lf pf) : ev 48 0 [aR 16 0, aI i] [] τ = some (some (aQ (if 0 ≤ i ∧ i < m then some (8, lf i) else none)), τ) := by
  by_cases h : 0 ≤ i ∧ i < m
  · have h1 : ¬ i < 0 := by omega
    have h2 : ¬ m ≤ i := by omega
    simp (disch := omega) only [e_Rk_orderAt_0, e_Rk_orderAt_1, e_Rk_orderAt_4, e_Rk_orderAt_5, e_Rk_orderAt_6, e_Rk_orderAt_9, e_Rk_orderAt_12, e_Rk_orderAt_13, e_Rk_orderAt_16, e_Rk_orderAt_17, e_Rk_orderAt_18, e_Rk_orderAt_21, e_Rk_orderAt_22, hR.1, if_neg h1, if_neg h2, if_pos h, (hR.2 i h.1 h.2).1]
  · simp (disch := omega) only [e_Rk_orderAt_0, e_Rk_orderAt_1, e_Rk_orderAt_4, e_Rk_orderAt_5, e_Rk_orderAt_6, e_Rk_orderAt_9, e_Rk_orderAt_12, e_Rk_orderAt_13, e_Rk_orderAt_17, e_Rk_orderAt_18, e_Rk_orderAt_21, e_Rk_orderAt_22, hR.1, if_neg h]
    grind
/-- the k-th of the prices, from a place on; 0 if there is none -/
def plF (f : Int → Int) (k : Int) : Nat → Int → Int → Int → Int
  | 0, _, _, _ => 0
  | n + 1, r, lv, p => if (if ¬ f r = p then lv + 1 else lv) = k then (if ¬ f r = p then f r else p) else plF f k n (r + 1) (if ¬ f r = p then lv + 1 else lv) (if ¬ f r = p then f r else p)
theorem l_Rk_priceOfLevel (τ : aM) (m k : Int) (lf pf : Int → Int) (hm : 0 ≤ m ∧ m ≤ 60) (hR : RkF τ m lf pf) : ∀ (n : Nat) (r lv p : Int), 0 ≤ r → r + n = m → (-1 ≤ lv ∧ lv ≤ r) → ev 49 7 [aR 16 0, aI k, aI lv, aI p, aI r] [] τ = some (some (aI (plF (fun r => pf (lf r)) k n r lv p)), τ) := by
  intro n
  induction n with
  | zero =>
    intro r lv p h0 h1 h2
    have hle : m ≤ r := by omega
    rw [e_Rk_priceOfLevel_7]
    simp (disch := omega) only [e_Rk_priceOfLevel_0, e_Rk_priceOfLevel_1, e_Rk_priceOfLevel_2, e_Rk_priceOfLevel_3, e_Rk_priceOfLevel_4, e_Rk_priceOfLevel_5, e_Rk_priceOfLevel_9, e_Rk_priceOfLevel_10, e_Rk_priceOfLevel_13, e_Rk_priceOfLevel_16, e_Rk_priceOfLevel_17, e_Rk_priceOfLevel_20, e_Rk_priceOfLevel_22, e_Rk_priceOfLevel_23, e_Rk_priceOfLevel_24, e_Rk_priceOfLevel_27, e_Rk_priceOfLevel_28, e_Rk_priceOfLevel_31, e_Rk_priceOfLevel_33, e_Rk_priceOfLevel_34, e_Rk_priceOfLevel_35, e_Rk_priceOfLevel_38, e_Rk_priceOfLevel_39, e_Rk_priceOfLevel_40, e_Rk_priceOfLevel_43, e_Rk_priceOfLevel_44, e_Rk_priceOfLevel_45, e_Rk_priceOfLevel_48, e_Rk_priceOfLevel_51, e_Rk_priceOfLevel_52, hR.1, if_pos hle]
    rfl
  | succ n ih =>
    intro r lv p h0 h1 h2
    have hle : ¬ m ≤ r := by omega
    rw [e_Rk_priceOfLevel_7, plF]
    by_cases c1 : pf (lf r) = p
    · simp (disch := omega) only [e_Rk_priceOfLevel_0, e_Rk_priceOfLevel_1, e_Rk_priceOfLevel_2, e_Rk_priceOfLevel_3, e_Rk_priceOfLevel_4, e_Rk_priceOfLevel_5, e_Rk_priceOfLevel_9, e_Rk_priceOfLevel_10, e_Rk_priceOfLevel_13, e_Rk_priceOfLevel_16, e_Rk_priceOfLevel_17, e_Rk_priceOfLevel_20, e_Rk_priceOfLevel_22, e_Rk_priceOfLevel_23, e_Rk_priceOfLevel_24, e_Rk_priceOfLevel_27, e_Rk_priceOfLevel_28, e_Rk_priceOfLevel_31, e_Rk_priceOfLevel_33, e_Rk_priceOfLevel_34, e_Rk_priceOfLevel_35, e_Rk_priceOfLevel_38, e_Rk_priceOfLevel_39, e_Rk_priceOfLevel_40, e_Rk_priceOfLevel_43, e_Rk_priceOfLevel_44, e_Rk_priceOfLevel_45, e_Rk_priceOfLevel_48, e_Rk_priceOfLevel_51, e_Rk_priceOfLevel_52, hR.1, if_neg hle, (hR.2 r h0 (by omega)).2, c1, not_true_eq_false, if_false, if_true, wr_id, ih]
      grind
    · simp (disch := omega) only [e_Rk_priceOfLevel_0, e_Rk_priceOfLevel_1, e_Rk_priceOfLevel_2, e_Rk_priceOfLevel_3, e_Rk_priceOfLevel_4, e_Rk_priceOfLevel_5, e_Rk_priceOfLevel_9, e_Rk_priceOfLevel_10, e_Rk_priceOfLevel_13, e_Rk_priceOfLevel_16, e_Rk_priceOfLevel_17, e_Rk_priceOfLevel_20, e_Rk_priceOfLevel_22, e_Rk_priceOfLevel_23, e_Rk_priceOfLevel_24, e_Rk_priceOfLevel_27, e_Rk_priceOfLevel_28, e_Rk_priceOfLevel_31, e_Rk_priceOfLevel_33, e_Rk_priceOfLevel_34, e_Rk_priceOfLevel_35, e_Rk_priceOfLevel_38, e_Rk_priceOfLevel_39, e_Rk_priceOfLevel_40, e_Rk_priceOfLevel_43, e_Rk_priceOfLevel_44, e_Rk_priceOfLevel_45, e_Rk_priceOfLevel_48, e_Rk_priceOfLevel_51, e_Rk_priceOfLevel_52, hR.1, if_neg hle, (hR.2 r h0 (by omega)).2, c1, not_false_eq_true, if_false, if_true, wr_id, ih]
      grind
theorem c_Rk_priceOfLevel (τ : aM) (m k : Int) (lf pf : Int → Int) (hm : 0 ≤ m ∧ m ≤ 60) (hR : RkF τ m lf pf) : ev 49 0 [aR 16 0, aI k, aU, aU, aU] [] τ = some (some (aI (plF (fun r => pf (lf r)) k m.toNat 0 (-1) 0)), τ) := by
  have hl := l_Rk_priceOfLevel τ m k lf pf hm hR m.toNat 0 (-1) 0 (by omega) (by omega) (by omega)
  simp (disch := omega) only [e_Rk_priceOfLevel_0, e_Rk_priceOfLevel_1, e_Rk_priceOfLevel_2, e_Rk_priceOfLevel_3, e_Rk_priceOfLevel_4, e_Rk_priceOfLevel_5, e_Rk_priceOfLevel_9, e_Rk_priceOfLevel_10, e_Rk_priceOfLevel_13, e_Rk_priceOfLevel_16, e_Rk_priceOfLevel_17, e_Rk_priceOfLevel_20, e_Rk_priceOfLevel_22, e_Rk_priceOfLevel_23, e_Rk_priceOfLevel_24, e_Rk_priceOfLevel_27, e_Rk_priceOfLevel_28, e_Rk_priceOfLevel_31, e_Rk_priceOfLevel_33, e_Rk_priceOfLevel_34, e_Rk_priceOfLevel_35, e_Rk_priceOfLevel_38, e_Rk_priceOfLevel_39, e_Rk_priceOfLevel_40, e_Rk_priceOfLevel_43, e_Rk_priceOfLevel_44, e_Rk_priceOfLevel_45, e_Rk_priceOfLevel_48, e_Rk_priceOfLevel_51, e_Rk_priceOfLevel_52, hl]
/-- what is visible of those of a price -/
theorem l_Rk_visibleAt (τ : aM) (m p : Int) (lf pf : Int → Int) (hm : 0 ≤ m ∧ m ≤ 60) (hR : RkF τ m lf pf) (hv : ∀ r, 0 ≤ r → r < m → 0 ≤ vsN τ (lf r) ∧ vsN τ (lf r) ≤ 999) : ∀ (n : Nat) (r a : Int), 0 ≤ r → r + n = m → (0 ≤ a ∧ a ≤ 999 * r) → ev 50 4 [aR 16 0, aI p, aI a, aI r] [] τ = some (some (aI (a + suF (fun r => if pf (lf r) = p then vsN τ (lf r) else 0) n r)), τ) := by
  intro n
  induction n with
  | zero =>
    intro r a h0 h1 h2
    have hle : m ≤ r := by omega
    rw [e_Rk_visibleAt_4]
    simp (disch := omega) only [e_Rk_visibleAt_0, e_Rk_visibleAt_1, e_Rk_visibleAt_2, e_Rk_visibleAt_3, e_Rk_visibleAt_5, e_Rk_visibleAt_6, e_Rk_visibleAt_9, e_Rk_visibleAt_12, e_Rk_visibleAt_13, e_Rk_visibleAt_16, e_Rk_visibleAt_17, e_Rk_visibleAt_18, e_Rk_visibleAt_19, e_Rk_visibleAt_22, e_Rk_visibleAt_23, e_Rk_visibleAt_24, e_Rk_visibleAt_27, e_Rk_visibleAt_28, e_Rk_visibleAt_29, e_Rk_visibleAt_32, e_Rk_visibleAt_33, e_Rk_visibleAt_34, e_Rk_visibleAt_37, e_Rk_visibleAt_40, e_Rk_visibleAt_41, hR.1, if_pos hle, suF, Int.add_zero]
  | succ n ih =>
    intro r a h0 h1 h2
    have hle : ¬ m ≤ r := by omega
    have hvr := hv r h0 (by omega)
    have hvv := c_Ord_visibleNow (lf r) τ
    rw [show (if gI τ 8 (lf r) 5 = 1 then (if gI τ 8 (lf r) 1 = 2 then gI τ 8 (lf r) 9 else gI τ 8 (lf r) 4) else 0) = vsN τ (lf r) from rfl] at hvv
    rw [e_Rk_visibleAt_4, suF]
    by_cases c1 : pf (lf r) = p
    · simp (disch := omega) only [e_Rk_visibleAt_0, e_Rk_visibleAt_1, e_Rk_visibleAt_2, e_Rk_visibleAt_3, e_Rk_visibleAt_5, e_Rk_visibleAt_6, e_Rk_visibleAt_9, e_Rk_visibleAt_12, e_Rk_visibleAt_13, e_Rk_visibleAt_16, e_Rk_visibleAt_17, e_Rk_visibleAt_18, e_Rk_visibleAt_19, e_Rk_visibleAt_22, e_Rk_visibleAt_23, e_Rk_visibleAt_24, e_Rk_visibleAt_27, e_Rk_visibleAt_28, e_Rk_visibleAt_29, e_Rk_visibleAt_32, e_Rk_visibleAt_33, e_Rk_visibleAt_34, e_Rk_visibleAt_37, e_Rk_visibleAt_40, e_Rk_visibleAt_41, hR.1, if_neg hle, (hR.2 r h0 (by omega)).2, (hR.2 r h0 (by omega)).1, c1, not_true_eq_false, if_false, if_true, hvv, evK_i, wr_id, ih]
      grind
    · simp (disch := omega) only [e_Rk_visibleAt_0, e_Rk_visibleAt_1, e_Rk_visibleAt_2, e_Rk_visibleAt_3, e_Rk_visibleAt_5, e_Rk_visibleAt_6, e_Rk_visibleAt_9, e_Rk_visibleAt_12, e_Rk_visibleAt_13, e_Rk_visibleAt_16, e_Rk_visibleAt_17, e_Rk_visibleAt_18, e_Rk_visibleAt_19, e_Rk_visibleAt_22, e_Rk_visibleAt_23, e_Rk_visibleAt_24, e_Rk_visibleAt_27, e_Rk_visibleAt_28, e_Rk_visibleAt_29, e_Rk_visibleAt_32, e_Rk_visibleAt_33, e_Rk_visibleAt_34, e_Rk_visibleAt_37, e_Rk_visibleAt_40, e_Rk_visibleAt_41, hR.1, if_neg hle, (hR.2 r h0 (by omega)).2, c1, not_false_eq_true, if_false, if_true, wr_id, ih]
      grind
theorem c_Rk_visibleAt (τ : aM) (m p : Int) (lf pf : Int → Int) (hm : 0 ≤ m ∧ m ≤ 60) (hR : RkF τ m lf pf) (hv : ∀ r, 0 ≤ r → r < m → 0 ≤ vsN τ (lf r) ∧ vsN τ (lf r) ≤ 999) : ev 50 0 [aR 16 0, aI p, aU, aU] [] τ = some (some (aI (suF (fun r => if pf (lf r) = p then vsN τ (lf r) else 0) m.toNat 0)), τ) := by
  have hl := l_Rk_visibleAt τ m p lf pf hm hR hv m.toNat 0 0 (by omega) (by omega) (by omega)
  simp (disch := omega) only [e_Rk_visibleAt_0, e_Rk_visibleAt_1, e_Rk_visibleAt_2, e_Rk_visibleAt_3, e_Rk_visibleAt_5, e_Rk_visibleAt_6, e_Rk_visibleAt_9, e_Rk_visibleAt_12, e_Rk_visibleAt_13, e_Rk_visibleAt_16, e_Rk_visibleAt_17, e_Rk_visibleAt_18, e_Rk_visibleAt_19, e_Rk_visibleAt_22, e_Rk_visibleAt_23, e_Rk_visibleAt_24, e_Rk_visibleAt_27, e_Rk_visibleAt_28, e_Rk_visibleAt_29, e_Rk_visibleAt_32, e_Rk_visibleAt_33, e_Rk_visibleAt_34, e_Rk_visibleAt_37, e_Rk_visibleAt_40, e_Rk_visibleAt_41, hl, Int.zero_add]
/-- what is visible ahead of one: none if it isn't in the line -/
def vaF (f v : Int → Int) (o : Int) : Nat → Int → Int → Int
  | 0, _, _ => -1
  | n + 1, r, a => if f r = o then a else vaF f v o n (r + 1) (a + v (f r))
theorem l_Rk_visibleAhead (τ : aM) (m o : Int) (lf pf : Int → Int) (hm : 0 ≤ m ∧ m ≤ 60) (hR : RkF τ m lf pf) (hv : ∀ r, 0 ≤ r → r < m → 0 ≤ vsN τ (lf r) ∧ vsN τ (lf r) ≤ 999) : ∀ (n : Nat) (r a : Int), 0 ≤ r → r + n = m → (0 ≤ a ∧ a ≤ 999 * r) → ev 51 4 [aR 16 0, aR 8 o, aI a, aI r] [] τ = some (some (aI (vaF lf (vsN τ) o n r a)), τ) := by
  intro n
  induction n with
  | zero =>
    intro r a h0 h1 h2
    have hle : m ≤ r := by omega
    rw [e_Rk_visibleAhead_4]
    simp (disch := omega) only [e_Rk_visibleAhead_0, e_Rk_visibleAhead_1, e_Rk_visibleAhead_2, e_Rk_visibleAhead_3, e_Rk_visibleAhead_5, e_Rk_visibleAhead_6, e_Rk_visibleAhead_9, e_Rk_visibleAhead_12, e_Rk_visibleAhead_13, e_Rk_visibleAhead_16, e_Rk_visibleAhead_17, e_Rk_visibleAhead_18, e_Rk_visibleAhead_19, e_Rk_visibleAhead_22, e_Rk_visibleAhead_23, e_Rk_visibleAhead_24, e_Rk_visibleAhead_25, e_Rk_visibleAhead_26, e_Rk_visibleAhead_29, e_Rk_visibleAhead_30, e_Rk_visibleAhead_31, e_Rk_visibleAhead_34, e_Rk_visibleAhead_35, e_Rk_visibleAhead_36, e_Rk_visibleAhead_39, e_Rk_visibleAhead_42, e_Rk_visibleAhead_43, hR.1, if_pos hle]
    rfl
  | succ n ih =>
    intro r a h0 h1 h2
    have hle : ¬ m ≤ r := by omega
    have hvr := hv r h0 (by omega)
    have hvv := c_Ord_visibleNow (lf r) τ
    rw [show (if gI τ 8 (lf r) 5 = 1 then (if gI τ 8 (lf r) 1 = 2 then gI τ 8 (lf r) 9 else gI τ 8 (lf r) 4) else 0) = vsN τ (lf r) from rfl] at hvv
    rw [e_Rk_visibleAhead_4, vaF]
    by_cases c1 : lf r = o
    · simp (disch := omega) only [e_Rk_visibleAhead_0, e_Rk_visibleAhead_1, e_Rk_visibleAhead_2, e_Rk_visibleAhead_3, e_Rk_visibleAhead_5, e_Rk_visibleAhead_6, e_Rk_visibleAhead_9, e_Rk_visibleAhead_12, e_Rk_visibleAhead_13, e_Rk_visibleAhead_16, e_Rk_visibleAhead_17, e_Rk_visibleAhead_18, e_Rk_visibleAhead_19, e_Rk_visibleAhead_22, e_Rk_visibleAhead_23, e_Rk_visibleAhead_24, e_Rk_visibleAhead_25, e_Rk_visibleAhead_26, e_Rk_visibleAhead_29, e_Rk_visibleAhead_30, e_Rk_visibleAhead_31, e_Rk_visibleAhead_34, e_Rk_visibleAhead_35, e_Rk_visibleAhead_36, e_Rk_visibleAhead_39, e_Rk_visibleAhead_42, e_Rk_visibleAhead_43, hR.1, if_neg hle, (hR.2 r h0 (by omega)).1, c1, not_true_eq_false, if_false, if_true]
    · have c2 : ¬ (some ((8 : Nat), lf r) = some (8, o)) := fun q => c1 (by injection q with q; injection q)
      simp (disch := omega) only [e_Rk_visibleAhead_0, e_Rk_visibleAhead_1, e_Rk_visibleAhead_2, e_Rk_visibleAhead_3, e_Rk_visibleAhead_5, e_Rk_visibleAhead_6, e_Rk_visibleAhead_9, e_Rk_visibleAhead_12, e_Rk_visibleAhead_13, e_Rk_visibleAhead_16, e_Rk_visibleAhead_17, e_Rk_visibleAhead_18, e_Rk_visibleAhead_19, e_Rk_visibleAhead_22, e_Rk_visibleAhead_23, e_Rk_visibleAhead_24, e_Rk_visibleAhead_25, e_Rk_visibleAhead_26, e_Rk_visibleAhead_29, e_Rk_visibleAhead_30, e_Rk_visibleAhead_31, e_Rk_visibleAhead_34, e_Rk_visibleAhead_35, e_Rk_visibleAhead_36, e_Rk_visibleAhead_39, e_Rk_visibleAhead_42, e_Rk_visibleAhead_43, hR.1, if_neg hle, (hR.2 r h0 (by omega)).1, if_pos c2, if_neg c1, hvv, evK_i, wr_id, ih]
theorem c_Rk_visibleAhead (τ : aM) (m o : Int) (lf pf : Int → Int) (hm : 0 ≤ m ∧ m ≤ 60) (hR : RkF τ m lf pf) (hv : ∀ r, 0 ≤ r → r < m → 0 ≤ vsN τ (lf r) ∧ vsN τ (lf r) ≤ 999) : ev 51 0 [aR 16 0, aR 8 o, aU, aU] [] τ = some (some (aI (vaF lf (vsN τ) o m.toNat 0 0)), τ) := by
  have hl := l_Rk_visibleAhead τ m o lf pf hm hR hv m.toNat 0 0 (by omega) (by omega) (by omega)
  simp (disch := omega) only [e_Rk_visibleAhead_0, e_Rk_visibleAhead_1, e_Rk_visibleAhead_2, e_Rk_visibleAhead_3, e_Rk_visibleAhead_5, e_Rk_visibleAhead_6, e_Rk_visibleAhead_9, e_Rk_visibleAhead_12, e_Rk_visibleAhead_13, e_Rk_visibleAhead_16, e_Rk_visibleAhead_17, e_Rk_visibleAhead_18, e_Rk_visibleAhead_19, e_Rk_visibleAhead_22, e_Rk_visibleAhead_23, e_Rk_visibleAhead_24, e_Rk_visibleAhead_25, e_Rk_visibleAhead_26, e_Rk_visibleAhead_29, e_Rk_visibleAhead_30, e_Rk_visibleAhead_31, e_Rk_visibleAhead_34, e_Rk_visibleAhead_35, e_Rk_visibleAhead_36, e_Rk_visibleAhead_39, e_Rk_visibleAhead_42, e_Rk_visibleAhead_43, hl]
/-- the cost of a sweep: none if there isn't that much -/
def coF (f le pr : Int → Int) : Nat → Int → Int → Int → Int
  | 0, _, u, a => if 0 < u then -1 else a
  | n + 1, r, u, a => if u ≤ 0 then a else coF f le pr n (r + 1) (u - mnI u (le (f r))) (a + mnI u (le (f r)) * pr (f r))
theorem l_Rk_costOf (τ : aM) (m q : Int) (lf pf : Int → Int) (hm : 0 ≤ m ∧ m ≤ 60) (hR : RkF τ m lf pf) (hv : ∀ r, 0 ≤ r → r < m → (0 ≤ gI τ 8 (lf r) 4 ∧ gI τ 8 (lf r) 4 ≤ 999) ∧ (0 ≤ pf (lf r) ∧ pf (lf r) ≤ 999)) : ∀ (n : Nat) (r u a : Int) (a5 : AV), 0 ≤ r → r + n = m → (0 ≤ u ∧ u < 1000000) → (0 ≤ a ∧ a ≤ 998001 * r) → ev 52 7 [aR 16 0, aI q, aI u, aI a, aI r, a5] [] τ = some (some (aI (coF lf (fun i => gI τ 8 i 4) pf n r u a)), τ) := by
  intro n
  induction n with
  | zero =>
    intro r u a a5 h0 h1 h2 h3
    have hle : m ≤ r := by omega
    rw [e_Rk_costOf_7]
    simp (disch := omega) only [e_Rk_costOf_0, e_Rk_costOf_1, e_Rk_costOf_2, e_Rk_costOf_3, e_Rk_costOf_4, e_Rk_costOf_5, e_Rk_costOf_9, e_Rk_costOf_10, e_Rk_costOf_13, e_Rk_costOf_16, e_Rk_costOf_17, e_Rk_costOf_20, e_Rk_costOf_21, e_Rk_costOf_22, e_Rk_costOf_25, e_Rk_costOf_27, e_Rk_costOf_28, e_Rk_costOf_31, e_Rk_costOf_34, e_Rk_costOf_36, e_Rk_costOf_37, e_Rk_costOf_39, e_Rk_costOf_40, e_Rk_costOf_43, e_Rk_costOf_45, e_Rk_costOf_46, e_Rk_costOf_47, e_Rk_costOf_48, e_Rk_costOf_49, e_Rk_costOf_50, e_Rk_costOf_52, e_Rk_costOf_53, e_Rk_costOf_54, e_Rk_costOf_57, e_Rk_costOf_60, e_Rk_costOf_61, e_Rk_costOf_64, e_Rk_costOf_65, e_Rk_costOf_68, e_Rk_costOf_69, hR.1, if_pos hle, coF]
    grind
  | succ n ih =>
    intro r u a a5 h0 h1 h2 h3
    have hle : ¬ m ≤ r := by omega
    have hvr := hv r h0 (by omega)
    rw [e_Rk_costOf_7, coF]
    by_cases c1 : u ≤ 0
    · have c2 : ¬ 0 < u := by omega
      simp (disch := omega) only [e_Rk_costOf_0, e_Rk_costOf_1, e_Rk_costOf_2, e_Rk_costOf_3, e_Rk_costOf_4, e_Rk_costOf_5, e_Rk_costOf_9, e_Rk_costOf_10, e_Rk_costOf_13, e_Rk_costOf_16, e_Rk_costOf_17, e_Rk_costOf_20, e_Rk_costOf_21, e_Rk_costOf_22, e_Rk_costOf_25, e_Rk_costOf_27, e_Rk_costOf_28, e_Rk_costOf_31, e_Rk_costOf_34, e_Rk_costOf_36, e_Rk_costOf_37, e_Rk_costOf_39, e_Rk_costOf_40, e_Rk_costOf_43, e_Rk_costOf_45, e_Rk_costOf_46, e_Rk_costOf_47, e_Rk_costOf_48, e_Rk_costOf_49, e_Rk_costOf_50, e_Rk_costOf_52, e_Rk_costOf_53, e_Rk_costOf_54, e_Rk_costOf_57, e_Rk_costOf_60, e_Rk_costOf_61, e_Rk_costOf_64, e_Rk_costOf_65, e_Rk_costOf_68, e_Rk_costOf_69, hR.1, if_neg hle, if_pos c1]
    · have c2 : 0 < u := by omega
      obtain ⟨z, hz⟩ : ∃ z, z = mnI u (gI τ 8 (lf r) 4) := ⟨_, rfl⟩
      have hz2 : (0 ≤ z ∧ z ≤ 999) ∧ z ≤ u := by
        rw [hz]
        unfold mnI
        split <;> omega
      have hm1 : 0 ≤ z * pf (lf r) := Int.mul_nonneg hz2.1.1 hvr.2.1
      have hm2 : z * pf (lf r) ≤ 998001 := by
        have := Int.mul_le_mul hz2.1.2 hvr.2.2 hvr.2.1 (by omega : (0 : Int) ≤ 999)
        omega
      have hz3 : (if gI τ 8 (lf r) 4 < u then gI τ 8 (lf r) 4 else u) = z := hz.symm
      rw [if_neg c1, ← hz]
      simp (disch := omega) only [e_Rk_costOf_0, e_Rk_costOf_1, e_Rk_costOf_2, e_Rk_costOf_3, e_Rk_costOf_4, e_Rk_costOf_5, e_Rk_costOf_9, e_Rk_costOf_10, e_Rk_costOf_13, e_Rk_costOf_16, e_Rk_costOf_17, e_Rk_costOf_20, e_Rk_costOf_21, e_Rk_costOf_22, e_Rk_costOf_25, e_Rk_costOf_27, e_Rk_costOf_28, e_Rk_costOf_31, e_Rk_costOf_34, e_Rk_costOf_36, e_Rk_costOf_37, e_Rk_costOf_39, e_Rk_costOf_40, e_Rk_costOf_43, e_Rk_costOf_45, e_Rk_costOf_46, e_Rk_costOf_47, e_Rk_costOf_48, e_Rk_costOf_49, e_Rk_costOf_50, e_Rk_costOf_52, e_Rk_costOf_53, e_Rk_costOf_54, e_Rk_costOf_57, e_Rk_costOf_60, e_Rk_costOf_61, e_Rk_costOf_64, e_Rk_costOf_65, e_Rk_costOf_68, e_Rk_costOf_69, hR.1, if_neg hle, if_neg c1, (hR.2 r h0 (by omega)).1, (hR.2 r h0 (by omega)).2, hz3, wr_id, ih]
theorem c_Rk_costOf (τ : aM) (m q : Int) (lf pf : Int → Int) (hm : 0 ≤ m ∧ m ≤ 60) (hR : RkF τ m lf pf) (hq : 0 ≤ q ∧ q < 1000000) (hv : ∀ r, 0 ≤ r → r < m → (0 ≤ gI τ 8 (lf r) 4 ∧ gI τ 8 (lf r) 4 ≤ 999) ∧ (0 ≤ pf (lf r) ∧ pf (lf r) ≤ 999)) : ev 52 0 [aR 16 0, aI q, aU, aU, aU, aU] [] τ = some (some (aI (coF lf (fun i => gI τ 8 i 4) pf m.toNat 0 q 0)), τ) := by
  have hl := fun a5 => l_Rk_costOf τ m q lf pf hm hR hv m.toNat 0 q 0 a5 (by omega) (by omega) hq (by omega)
  simp (disch := omega) only [e_Rk_costOf_0, e_Rk_costOf_1, e_Rk_costOf_2, e_Rk_costOf_3, e_Rk_costOf_4, e_Rk_costOf_5, e_Rk_costOf_9, e_Rk_costOf_10, e_Rk_costOf_13, e_Rk_costOf_16, e_Rk_costOf_17, e_Rk_costOf_20, e_Rk_costOf_21, e_Rk_costOf_22, e_Rk_costOf_25, e_Rk_costOf_27, e_Rk_costOf_28, e_Rk_costOf_31, e_Rk_costOf_34, e_Rk_costOf_36, e_Rk_costOf_37, e_Rk_costOf_39, e_Rk_costOf_40, e_Rk_costOf_43, e_Rk_costOf_45, e_Rk_costOf_46, e_Rk_costOf_47, e_Rk_costOf_48, e_Rk_costOf_49, e_Rk_costOf_50, e_Rk_costOf_52, e_Rk_costOf_53, e_Rk_costOf_54, e_Rk_costOf_57, e_Rk_costOf_60, e_Rk_costOf_61, e_Rk_costOf_64, e_Rk_costOf_65, e_Rk_costOf_68, e_Rk_costOf_69, hl]
