/-! rows filled; the auction's find -/
def flI (σ : aM) (t : Nat) (i v n : Int) : aM := (fun t' i' j' => if t' = t ∧ i' = i ∧ 0 ≤ j' ∧ j' < n then v else gI σ t' i' j', σ.2)
def flL (σ : aM) (t : Nat) (i : Int) (v : Int64) (n : Int) : aM := (σ.1, fun t' i' j' => if t' = t ∧ i' = i ∧ 0 ≤ j' ∧ j' < n then v else gL σ t' i' j', σ.2.2)
theorem gI_flI (σ : aM) (t : Nat) (i v n : Int) (t' : Nat) (i' j' : Int) : gI (flI σ t i v n) t' i' j' = if t' = t ∧ i' = i ∧ 0 ≤ j' ∧ j' < n then v else gI σ t' i' j' := rfl
theorem gL_flL (σ : aM) (t : Nat) (i : Int) (v : Int64) (n : Int) (t' : Nat) (i' j' : Int) : gL (flL σ t i v n) t' i' j' = if t' = t ∧ i' = i ∧ 0 ≤ j' ∧ j' < n then v else gL σ t' i' j' := rfl
theorem aM_ext {a b : aM} (h1 : ∀ t i j, gI a t i j = gI b t i j) (h2 : ∀ t i j, gL a t i j = gL b t i j) (h3 : ∀ j, gR a j = gR b j) : a = b := by
  obtain ⟨a1, a2, a3⟩ := a
  obtain ⟨b1, b2, b3⟩ := b
  have e1 : a1 = b1 := funext fun t => funext fun i => funext fun j => h1 t i j
  have e2 : a2 = b2 := funext fun t => funext fun i => funext fun j => h2 t i j
  have e3 : a3 = b3 := funext fun j => h3 j
  subst e1; subst e2; subst e3
  rfl
theorem flI_0 (σ : aM) (t : Nat) (i v : Int) : flI σ t i v 0 = σ := aM_ext (fun t' i' j' => by rw [gI_flI, if_neg (fun q => by omega)]) (fun _ _ _ => rfl) (fun _ => rfl)
theorem flL_0 (σ : aM) (t : Nat) (i : Int) (v : Int64) : flL σ t i v 0 = σ := aM_ext (fun _ _ _ => rfl) (fun t' i' j' => by rw [gL_flL, if_neg (fun q => by omega)]) (fun _ => rfl)
theorem flI_s (σ : aM) (t : Nat) (i v : Int) {k : Int} (h : 0 ≤ k) : uI (flI σ t i v k) t i k v = flI σ t i v (k + 1) := aM_ext (fun t' i' j' => by rw [gI_uI, gI_flI, gI_flI]; grind) (fun _ _ _ => rfl) (fun _ => rfl)
theorem flL_s (σ : aM) (t : Nat) (i : Int) (v : Int64) {k : Int} (h : 0 ≤ k) : uL (flL σ t i v k) t i k v = flL σ t i v (k + 1) := aM_ext (fun _ _ _ => rfl) (fun t' i' j' => by rw [gL_uL, gL_flL, gL_flL]; grind) (fun _ => rfl)
theorem l_Arr_fillI (σ : aM) (t : Nat) (i v : Int) (hT : fT t = 0) (hn : t ≠ 34) (m : Nat) (hm : fL t = m) (hm2 : m < 100000) : ∀ (n : Nat) (k : Int), 0 ≤ k → k + n = m → ev 212 5 [aR t i, aI v, aI k, aI m] [] (flI σ t i v k) = some (none, flI σ t i v m) := by
  intro n
  induction n with
  | zero =>
    intro k h0 h1
    have hle : (m : Int) ≤ k := by omega
    have hk : k = m := by omega
    rw [e_Arr_fillI_5]
    simp (disch := omega) only [e_Arr_fillI_0, e_Arr_fillI_1, e_Arr_fillI_2, e_Arr_fillI_3, e_Arr_fillI_4, e_Arr_fillI_6, e_Arr_fillI_7, e_Arr_fillI_10, e_Arr_fillI_11, e_Arr_fillI_12, e_Arr_fillI_13, e_Arr_fillI_14, e_Arr_fillI_17, e_Arr_fillI_20, if_pos hle]
    rw [hk]
  | succ n ih =>
    intro k h0 h1
    have hle : ¬ (m : Int) ≤ k := by omega
    rw [e_Arr_fillI_5]
    simp (disch := omega) only [e_Arr_fillI_0, e_Arr_fillI_1, e_Arr_fillI_2, e_Arr_fillI_3, e_Arr_fillI_4, e_Arr_fillI_6, e_Arr_fillI_7, e_Arr_fillI_10, e_Arr_fillI_11, e_Arr_fillI_12, e_Arr_fillI_13, e_Arr_fillI_14, e_Arr_fillI_17, e_Arr_fillI_20, if_neg hle, wr_id, flI_s, ih]
theorem c_Arr_fillI (σ : aM) (t : Nat) (i v : Int) (hT : fT t = 0) (hC : fC t = 99) (hn : t ≠ 34) (m : Nat) (hm : fL t = m) (hm2 : m < 100000) : ev 212 0 [aR t i, aI v, aU, aU] [] σ = some (none, flI σ t i v m) := by
  have hl := l_Arr_fillI σ t i v hT hn m hm hm2 m 0 (by omega) (by omega)
  rw [flI_0] at hl
  simp (disch := omega) only [e_Arr_fillI_0, e_Arr_fillI_1, e_Arr_fillI_2, e_Arr_fillI_3, e_Arr_fillI_4, e_Arr_fillI_6, e_Arr_fillI_7, e_Arr_fillI_10, e_Arr_fillI_11, e_Arr_fillI_12, e_Arr_fillI_13, e_Arr_fillI_14, e_Arr_fillI_17, e_Arr_fillI_20, hm, hl]
theorem l_Arr_fillL (σ : aM) (t : Nat) (i : Int) (v : Int64) (hT : fT t = 1) (hn : t ≠ 34) (m : Nat) (hm : fL t = m) (hm2 : m < 100000) : ∀ (n : Nat) (k : Int), 0 ≤ k → k + n = m → ev 211 6 [aR t i, aJ v, aU, aI k, aI m] [] (flL σ t i v k) = some (none, flL σ t i v m) := by
  intro n
  induction n with
  | zero =>
    intro k h0 h1
    have hle : (m : Int) ≤ k := by omega
    have hk : k = m := by omega
    rw [e_Arr_fillL_6]
    simp (disch := omega) only [e_Arr_fillL_0, e_Arr_fillL_1, e_Arr_fillL_2, e_Arr_fillL_3, e_Arr_fillL_4, e_Arr_fillL_7, e_Arr_fillL_9, e_Arr_fillL_12, e_Arr_fillL_13, e_Arr_fillL_14, e_Arr_fillL_15, e_Arr_fillL_16, e_Arr_fillL_19, e_Arr_fillL_22, if_pos hle]
    rw [hk]
  | succ n ih =>
    intro k h0 h1
    have hle : ¬ (m : Int) ≤ k := by omega
    rw [e_Arr_fillL_6]
    simp (disch := omega) only [e_Arr_fillL_0, e_Arr_fillL_1, e_Arr_fillL_2, e_Arr_fillL_3, e_Arr_fillL_4, e_Arr_fillL_7, e_Arr_fillL_9, e_Arr_fillL_12, e_Arr_fillL_13, e_Arr_fillL_14, e_Arr_fillL_15, e_Arr_fillL_16, e_Arr_fillL_19, e_Arr_fillL_22, if_neg hle, wr_id, flL_s, ih]
theorem c_Arr_fillL (σ : aM) (t : Nat) (i : Int) (v : Int64) (hT : fT t = 1) (hC : fC t = 99) (hn : t ≠ 34) (m : Nat) (hm : fL t = m) (hm2 : m < 100000) : ev 211 0 [aR t i, aJ v, aU, aU, aU] [] σ = some (none, flL σ t i v m) := by
  have hl := l_Arr_fillL σ t i v hT hn m hm hm2 m 0 (by omega) (by omega)
  rw [flL_0] at hl
  simp (disch := omega) only [e_Arr_fillL_0, e_Arr_fillL_1, e_Arr_fillL_2, e_Arr_fillL_3, e_Arr_fillL_4, e_Arr_fillL_7, e_Arr_fillL_9, e_Arr_fillL_12, e_Arr_fillL_13, e_Arr_fillL_14, e_Arr_fillL_15, e_Arr_fillL_16, e_Arr_fillL_19, e_Arr_fillL_22, hm, hl]
theorem c_Sh_holdRow (i sort n : Int) (σ : aM) : ev 56 0 [aR 2 i, aI sort, aI n] [] σ = some (none, uI (uI (flL (uI (uI (uI σ 2 i 1 0) 2 i 2 (-1)) 2 i 3 (-1)) 3 i 0 160) 2 i 2 sort) 2 i 1 n) := by
  have hl := fun τ => c_Arr_fillL τ 3 i 0 rfl rfl (by decide) 160 rfl (by decide)
  simp (disch := omega) only [e_Sh_holdRow_0, e_Sh_holdRow_1, e_Sh_holdRow_4, e_Sh_holdRow_5, e_Sh_holdRow_8, e_Sh_holdRow_9, e_Sh_holdRow_12, e_Sh_holdRow_13, e_Sh_holdRow_14, e_Sh_holdRow_17, e_Sh_holdRow_18, e_Sh_holdRow_19, e_Sh_holdRow_22, c_Sh_holdNothing, evK_v, hl]
  rfl
/-! sums over orders -/
abbrev elA (σ : aM) (k : Int) : Prop := gI σ 8 k 5 = 1 ∧ ¬ gI σ 8 k 1 = 3 ∧ 1 ≤ gI σ 8 k 7 ∧ gI σ 8 k 7 < 1000
def suF (f : Int → Int) : Nat → Int → Int
  | 0, _ => 0
  | n + 1, i => f i + suF f n (i + 1)
theorem suF_add (f g h : Int → Int) (e : ∀ k, f k = g k + h k) : ∀ (n : Nat) (i : Int), suF f n i = suF g n i + suF h n i := by
  intro n
  induction n with
  | zero => intro i; rfl
  | succ n ih =>
    intro i
    rw [suF, suF, suF, ih, e]
    omega
theorem suF_eq {f g : Int → Int} : ∀ (n : Nat) (i : Int), (∀ k, i ≤ k → k < i + n → f k = g k) → suF f n i = suF g n i := by
  intro n
  induction n with
  | zero => intro i _; rfl
  | succ n ih =>
    intro i e
    rw [suF, suF, ih (i + 1) (fun k h1 h2 => e k (by omega) (by omega)), e i (by omega) (by omega)]
theorem suF_rg {f : Int → Int} {m : Int} : ∀ (n : Nat) (i : Int), (∀ k, i ≤ k → k < i + n → 0 ≤ f k ∧ f k ≤ 999) → 0 ≤ suF f n i ∧ suF f n i ≤ 999 * n := by
  intro n
  induction n with
  | zero => intro i _; exact ⟨Int.le_refl _, Int.le_refl _⟩
  | succ n ih =>
    intro i e
    have h1 := ih (i + 1) (fun k h1 h2 => e k (by omega) (by omega))
    have h2 := e i (by omega) (by omega)
    rw [suF]
    omega
def bA1 (σ : aM) (p k : Int) : Int := if elA σ k ∧ gI σ 8 k 3 = 0 ∧ gI σ 8 k 7 = p then gI σ 8 k 4 else 0
def sA1 (σ : aM) (p k : Int) : Int := if elA σ k ∧ ¬ gI σ 8 k 3 = 0 ∧ gI σ 8 k 7 = p then gI σ 8 k 4 else 0
def tB1 (σ : aM) (k : Int) : Int := if elA σ k ∧ gI σ 8 k 3 = 0 then gI σ 8 k 4 else 0
def bV1 (σ : aM) (p k : Int) : Int := if elA σ k ∧ gI σ 8 k 3 = 0 ∧ p ≤ gI σ 8 k 7 then gI σ 8 k 4 else 0
def sV1 (σ : aM) (p k : Int) : Int := if elA σ k ∧ ¬ gI σ 8 k 3 = 0 ∧ gI σ 8 k 7 ≤ p then gI σ 8 k 4 else 0
def nC (σ : aM) : Nat := (gI σ 6 0 2).toNat
def bV (σ : aM) (p : Int) : Int := suF (bV1 σ p) (nC σ) 0
def sV (σ : aM) (p : Int) : Int := suF (sV1 σ p) (nC σ) 0
theorem bV_s (σ : aM) (p : Int) : bV σ p = bV σ (p + 1) + suF (bA1 σ p) (nC σ) 0 := suF_add _ _ _ (fun k => by unfold bV1 bA1; grind) _ _
theorem sV_s (σ : aM) (p : Int) : sV σ (p + 1) = sV σ p + suF (sA1 σ (p + 1)) (nC σ) 0 := suF_add _ _ _ (fun k => by unfold sV1 sA1; grind) _ _
theorem bV_1 (σ : aM) : suF (tB1 σ) (nC σ) 0 = bV σ 1 := suF_eq _ _ (fun k _ _ => by unfold tB1 bV1; grind)
theorem suF_0 {f : Int → Int} (e : ∀ k, f k = 0) : ∀ (n : Nat) (i : Int), suF f n i = 0 := by
  intro n
  induction n with
  | zero => intro i; rfl
  | succ n ih => intro i; rw [suF, ih, e]; rfl
theorem sV_0 (σ : aM) : sV σ 0 = 0 := suF_0 (fun k => by unfold sV1; grind) _ _
/-- memories that differ in the auction's rows alone -/
def FrA (σ τ : aM) : Prop := τ.2 = σ.2 ∧ ∀ t i j, ¬ t = 13 → ¬ t = 14 → ¬ t = 15 → gI τ t i j = gI σ t i j
theorem FrA.u {σ τ : aM} (h : FrA σ τ) {t : Nat} (i j v : Int) (ht : t = 13 ∨ t = 14 ∨ t = 15) : FrA σ (uI τ t i j v) := ⟨h.1, fun t' i' j' h1 h2 h3 => by
  rw [gI_uI, if_neg (fun q => by omega)]
  exact h.2 t' i' j' h1 h2 h3⟩
theorem l_Auc_gather (σ : aM) (hc : gI σ 6 0 2 ≤ 60) (hr : ∀ i, 0 ≤ i → i < gI σ 6 0 2 → 0 ≤ gI σ 8 i 4 ∧ gI σ 8 i 4 ≤ 999) : ∀ (n : Nat) (i a : Int) (τ : aM) (a4 : AV), 0 ≤ i → i + n = gI σ 6 0 2 → (0 ≤ a ∧ a ≤ 999 * i) → FrA σ τ → (∀ p, 1 ≤ p → p < 1000 → (0 ≤ gI τ 14 0 p ∧ gI τ 14 0 p ≤ 999 * i) ∧ (0 ≤ gI τ 15 0 p ∧ gI τ 15 0 p ≤ 999 * i)) → ∃ τ', ev 2 20 [aR 13 0, aR 6 0, aI a, aI i, a4] [] τ = some (some (aI (a + suF (tB1 σ) n i)), τ') ∧ FrA σ τ' ∧ ∀ p, 1 ≤ p → p < 1000 → gI τ' 14 0 p = gI τ 14 0 p + suF (bA1 σ p) n i ∧ gI τ' 15 0 p = gI τ 15 0 p + suF (sA1 σ p) n i := by
  intro n
  induction n with
  | zero =>
    intro i a τ a4 h0 h1 ha hF hp
    have hle : gI σ 6 0 2 ≤ i := by omega
    refine ⟨τ, ?_, hF, fun p _ _ => ⟨(Int.add_zero _).symm, (Int.add_zero _).symm⟩⟩
    rw [e_Auc_gather_20]
    simp (disch := omega) only [e_Auc_gather_0, e_Auc_gather_1, e_Auc_gather_4, e_Auc_gather_5, e_Auc_gather_8, e_Auc_gather_9, e_Auc_gather_12, e_Auc_gather_13, e_Auc_gather_16, e_Auc_gather_17, e_Auc_gather_18, e_Auc_gather_19, e_Auc_gather_21, e_Auc_gather_22, e_Auc_gather_25, e_Auc_gather_28, e_Auc_gather_29, e_Auc_gather_32, e_Auc_gather_33, e_Auc_gather_34, e_Auc_gather_36, e_Auc_gather_38, e_Auc_gather_41, e_Auc_gather_42, e_Auc_gather_45, e_Auc_gather_47, e_Auc_gather_50, e_Auc_gather_51, e_Auc_gather_54, e_Auc_gather_56, e_Auc_gather_59, e_Auc_gather_62, e_Auc_gather_65, e_Auc_gather_68, e_Auc_gather_70, e_Auc_gather_73, e_Auc_gather_76, e_Auc_gather_77, e_Auc_gather_80, e_Auc_gather_82, e_Auc_gather_85, e_Auc_gather_86, e_Auc_gather_87, e_Auc_gather_89, e_Auc_gather_92, e_Auc_gather_93, e_Auc_gather_94, e_Auc_gather_95, e_Auc_gather_97, e_Auc_gather_100, e_Auc_gather_101, e_Auc_gather_102, e_Auc_gather_105, e_Auc_gather_106, e_Auc_gather_109, e_Auc_gather_111, e_Auc_gather_114, e_Auc_gather_115, e_Auc_gather_116, e_Auc_gather_118, e_Auc_gather_121, e_Auc_gather_122, e_Auc_gather_123, e_Auc_gather_126, e_Auc_gather_129, e_Auc_gather_130, hF.2, if_pos hle, suF, Int.add_zero]
  | succ n ih =>
    intro i a τ a4 h0 h1 ha hF hp
    have hle : ¬ gI σ 6 0 2 ≤ i := by omega
    have hl := hr i h0 (by omega)
    rw [e_Auc_gather_20]
    by_cases he : elA σ i
    · have e1 := he.1
      have e2 := he.2.1
      have e3 := he.2.2
      have hpp := hp (gI σ 8 i 7) e3.1 e3.2
      by_cases hs : gI σ 8 i 3 = 0
      · obtain ⟨τ', k1, k2, k3⟩ := ih (i + 1) (a + gI σ 8 i 4) (uI τ 14 0 (gI σ 8 i 7) (gI τ 14 0 (gI σ 8 i 7) + gI σ 8 i 4)) (aR 8 i) (by omega) (by omega) (by omega) (hF.u _ _ _ (by omega)) (fun p q1 q2 => by
          have := hp p q1 q2
          rw [gI_uI, gI_uI]
          grind)
        refine ⟨τ', ?_, k2, fun p q1 q2 => ?_⟩
        · simp (disch := omega) only [e_Auc_gather_0, e_Auc_gather_1, e_Auc_gather_4, e_Auc_gather_5, e_Auc_gather_8, e_Auc_gather_9, e_Auc_gather_12, e_Auc_gather_13, e_Auc_gather_16, e_Auc_gather_17, e_Auc_gather_18, e_Auc_gather_19, e_Auc_gather_21, e_Auc_gather_22, e_Auc_gather_25, e_Auc_gather_28, e_Auc_gather_29, e_Auc_gather_32, e_Auc_gather_33, e_Auc_gather_34, e_Auc_gather_36, e_Auc_gather_38, e_Auc_gather_41, e_Auc_gather_42, e_Auc_gather_45, e_Auc_gather_47, e_Auc_gather_50, e_Auc_gather_51, e_Auc_gather_54, e_Auc_gather_56, e_Auc_gather_59, e_Auc_gather_62, e_Auc_gather_65, e_Auc_gather_68, e_Auc_gather_70, e_Auc_gather_73, e_Auc_gather_76, e_Auc_gather_77, e_Auc_gather_80, e_Auc_gather_82, e_Auc_gather_85, e_Auc_gather_86, e_Auc_gather_87, e_Auc_gather_89, e_Auc_gather_92, e_Auc_gather_93, e_Auc_gather_94, e_Auc_gather_95, e_Auc_gather_97, e_Auc_gather_100, e_Auc_gather_101, e_Auc_gather_102, e_Auc_gather_105, e_Auc_gather_106, e_Auc_gather_109, e_Auc_gather_111, e_Auc_gather_114, e_Auc_gather_115, e_Auc_gather_116, e_Auc_gather_118, e_Auc_gather_121, e_Auc_gather_122, e_Auc_gather_123, e_Auc_gather_126, e_Auc_gather_129, e_Auc_gather_130, hF.2, if_neg hle, Int.mul_zero, Int.zero_add, e1, e2, c_Ub_isMeasure, evK_i, if_pos e3, one_ne, not_true_eq_false, not_false_eq_true, if_true, if_false, hs, wr_id, gI_self, gI_nt, gI_nj, gL_uI, gR_uI, gI_uL, gR_uL, gI_uR, gL_uR, k1]
          rw [suF, show tB1 σ i = gI σ 8 i 4 from if_pos ⟨he, hs⟩, Int.add_assoc]
        · have := k3 p q1 q2
          rw [gI_uI, gI_uI] at this
          rw [suF, suF]
          unfold bA1 sA1 at this ⊢
          grind
      · obtain ⟨τ', k1, k2, k3⟩ := ih (i + 1) a (uI τ 15 0 (gI σ 8 i 7) (gI τ 15 0 (gI σ 8 i 7) + gI σ 8 i 4)) (aR 8 i) (by omega) (by omega) (by omega) (hF.u _ _ _ (by omega)) (fun p q1 q2 => by
          have := hp p q1 q2
          rw [gI_uI, gI_uI]
          grind)
        refine ⟨τ', ?_, k2, fun p q1 q2 => ?_⟩
        · simp (disch := omega) only [e_Auc_gather_0, e_Auc_gather_1, e_Auc_gather_4, e_Auc_gather_5, e_Auc_gather_8, e_Auc_gather_9, e_Auc_gather_12, e_Auc_gather_13, e_Auc_gather_16, e_Auc_gather_17, e_Auc_gather_18, e_Auc_gather_19, e_Auc_gather_21, e_Auc_gather_22, e_Auc_gather_25, e_Auc_gather_28, e_Auc_gather_29, e_Auc_gather_32, e_Auc_gather_33, e_Auc_gather_34, e_Auc_gather_36, e_Auc_gather_38, e_Auc_gather_41, e_Auc_gather_42, e_Auc_gather_45, e_Auc_gather_47, e_Auc_gather_50, e_Auc_gather_51, e_Auc_gather_54, e_Auc_gather_56, e_Auc_gather_59, e_Auc_gather_62, e_Auc_gather_65, e_Auc_gather_68, e_Auc_gather_70, e_Auc_gather_73, e_Auc_gather_76, e_Auc_gather_77, e_Auc_gather_80, e_Auc_gather_82, e_Auc_gather_85, e_Auc_gather_86, e_Auc_gather_87, e_Auc_gather_89, e_Auc_gather_92, e_Auc_gather_93, e_Auc_gather_94, e_Auc_gather_95, e_Auc_gather_97, e_Auc_gather_100, e_Auc_gather_101, e_Auc_gather_102, e_Auc_gather_105, e_Auc_gather_106, e_Auc_gather_109, e_Auc_gather_111, e_Auc_gather_114, e_Auc_gather_115, e_Auc_gather_116, e_Auc_gather_118, e_Auc_gather_121, e_Auc_gather_122, e_Auc_gather_123, e_Auc_gather_126, e_Auc_gather_129, e_Auc_gather_130, hF.2, if_neg hle, Int.mul_zero, Int.zero_add, e1, e2, c_Ub_isMeasure, evK_i, if_pos e3, one_ne, not_true_eq_false, not_false_eq_true, if_true, if_false, hs, wr_id, gI_self, gI_nt, gI_nj, gL_uI, gR_uI, gI_uL, gR_uL, gI_uR, gL_uR, k1]
          rw [suF, show tB1 σ i = 0 from if_neg (fun q => hs q.2), Int.zero_add]
        · have := k3 p q1 q2
          rw [gI_uI, gI_uI] at this
          rw [suF, suF]
          unfold bA1 sA1 at this ⊢
          grind
    · obtain ⟨τ', k1, k2, k3⟩ := ih (i + 1) a τ (aR 8 i) (by omega) (by omega) (by omega) hF (fun p q1 q2 => by have := hp p q1 q2; omega)
      refine ⟨τ', ?_, k2, fun p q1 q2 => ?_⟩
      · simp (disch := omega) only [e_Auc_gather_0, e_Auc_gather_1, e_Auc_gather_4, e_Auc_gather_5, e_Auc_gather_8, e_Auc_gather_9, e_Auc_gather_12, e_Auc_gather_13, e_Auc_gather_16, e_Auc_gather_17, e_Auc_gather_18, e_Auc_gather_19, e_Auc_gather_21, e_Auc_gather_22, e_Auc_gather_25, e_Auc_gather_28, e_Auc_gather_29, e_Auc_gather_32, e_Auc_gather_33, e_Auc_gather_34, e_Auc_gather_36, e_Auc_gather_38, e_Auc_gather_41, e_Auc_gather_42, e_Auc_gather_45, e_Auc_gather_47, e_Auc_gather_50, e_Auc_gather_51, e_Auc_gather_54, e_Auc_gather_56, e_Auc_gather_59, e_Auc_gather_62, e_Auc_gather_65, e_Auc_gather_68, e_Auc_gather_70, e_Auc_gather_73, e_Auc_gather_76, e_Auc_gather_77, e_Auc_gather_80, e_Auc_gather_82, e_Auc_gather_85, e_Auc_gather_86, e_Auc_gather_87, e_Auc_gather_89, e_Auc_gather_92, e_Auc_gather_93, e_Auc_gather_94, e_Auc_gather_95, e_Auc_gather_97, e_Auc_gather_100, e_Auc_gather_101, e_Auc_gather_102, e_Auc_gather_105, e_Auc_gather_106, e_Auc_gather_109, e_Auc_gather_111, e_Auc_gather_114, e_Auc_gather_115, e_Auc_gather_116, e_Auc_gather_118, e_Auc_gather_121, e_Auc_gather_122, e_Auc_gather_123, e_Auc_gather_126, e_Auc_gather_129, e_Auc_gather_130, hF.2, if_neg hle, Int.mul_zero, Int.zero_add, c_Ub_isMeasure, evK_i, b01, wr_id, k1]
        rw [suF, show tB1 σ i = 0 from if_neg (fun q => he q.1), Int.zero_add]
        grind
      · have := k3 p q1 q2
        rw [suF, suF]
        unfold bA1 sA1 at this ⊢
        grind
