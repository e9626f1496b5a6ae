/-! the whole text -/
theorem kIt_at (σ : aM) (p : Int) (it : aIt) : kIt (atP σ p) it = atP (kIt σ it) p := by
  unfold kIt
  refine aM_ext (fun t i j => ?_) (fun _ _ _ => rfl) (fun _ => rfl)
  have h5 : gI (atP σ p) 19 0 5 = gI σ 19 0 5 := by simp (disch := omega) only [gI_self, gI_nt, gI_nj, gL_uI, gR_uI, gI_uL, gR_uL, gI_uR, gL_uR]
  rw [h5]
  simp only [gI_uI]
  grind
theorem kIt_FrT (σ : aM) (it : aIt) : FrT σ (kIt σ it) := by
  unfold kIt
  exact ((((((FrT.rfl σ).u _ _ _ (by omega)).u _ _ _ (by omega)).u _ _ _ (by omega)).u _ _ _ (by omega)).u _ _ _ (by omega)).u _ _ _ (by omega)
theorem kIt_5 (σ : aM) (it : aIt) : gI (kIt σ it) 19 0 5 = gI σ 19 0 5 + 1 := by
  unfold kIt
  simp (disch := omega) only [gI_self, gI_nt, gI_nj, gL_uI, gR_uI, gI_uL, gR_uL, gI_uR, gL_uR]
theorem kIt_7 (σ : aM) (it : aIt) (j : Int) (hj : j = 6 ∨ j = 7) : gI (kIt σ it) 19 0 j = gI σ 19 0 j := by
  unfold kIt
  simp (disch := omega) only [gI_self, gI_nt, gI_nj, gL_uI, gR_uI, gI_uL, gR_uL, gI_uR, gL_uR]
theorem FrT.trans {a b c : aM} (h1 : FrT a b) (h2 : FrT b c) : FrT a c := ⟨h2.1.trans h1.1, fun t i j h => (h2.2 t i j h).trans (h1.2 t i j h)⟩
theorem FrT.ok {σ τ : aM} (h : FrT σ τ) {s : Int} (ho : okT σ s) : okT τ s := by
  unfold okT
  rw [h.2 2 s 1 (by omega)]
  exact ho
theorem FrT_ltsF {σ τ : aM} (h : FrT σ τ) (s : Int) : lts τ s = lts σ s := funext fun p => h.lts s p
theorem lts_in {σ : aM} {s p : Int} (h : ¬ lts σ s p = -1) : p < gI σ 2 s 1 := by
  unfold lts at h
  split at h
  · assumption
  · exact absurd rfl h
/-- an item's ranges -/
abbrev okI (it : aIt) : Prop := (0 ≤ it.1 ∧ it.1 ≤ 7) ∧ (0 ≤ it.2.1 ∧ it.2.1 ≤ 1) ∧ (1 ≤ it.2.2.1 ∧ it.2.2.1 ≤ 999) ∧ (1 ≤ it.2.2.2.1 ∧ it.2.2.2.1 ≤ 999) ∧ (0 ≤ it.2.2.2.2 ∧ it.2.2.2.2 ≤ 999)
theorem pIt_rg {g : Int → Int} {p p1 : Int} {it : aIt} (h : pIt g p = .inl (p1, it)) : okI it ∧ (p + 5 ≤ p1 ∧ p1 ≤ p + 14) ∧ isDg (g (p1 - 1)) := by
  rw [pIt_eq] at h
  split at h
  · cases h
  rename_i w1
  split at h
  · cases h
  unfold r46 at h
  cases n1 : pNm g (p + 2) with
  | inr k => rw [n1] at h; cases h
  | inl a1 =>
  rw [n1] at h
  have q1 := pNm_rg (p1 := a1.1) (n := a1.2) n1
  unfold r53 at h
  dsimp only at h
  split at h
  · cases h
  cases n2 : pNm g (a1.1 + 1) with
  | inr k => rw [n2] at h; cases h
  | inl a2 =>
  rw [n2] at h
  have q2 := pNm_rg (p1 := a2.1) (n := a2.2) n2
  unfold r67 at h
  dsimp only at h
  split at h
  · injection h with h
    injection h with h1 h2
    subst h1; subst h2
    refine ⟨⟨?_, ?_, ?_, ?_, ?_⟩, ?_, ?_⟩
    · dsimp only; omega
    · dsimp only; split <;> omega
    · exact q1.1
    · exact q2.1
    · dsimp only; omega
    · omega
    · exact q2.2.2.2
  cases n3 : pNm g (a2.1 + 1) with
  | inr k => rw [n3] at h; cases h
  | inl a3 =>
  rw [n3] at h
  have q3 := pNm_rg (p1 := a3.1) (n := a3.2) n3
  dsimp only at h
  injection h with h
  injection h with h1 h2
  subst h1; subst h2
  refine ⟨⟨?_, ?_, ?_, ?_, ?_⟩, ?_, ?_⟩
  · dsimp only; omega
  · dsimp only; split <;> omega
  · exact q1.1
  · exact q2.1
  · dsimp only; omega
  · omega
  · exact q3.2.2.2
/-- items are kept -/
def kIts (σ : aM) : List aIt → aM
  | [] => σ
  | it :: l => kIts (kIt σ it) l
theorem c_Tr_faultIn_loop (s : Int) : ∀ (n : Nat) (σ : aM) (i p : Int), okT σ s → gI σ 19 0 7 = -1 → gI σ 19 0 5 = i → 0 ≤ i → i + n = 27 → 6 * i ≤ p → p ≤ 160 → (match pTx (lts σ s) (gI σ 2 s 1) n p with
    | .inl l => ev 64 17 [aR 19 0, aR 2 s, aI i] [] (atP σ p) = some (some (aI (-1)), atP (kIts σ l) (gI σ 2 s 1)) ∧ (∀ it ∈ l, okI it) ∧ l.length ≤ 27 - i ∧ 1 ≤ l.length
    | .inr k => ∃ τ, ev 64 17 [aR 19 0, aR 2 s, aI i] [] (atP σ p) = some (some (aI k), τ) ∧ FrT σ τ ∧ 0 ≤ k) := by
  intro n
  induction n with
  | zero => intro σ i p h hf hc hi hn hp hp2; omega
  | succ n ih =>
    intro σ i p h hf hc hi hn hp hp2
    have c27 : ¬ 27 ≤ i := by omega
    have hit := gt_0 σ s p h (by omega) hf (by omega)
    rw [e_Tr_faultIn_17]
    unfold pTx
    cases hpI : pIt (lts σ s) p with
    | inr k =>
      rw [hpI] at hit
      obtain ⟨τ, e1, e2, e3, e4, e5⟩ := hit
      refine ⟨τ, ?_, e2.T, e4⟩
      simp (disch := omega) only [e_Tr_faultIn_1, e_Tr_faultIn_2, e_Tr_faultIn_5, e_Tr_faultIn_6, e_Tr_faultIn_7, e_Tr_faultIn_10, e_Tr_faultIn_11, e_Tr_faultIn_12, e_Tr_faultIn_15, e_Tr_faultIn_16, e_Tr_faultIn_18, e_Tr_faultIn_20, e_Tr_faultIn_23, e_Tr_faultIn_24, e_Tr_faultIn_25, e_Tr_faultIn_28, e_Tr_faultIn_29, e_Tr_faultIn_32, e_Tr_faultIn_33, e_Tr_faultIn_36, e_Tr_faultIn_37, e_Tr_faultIn_40, e_Tr_faultIn_41, e_Tr_faultIn_44, e_Tr_faultIn_47, e_Tr_faultIn_48, e_Tr_faultIn_51, e_Tr_faultIn_52, e_Tr_faultIn_53, e_Tr_faultIn_54, e_Tr_faultIn_56, e_Tr_faultIn_59, e_Tr_faultIn_62, e_Tr_faultIn_65, e_Tr_faultIn_66, e_Tr_faultIn_69, if_neg c27, e1, evK_v, e3, if_pos (show ¬ k = -1 by omega)]
    | inl a =>
      rw [hpI] at hit
      have e1 : _ = _ := hit
      have hr := pIt_rg (p1 := a.1) (it := a.2) hpI
      have hN := lts_in (p := a.1 - 1) (σ := σ) (s := s) (by omega)
      have f0 := kIt_FrT σ a.2
      rw [kIt_at] at e1
      have f1 : gI (atP (kIt σ a.2) a.1) 19 0 7 = -1 := by rw [f_at]; rw [kIt_7 _ _ _ (by omega)]; exact hf
      have f2 : gI (atP (kIt σ a.2) a.1) 19 0 6 = a.1 := gI_self _ _ _ _ _
      have f3 : gI (atP (kIt σ a.2) a.1) 2 s 1 = gI σ 2 s 1 := by simp (disch := omega) only [gI_self, gI_nt, gI_nj, gL_uI, gR_uI, gI_uL, gR_uL, gI_uR, gL_uR]; exact f0.2 2 s 1 (by decide)
      dsimp only
      by_cases cN : gI σ 2 s 1 ≤ a.1
      · have hN2 : a.1 = gI σ 2 s 1 := by omega
        rw [if_pos cN]
        refine ⟨?_, ?_, ?_, ?_⟩
        · simp (disch := omega) only [e_Tr_faultIn_1, e_Tr_faultIn_2, e_Tr_faultIn_5, e_Tr_faultIn_6, e_Tr_faultIn_7, e_Tr_faultIn_10, e_Tr_faultIn_11, e_Tr_faultIn_12, e_Tr_faultIn_15, e_Tr_faultIn_16, e_Tr_faultIn_18, e_Tr_faultIn_20, e_Tr_faultIn_23, e_Tr_faultIn_24, e_Tr_faultIn_25, e_Tr_faultIn_28, e_Tr_faultIn_29, e_Tr_faultIn_32, e_Tr_faultIn_33, e_Tr_faultIn_36, e_Tr_faultIn_37, e_Tr_faultIn_40, e_Tr_faultIn_41, e_Tr_faultIn_44, e_Tr_faultIn_47, e_Tr_faultIn_48, e_Tr_faultIn_51, e_Tr_faultIn_52, e_Tr_faultIn_53, e_Tr_faultIn_54, e_Tr_faultIn_56, e_Tr_faultIn_59, e_Tr_faultIn_62, e_Tr_faultIn_65, e_Tr_faultIn_66, e_Tr_faultIn_69, if_neg c27, e1, evK_v, f1, f2, f3, not_true_eq_false, if_false, if_neg (show ¬ a.1 < gI σ 2 s 1 by omega)]
          rw [hN2]
          rfl
        · intro it hm
          rw [List.mem_singleton.mp hm]
          exact hr.1
        · simp only [List.length_singleton]; omega
        · simp only [List.length_singleton]; omega
      · rw [if_neg cN]
        have hg : lts (kIt σ a.2) s = lts σ s := FrT_ltsF f0 s
        have f5 := kIt_5 σ a.2
        have f7 : gI (kIt σ a.2) 19 0 7 = -1 := by rw [kIt_7 _ _ _ (by omega)]; exact hf
        by_cases c59 : lts σ s a.1 = 59
        · rw [if_neg (fun q => q c59)]
          have h6 := ts_ok (kIt σ a.2) s a.1 59 (f0.ok h) (by omega) f7 (by rw [hg]; exact c59)
          have ih' := ih (kIt σ a.2) (i + 1) (a.1 + 1) (f0.ok h) f7 (by omega) (by omega) (by omega) (by omega) (by omega)
          rw [hg, f0.2 2 s 1 (by decide)] at ih'
          have goal1 : ev 64 18 [aR 19 0, aR 2 s, aI i] [aI i] (atP σ p) = ev 64 17 [aR 19 0, aR 2 s, aI (i + 1)] [] (atP (kIt σ a.2) (a.1 + 1)) := by
            simp (disch := omega) only [e_Tr_faultIn_1, e_Tr_faultIn_2, e_Tr_faultIn_5, e_Tr_faultIn_6, e_Tr_faultIn_7, e_Tr_faultIn_10, e_Tr_faultIn_11, e_Tr_faultIn_12, e_Tr_faultIn_15, e_Tr_faultIn_16, e_Tr_faultIn_18, e_Tr_faultIn_20, e_Tr_faultIn_23, e_Tr_faultIn_24, e_Tr_faultIn_25, e_Tr_faultIn_28, e_Tr_faultIn_29, e_Tr_faultIn_32, e_Tr_faultIn_33, e_Tr_faultIn_36, e_Tr_faultIn_37, e_Tr_faultIn_40, e_Tr_faultIn_41, e_Tr_faultIn_44, e_Tr_faultIn_47, e_Tr_faultIn_48, e_Tr_faultIn_51, e_Tr_faultIn_52, e_Tr_faultIn_53, e_Tr_faultIn_54, e_Tr_faultIn_56, e_Tr_faultIn_59, e_Tr_faultIn_62, e_Tr_faultIn_65, e_Tr_faultIn_66, e_Tr_faultIn_69, if_neg c27, e1, evK_v, f1, f2, f3, not_true_eq_false, if_false, if_pos (show a.1 < gI σ 2 s 1 by omega), h6, wr_id]
          rw [goal1]
          cases hp9 : pTx (lts σ s) (gI σ 2 s 1) n (a.1 + 1) with
          | inr k => rw [hp9] at ih'; exact (by obtain ⟨τ, k1, k2, k3⟩ := ih'; exact ⟨τ, k1, f0.trans k2, k3⟩)
          | inl l =>
            rw [hp9] at ih'
            obtain ⟨k1, k2, k3, k4⟩ := ih'
            refine ⟨k1, ?_, ?_, ?_⟩
            · intro it hm
              rcases List.mem_cons.mp hm with q | q
              · rw [q]; exact hr.1
              · exact k2 it q
            · simp only [List.length_cons]; omega
            · simp only [List.length_cons]; omega
        · rw [if_pos c59]
          have h6 := ts_no (kIt σ a.2) s a.1 59 (f0.ok h) (by omega) f7 (by rw [hg]; exact c59)
          have o1 : okT (uI (atP (kIt σ a.2) a.1) 19 0 7 a.1) s := okT_u (okT_u (f0.ok h) _ _ (by omega)) _ _ (by omega)
          have o2 : 0 ≤ gI (uI (atP (kIt σ a.2) a.1) 19 0 7 a.1) 19 0 6 ∧ gI (uI (atP (kIt σ a.2) a.1) 19 0 7 a.1) 19 0 6 ≤ 900 := by simp (disch := omega) only [gI_self, gI_nt, gI_nj, gL_uI, gR_uI, gI_uL, gR_uL, gI_uR, gL_uR]; omega
          have h7 := c_Tr_takeItem_bad _ s o1 o2 (by rw [gI_self]; omega)
          refine ⟨uI (atP (kIt σ a.2) a.1) 19 0 7 a.1, ?_, (f0.u _ _ _ (by omega)).u _ _ _ (by omega), by omega⟩
          simp (disch := omega) only [e_Tr_faultIn_18, e_Tr_faultIn_20, e_Tr_faultIn_23, e_Tr_faultIn_24, e_Tr_faultIn_25, e_Tr_faultIn_28, e_Tr_faultIn_29, e_Tr_faultIn_32, e_Tr_faultIn_33, e_Tr_faultIn_36, e_Tr_faultIn_37, e_Tr_faultIn_40, e_Tr_faultIn_41, e_Tr_faultIn_44, e_Tr_faultIn_52, e_Tr_faultIn_53, e_Tr_faultIn_54, e_Tr_faultIn_56, e_Tr_faultIn_59, e_Tr_faultIn_62, if_neg c27, e1, evK_v, f1, f2, f3, not_true_eq_false, if_false, if_pos (show a.1 < gI σ 2 s 1 by omega), h6, wr_id]
          rw [e_Tr_faultIn_17]
          simp (disch := omega) only [e_Tr_faultIn_18, e_Tr_faultIn_20, e_Tr_faultIn_23, e_Tr_faultIn_24, e_Tr_faultIn_25, e_Tr_faultIn_28, e_Tr_faultIn_29, e_Tr_faultIn_32, e_Tr_faultIn_33, e_Tr_faultIn_47, e_Tr_faultIn_48, e_Tr_faultIn_51, if_neg (show ¬ 27 ≤ i + 1 by omega), h7, evK_v, gI_self, if_pos (show ¬ a.1 = -1 by omega)]
/-- the reader, at the start -/
def kFr (σ : aM) : aM := uI (uI σ 19 0 5 0) 19 0 7 (-1)
theorem kFr_FrT (σ : aM) : FrT σ (kFr σ) := ((FrT.rfl σ).u _ _ _ (by omega)).u _ _ _ (by omega)
theorem c_Tr_faultIn (σ : aM) (s : Int) (h : okT σ s) : match pTx (lts σ s) (gI σ 2 s 1) 27 0 with
    | .inl l => ev 64 0 [aR 19 0, aR 2 s, aU] [] σ = some (some (aI (-1)), atP (kIts (kFr σ) l) (gI σ 2 s 1)) ∧ (∀ it ∈ l, okI it) ∧ l.length ≤ 27 ∧ 1 ≤ l.length
    | .inr k => ∃ τ, ev 64 0 [aR 19 0, aR 2 s, aU] [] σ = some (some (aI k), τ) ∧ FrT σ τ ∧ 0 ≤ k := by
  have f0 := kFr_FrT σ
  have h1 := c_Tr_faultIn_loop s 27 (kFr σ) 0 0 (f0.ok h) (gI_self _ _ _ _ _) (by unfold kFr; simp (disch := omega) only [gI_self, gI_nt, gI_nj, gL_uI, gR_uI, gI_uL, gR_uL, gI_uR, gL_uR]) (by omega) (by omega) (by omega) (by omega)
  rw [FrT_ltsF f0, f0.2 2 s 1 (by decide)] at h1
  have e0 : ev 64 0 [aR 19 0, aR 2 s, aU] [] σ = ev 64 17 [aR 19 0, aR 2 s, aI 0] [] (atP (kFr σ) 0) := by
    have e9 : uI (uI (uI σ 19 0 5 0) 19 0 6 0) 19 0 7 (-1) = atP (kFr σ) 0 := by
      unfold kFr
      refine aM_ext (fun t i j => ?_) (fun _ _ _ => rfl) (fun _ => rfl)
      simp only [gI_uI]
      grind
    simp (disch := omega) only [e_Tr_faultIn_0, e_Tr_faultIn_1, e_Tr_faultIn_2, e_Tr_faultIn_5, e_Tr_faultIn_6, e_Tr_faultIn_7, e_Tr_faultIn_10, e_Tr_faultIn_11, e_Tr_faultIn_12, e_Tr_faultIn_15, e_Tr_faultIn_16, e9]
  rw [e0]
  cases hp9 : pTx (lts σ s) (gI σ 2 s 1) 27 0 with
  | inr k => rw [hp9] at h1; exact (by obtain ⟨τ, k1, k2, k3⟩ := h1; exact ⟨τ, k1, f0.trans k2, k3⟩)
  | inl l => rw [hp9] at h1; exact (by obtain ⟨k1, k2, k3, k4⟩ := h1; exact ⟨k1, k2, by omega, k4⟩)
