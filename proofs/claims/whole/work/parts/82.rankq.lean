/-! rank, ahead, sweep -/
theorem Inv_K {μ μ' : aM} {B : Int} (h : Inv μ B) (hF : FrK μ μ') : Inv μ' B := by
  have ht : ∀ t i j, ¬ (t = 16 ∨ t = 18) → gI μ' t i j = gI μ t i j := fun t i j z => hF.2 t i j (by omega) (by omega)
  have hL : ∀ t i j, gL μ' t i j = gL μ t i j := fun t i j => by unfold gL; rw [hF.1]
  obtain ⟨i1, i2, i3, i4, i5, i6, i7⟩ := h
  refine ⟨?_, ?_, fun s s0 s1 => ?_, fun r r0 r1 => ?_, ?_, ?_, fun z => ?_⟩
  · exact Sim_cg i1 (fun j _ _ => ht _ _ _ (by omega)) (fun i j _ _ _ _ => ht _ _ _ (by omega)) (fun i => ht _ _ _ (by omega)) ⟨ht _ _ _ (by omega), ht _ _ _ (by omega)⟩ (fun j _ _ => ht _ _ _ (by omega)) (fun j _ _ => ⟨ht _ _ _ (by omega), ht _ _ _ (by omega)⟩) (fun k _ _ => ht _ _ _ (by omega))
  · exact CO_cg i2 (ht _ _ _ (by omega)) (fun i _ _ => ht _ _ _ (by omega)) (ht _ _ _ (by omega)) (Int.le_refl _)
  · exact ShP_cg (i3 s s0 s1) (fun j => ht _ _ _ (by omega)) (ht _ _ _ (by omega)) (ht _ _ _ (by omega)) hL (by rw [ht _ _ _ (by omega)]; exact Int.le_refl _)
  · rw [ht _ _ _ (by omega), ht _ _ _ (by omega)]; exact i4 r r0 r1
  · rw [ht _ _ _ (by omega), ht _ _ _ (by omega)]; exact i5
  · rw [ht _ _ _ (by omega), ht _ _ _ (by omega)]; exact i6
  · rw [ht _ _ _ (by omega)] at z
    exact Sim_vw (i7 z) (fun k => ht _ _ _ (by omega)) (fun i j _ _ => ht _ _ _ (by omega)) (fun i => ht _ _ _ (by omega)) (fun t j hq => ht _ _ _ (by omega)) (Int.le_refl _)
theorem vsN_rg {τ : aM} {o : Int} (hI : IO τ (-1)) (h0 : 0 ≤ o) (h1 : o < gI τ 6 0 2) : 0 ≤ vsN τ o ∧ vsN τ o ≤ 999 := by
  obtain ⟨ia, ib, ip, idd, is, ir⟩ := IO_p hI h0 h1
  unfold vsN
  by_cases z : gI τ 8 o 5 = 1
  · have ir := ir z
    rw [if_pos z]
    by_cases y : gI τ 8 o 1 = 2
    · have := ir.2.2.2 y
      rw [if_pos y]; omega
    · rw [if_neg y]; exact ib.1
  · rw [if_neg z]; omega
theorem vsN_K {σ τ : aM} (h : FrK σ τ) (o : Int) : vsN τ o = vsN σ o := by
  unfold vsN
  rw [h.2 8 o 5 (by decide) (by decide), h.2 8 o 1 (by decide) (by decide), h.2 8 o 9 (by decide) (by decide), h.2 8 o 4 (by decide) (by decide)]
theorem K_26 {σ τ : aM} (h : FrK σ τ) (k : Int) : gI τ 26 0 k = gI σ 26 0 k := h.2 _ _ _ (by decide) (by decide)
theorem PR_rank {μ : aM} {B : Int} (hI : Inv μ B) (w i : Int) : PR B μ (fun σ => ev 99 0 [aR 0 0, aI w, aI i, aU] [] σ) (fun σ => ev 195 0 [aR 25 0, aI w, aI i] [] σ) := by
  obtain ⟨hc, h600, hR, hnum, h601, hph⟩ := Inv_f hI
  by_cases h : 0 ≤ w ∧ w < 2
  · obtain ⟨τ', m, lf, k1, k2, k3, k4⟩ := c_Rk_lineUp μ w B hI.2.1 hR hI.1.2.2.1
    have hS := Sim_25 hI.1 (K_26 k2)
    have hrk := c_Md_ranked i hS.1 hS.2.1 k3
    have hoa := c_Rk_orderAt τ' m i lf (pfB μ w) (by have := k3.1; omega) k4
    refine ⟨lnA m lf i, τ', τ', ?_, ?_, Inv_mono (Inv_K hI k2) (by omega)⟩
    · show ev 99 0 [aR 0 0, aI w, aI i, aU] [] μ = _
      unfold lnA
      by_cases z : 0 ≤ i ∧ i < m
      · have hlf := (k3.2.1 i z.1 z.2).1
        have hn : gI τ' 8 (lf i) 0 = lf i := by rw [k2.2 _ _ _ (by decide) (by decide)]; exact hnum _ (by omega) (by omega)
        rw [if_pos z] at hoa ⊢
        simp (disch := omega) only [e_Ub_rank_0, e_Ub_rank_1, e_Ub_rank_4, e_Ub_rank_7, e_Ub_rank_8, e_Ub_rank_9, e_Ub_rank_12, e_Ub_rank_13, e_Ub_rank_14, e_Ub_rank_17, e_Ub_rank_18, e_Ub_rank_21, e_Ub_rank_22, e_Ub_rank_25, e_Ub_rank_26, e_Ub_rank_29, e_Ub_rank_30, e_Ub_rank_33, e_Ub_rank_34, e_Ub_rank_35, e_Ub_rank_38, e_Ub_rank_39, e_Ub_rank_42, e_Ub_rank_43, e_Ub_rank_46, c_Ub_isSide, evK_i, evK_v, if_pos h, one_ne, not_false_eq_true, if_true, k1, hoa, reduceCtorEq, hn]
      · rw [if_neg z] at hoa ⊢
        simp (disch := omega) only [e_Ub_rank_0, e_Ub_rank_1, e_Ub_rank_4, e_Ub_rank_7, e_Ub_rank_8, e_Ub_rank_9, e_Ub_rank_12, e_Ub_rank_13, e_Ub_rank_14, e_Ub_rank_17, e_Ub_rank_18, e_Ub_rank_21, e_Ub_rank_22, e_Ub_rank_25, e_Ub_rank_26, e_Ub_rank_29, e_Ub_rank_30, e_Ub_rank_33, e_Ub_rank_34, e_Ub_rank_35, e_Ub_rank_38, e_Ub_rank_39, e_Ub_rank_42, e_Ub_rank_43, e_Ub_rank_46, c_Ub_isSide, evK_i, evK_v, if_pos h, one_ne, not_false_eq_true, if_true, k1, hoa, not_true_eq_false, if_false]
    · show ev 195 0 [aR 25 0, aI w, aI i] [] τ' = _
      simp (disch := omega) only [e_Md_rank_0, e_Md_rank_1, e_Md_rank_4, e_Md_rank_7, e_Md_rank_8, e_Md_rank_9, e_Md_rank_10, e_Md_rank_13, e_Md_rank_16, e_Md_rank_17, e_Md_rank_18, e_Md_rank_21, c_Md_isSide, evK_i, if_pos h, one_ne, if_false, hrk]
  · refine PR_rfA (r := -1) hI (by omega) ?_ ?_
    · rw [c_Ub_refuseApart _ _ (by omega)]
      show ev 99 0 [aR 0 0, aI w, aI i, aU] [] μ = _
      simp (disch := omega) only [e_Ub_rank_0, e_Ub_rank_1, e_Ub_rank_4, e_Ub_rank_7, e_Ub_rank_8, e_Ub_rank_9, e_Ub_rank_12, e_Ub_rank_13, e_Ub_rank_14, e_Ub_rank_17, e_Ub_rank_18, e_Ub_rank_21, e_Ub_rank_22, e_Ub_rank_25, e_Ub_rank_26, e_Ub_rank_29, e_Ub_rank_30, e_Ub_rank_33, e_Ub_rank_34, e_Ub_rank_35, e_Ub_rank_38, e_Ub_rank_39, e_Ub_rank_42, e_Ub_rank_43, e_Ub_rank_46, c_Ub_isSide, evK_i, if_neg h, not_true_eq_false, if_false, c_Ub_refuseApart]
    · rw [c_Md_refusedBelow _ _ (by omega)]
      show ev 195 0 [aR 25 0, aI w, aI i] [] (rf4 μ (- -1)) = _
      simp (disch := omega) only [e_Md_rank_0, e_Md_rank_1, e_Md_rank_4, e_Md_rank_7, e_Md_rank_8, e_Md_rank_9, e_Md_rank_10, e_Md_rank_13, e_Md_rank_16, e_Md_rank_17, e_Md_rank_18, e_Md_rank_21, c_Md_isSide, evK_i, if_neg h, if_true, c_Md_refusedBelow]
theorem vaF_at (f v : Int → Int) (o r : Int) : ∀ (n : Nat) (q a : Int), (∀ x, q ≤ x → x < q + n → f x = o → x = r) → f r = o → q ≤ r → r < q + n → vaF f v o n q a = a + suF (fun x => v (f x)) (r - q).toNat q := by
  intro n
  induction n with
  | zero => intro q a _ _ h0 h1; omega
  | succ n ih =>
    intro q a h hr h0 h1
    rw [vaF]
    by_cases z : f q = o
    · have := h q (by omega) (by omega) z
      rw [if_pos z, ← this, Int.sub_self]
      exact (Int.add_zero _).symm
    · have hqr : ¬ q = r := fun y => z (y ▸ hr)
      rw [if_neg z, ih (q + 1) _ (fun x x0 x1 e => h x (by omega) (by omega) e) hr (by omega) (by omega)]
      have e : (r - q).toNat = (r - (q + 1)).toNat + 1 := by omega
      rw [e, suF]
      omega
theorem vaF_no (f v : Int → Int) (o : Int) : ∀ (n : Nat) (q a : Int), (∀ x, q ≤ x → x < q + n → ¬ f x = o) → vaF f v o n q a = -1 := by
  intro n
  induction n with
  | zero => intro q a _; rfl
  | succ n ih =>
    intro q a h
    rw [vaF, if_neg (h q (by omega) (by omega))]
    exact ih _ _ (fun x x0 x1 => h x (by omega) (by omega))
theorem l_Md_ahead {τ σ : aM} {o : Int} (h : RO τ σ (-1)) (hI : IO τ (-1)) (ho : 0 ≤ o ∧ o < gI τ 6 0 2) (h5 : gI τ 8 o 5 = 1) : ∀ (n : Nat) (i a : Int), 0 ≤ i → i + n = gI τ 6 0 2 → (0 ≤ a ∧ a ≤ 999 * i) → ev 197 28 [aR 25 0, aI o, aI a, aI i] [] σ = some (some (aI (a + suF (ahV τ o (vsN τ)) n i)), σ) := by
  have hm := h.1
  have k3 := (RO.p h ho.1 ho.2).1.2.2.1
  intro n
  induction n with
  | zero =>
    intro i a h0 h1 h2
    rw [e_Md_ahead_28]
    simp (disch := omega) only [e_Md_ahead_29, e_Md_ahead_30, e_Md_ahead_33, e_Md_ahead_36, e_Md_ahead_37, e_Md_ahead_89, e_Md_ahead_90, hm.1, if_pos (show gI τ 6 0 2 ≤ i by omega), suF, Int.add_zero]
  | succ n ih =>
    intro i a h0 h1 h2
    have hle : ¬ gI τ 6 0 2 ≤ i := by omega
    have hrk := c_Md_isRanked i (gI τ 8 o 3) h hI h0 (by omega)
    have hvr := vsN_rg hI h0 (show i < gI τ 6 0 2 by omega)
    have hse := c_Md_seen i h h0 (by omega)
    rw [e_Md_ahead_28, suF]
    by_cases z1 : i = o
    · rw [show ahV τ o (vsN τ) i = 0 from if_neg (fun y => y.1 z1), Int.zero_add]
      simp (disch := omega) only [e_Md_ahead_29, e_Md_ahead_30, e_Md_ahead_33, e_Md_ahead_36, e_Md_ahead_37, e_Md_ahead_40, e_Md_ahead_41, e_Md_ahead_42, e_Md_ahead_43, e_Md_ahead_46, e_Md_ahead_47, e_Md_ahead_48, e_Md_ahead_49, e_Md_ahead_52, e_Md_ahead_54, e_Md_ahead_55, e_Md_ahead_56, e_Md_ahead_57, e_Md_ahead_60, e_Md_ahead_63, e_Md_ahead_64, e_Md_ahead_65, e_Md_ahead_66, e_Md_ahead_69, e_Md_ahead_72, e_Md_ahead_73, e_Md_ahead_74, e_Md_ahead_77, e_Md_ahead_80, e_Md_ahead_81, e_Md_ahead_82, e_Md_ahead_83, e_Md_ahead_86, hm.1, if_neg hle, if_pos z1, Int.add_zero, wr_id, ih]
    · by_cases z2 : elK τ (gI τ 8 o 3) i
      · have hah := c_Md_isAheadOf i o (gI τ 8 o 3) h hI ⟨h0, by omega⟩ ho z2.1 ⟨h5, rfl⟩
        rw [if_pos z2] at hrk
        by_cases z3 : AH τ (gI τ 8 o 3) i o
        · rw [if_pos z3] at hah
          rw [show ahV τ o (vsN τ) i = vsN τ i from if_pos ⟨z1, z2, z3⟩, ← Int.add_assoc]
          simp (disch := omega) only [e_Md_ahead_29, e_Md_ahead_30, e_Md_ahead_33, e_Md_ahead_36, e_Md_ahead_37, e_Md_ahead_40, e_Md_ahead_41, e_Md_ahead_42, e_Md_ahead_43, e_Md_ahead_46, e_Md_ahead_47, e_Md_ahead_48, e_Md_ahead_49, e_Md_ahead_52, e_Md_ahead_54, e_Md_ahead_55, e_Md_ahead_56, e_Md_ahead_57, e_Md_ahead_60, e_Md_ahead_63, e_Md_ahead_64, e_Md_ahead_65, e_Md_ahead_66, e_Md_ahead_69, e_Md_ahead_72, e_Md_ahead_73, e_Md_ahead_74, e_Md_ahead_77, e_Md_ahead_80, e_Md_ahead_81, e_Md_ahead_82, e_Md_ahead_83, e_Md_ahead_86, hm.1, if_neg hle, if_neg z1, k3, hrk, hah, hse, evK_i, one_ne, if_false, wr_id, ih]
        · rw [if_neg z3] at hah
          rw [show ahV τ o (vsN τ) i = 0 from if_neg (fun y => z3 y.2.2), Int.zero_add]
          simp (disch := omega) only [e_Md_ahead_29, e_Md_ahead_30, e_Md_ahead_33, e_Md_ahead_36, e_Md_ahead_37, e_Md_ahead_40, e_Md_ahead_41, e_Md_ahead_42, e_Md_ahead_43, e_Md_ahead_46, e_Md_ahead_47, e_Md_ahead_48, e_Md_ahead_49, e_Md_ahead_52, e_Md_ahead_54, e_Md_ahead_55, e_Md_ahead_56, e_Md_ahead_57, e_Md_ahead_60, e_Md_ahead_63, e_Md_ahead_64, e_Md_ahead_65, e_Md_ahead_66, e_Md_ahead_69, e_Md_ahead_72, e_Md_ahead_73, e_Md_ahead_74, e_Md_ahead_77, e_Md_ahead_80, e_Md_ahead_81, e_Md_ahead_82, e_Md_ahead_83, e_Md_ahead_86, hm.1, if_neg hle, if_neg z1, k3, hrk, hah, evK_i, one_ne, if_false, if_true, Int.add_zero, wr_id, ih]
      · rw [if_neg z2] at hrk
        rw [show ahV τ o (vsN τ) i = 0 from if_neg (fun y => z2 y.2.1), Int.zero_add]
        simp (disch := omega) only [e_Md_ahead_29, e_Md_ahead_30, e_Md_ahead_33, e_Md_ahead_36, e_Md_ahead_37, e_Md_ahead_40, e_Md_ahead_41, e_Md_ahead_42, e_Md_ahead_43, e_Md_ahead_46, e_Md_ahead_47, e_Md_ahead_48, e_Md_ahead_49, e_Md_ahead_52, e_Md_ahead_54, e_Md_ahead_55, e_Md_ahead_56, e_Md_ahead_57, e_Md_ahead_60, e_Md_ahead_63, e_Md_ahead_64, e_Md_ahead_65, e_Md_ahead_66, e_Md_ahead_69, e_Md_ahead_72, e_Md_ahead_73, e_Md_ahead_74, e_Md_ahead_77, e_Md_ahead_80, e_Md_ahead_81, e_Md_ahead_82, e_Md_ahead_83, e_Md_ahead_86, hm.1, if_neg hle, if_neg z1, k3, hrk, evK_i, if_true, Int.add_zero, wr_id, ih]
theorem PR_ahead {μ : aM} {B : Int} (hI : Inv μ B) (o : Int) : PR B μ (fun σ => ev 101 0 [aR 0 0, aI o, aU] [] σ) (fun σ => ev 197 0 [aR 25 0, aI o, aU, aU] [] σ) := by
  obtain ⟨hc, h600, hR, hnum, h601, hph⟩ := Inv_f hI
  have hat := c_Bk_orderAt o μ hc.2
  by_cases h : 0 ≤ o ∧ o < gI μ 6 0 2
  · rw [if_pos h] at hat
    obtain ⟨w, hw⟩ : ∃ w, w = gI μ 8 o 3 := ⟨_, rfl⟩
    obtain ⟨τ', m, lf, k1, k2, k3, k4⟩ := c_Rk_lineUp μ w B hI.2.1 hR hI.1.2.2.1
    have hS := Sim_25 hI.1 (K_26 k2)
    have hm : 0 ≤ m ∧ m ≤ 60 := by have := k3.1; omega
    have hva := c_Rk_visibleAhead τ' m o lf (pfB μ w) hm k4 (fun r r0 r1 => by
      rw [vsN_K k2]
      have := (k3.2.1 r r0 r1).1
      exact vsN_rg hI.1.2.1 this.1 this.2)
    have hvv : vsN τ' = vsN μ := funext fun x => vsN_K k2 x
    rw [hvv] at hva
    have hpo := c_Md_priceOf o hS.1 hS.2.1 h.1 h.2
    have hio := c_Md_isOrder τ' o (by rw [K_26 k2]; omega)
    rw [K_26 k2, h600, if_pos h] at hio
    have hin : ∀ a b, 0 ≤ a → a < m → 0 ≤ b → b < m → lf a = lf b → a = b := fun a b a0 a1 b0 b1 e => by
      rcases Int.lt_trichotomy a b with y | y | y
      · have := k3.2.2.2 a b a0 y b1; rw [e] at this; exact absurd this AH_irr
      · exact y
      · have := k3.2.2.2 b a b0 y a1; rw [e] at this; exact absurd this AH_irr
    have hub : ev 101 0 [aR 0 0, aI o, aU] [] μ = some (some (aI (vaF lf (vsN μ) o m.toNat 0 0)), τ') := by
      simp (disch := omega) only [e_Ub_ahead_0, e_Ub_ahead_1, e_Ub_ahead_4, e_Ub_ahead_5, e_Ub_ahead_8, e_Ub_ahead_9, e_Ub_ahead_10, e_Ub_ahead_13, e_Ub_ahead_14, e_Ub_ahead_15, e_Ub_ahead_18, e_Ub_ahead_19, e_Ub_ahead_20, e_Ub_ahead_23, e_Ub_ahead_24, e_Ub_ahead_27, e_Ub_ahead_28, e_Ub_ahead_31, e_Ub_ahead_34, e_Ub_ahead_35, e_Ub_ahead_38, e_Ub_ahead_39, e_Ub_ahead_42, hat, evK_i, evK_v, reduceCtorEq, not_false_eq_true, if_true, ← hw, k1, hva]
    by_cases z : elK μ w o
    · obtain ⟨r, r1, r2⟩ := k3.2.2.1 o h.1 h.2 z
      have hp : ¬ pO μ o = 0 := by
        unfold pO
        rw [if_pos z.1.1, ← hw]
        exact z.2
      have e1 : vaF lf (vsN μ) o m.toNat 0 0 = suF (fun x => vsN μ (lf x)) r.toNat 0 := by
        rw [vaF_at lf (vsN μ) o r m.toNat 0 0 (fun x x0 x1 e => hin x r x0 (by omega) r1.1 r1.2 (e.trans r2.symm)) r2 r1.1 (by omega), Int.zero_add, Int.sub_zero]
      have e2 := Ln_ahV k3 hc.1 r1 (vsN μ)
      rw [r2] at e2
      have hl := l_Md_ahead hS.1 hS.2.1 h z.1.1 (gI μ 6 0 2).toNat 0 0 (by omega) (by omega) (by omega)
      rw [e2, Int.zero_add] at hl
      refine ⟨suF (fun x => vsN μ (lf x)) r.toNat 0, τ', τ', ?_, ?_, Inv_mono (Inv_K hI k2) (by omega)⟩
      · show ev 101 0 [aR 0 0, aI o, aU] [] μ = _
        rw [hub, e1]
      · show ev 197 0 [aR 25 0, aI o, aU, aU] [] τ' = _
        simp (disch := omega) only [e_Md_ahead_0, e_Md_ahead_1, e_Md_ahead_2, e_Md_ahead_5, e_Md_ahead_8, e_Md_ahead_9, e_Md_ahead_10, e_Md_ahead_13, e_Md_ahead_14, e_Md_ahead_15, e_Md_ahead_16, e_Md_ahead_19, e_Md_ahead_22, e_Md_ahead_23, e_Md_ahead_24, e_Md_ahead_25, e_Md_ahead_26, e_Md_ahead_27, hio, evK_i, one_ne, not_false_eq_true, if_true, hpo, if_pos hp, hl]
    · have hp : pO μ o = 0 := by
        unfold pO
        by_cases y : gI μ 8 o 5 = 1
        · rw [if_pos y, ← hw]
          exact Classical.not_not.mp (fun q => z ⟨⟨y, hw.symm⟩, q⟩)
        · rw [if_neg y]
      have e1 : vaF lf (vsN μ) o m.toNat 0 0 = -1 := vaF_no _ _ _ _ _ _ (fun x x0 x1 e => z (e ▸ (k3.2.1 x x0 (by omega)).2))
      refine ⟨-1, τ', τ', ?_, ?_, Inv_mono (Inv_K hI k2) (by omega)⟩
      · show ev 101 0 [aR 0 0, aI o, aU] [] μ = _
        rw [hub, e1]
      · show ev 197 0 [aR 25 0, aI o, aU, aU] [] τ' = _
        simp (disch := omega) only [e_Md_ahead_0, e_Md_ahead_1, e_Md_ahead_2, e_Md_ahead_5, e_Md_ahead_8, e_Md_ahead_9, e_Md_ahead_10, e_Md_ahead_13, e_Md_ahead_14, e_Md_ahead_15, e_Md_ahead_16, e_Md_ahead_19, e_Md_ahead_22, e_Md_ahead_23, hio, evK_i, one_ne, not_false_eq_true, if_true, hpo, hp, not_true_eq_false, if_false]
  · rw [if_neg h] at hat
    refine PR_rfA (r := -1) hI (by omega) ?_ ?_
    · rw [c_Ub_refuseApart _ _ (by omega)]
      show ev 101 0 [aR 0 0, aI o, aU] [] μ = _
      simp (disch := omega) only [e_Ub_ahead_0, e_Ub_ahead_1, e_Ub_ahead_4, e_Ub_ahead_5, e_Ub_ahead_8, e_Ub_ahead_9, e_Ub_ahead_10, e_Ub_ahead_13, e_Ub_ahead_14, e_Ub_ahead_15, e_Ub_ahead_18, e_Ub_ahead_19, e_Ub_ahead_20, e_Ub_ahead_23, e_Ub_ahead_24, e_Ub_ahead_27, e_Ub_ahead_28, e_Ub_ahead_31, e_Ub_ahead_34, e_Ub_ahead_35, e_Ub_ahead_38, e_Ub_ahead_39, e_Ub_ahead_42, hat, evK_i, not_true_eq_false, if_false, c_Ub_refuseApart]
    · rw [c_Md_refusedBelow _ _ (by omega)]
      have hio := c_Md_isOrder (rf4 μ (- -1)) o (by rw [g_rf4 _ _ _ _ _ (by decide)]; omega)
      rw [g_rf4 _ _ _ _ _ (by decide), h600, if_neg h] at hio
      show ev 197 0 [aR 25 0, aI o, aU, aU] [] (rf4 μ (- -1)) = _
      simp (disch := omega) only [e_Md_ahead_0, e_Md_ahead_1, e_Md_ahead_2, e_Md_ahead_5, e_Md_ahead_8, e_Md_ahead_9, e_Md_ahead_10, e_Md_ahead_13, hio, evK_i, not_true_eq_false, if_false, c_Md_refusedBelow]
theorem l_Md_sweep {τ σ : aM} {w m sd qq : Int} {lf : Int → Int} (h : RO τ σ (-1)) (hI : IO τ (-1)) (hL : Ln τ w (gI τ 6 0 2) m lf) (hsd : 1 - sd = w) (hw : 0 ≤ w ∧ w < 2) : ∀ (n : Nat) (i u a : Int) (a7 : AV), 0 ≤ i → i + n = m → (0 ≤ u ∧ u < 1000000) → (0 ≤ a ∧ a ≤ 998001 * i) → ev 198 48 [aR 25 0, aI sd, aI qq, aI u, aI a, aI i, aI (lnA m lf i), a7] [] σ = some (some (aI (coF lf (fun x => gI τ 8 x 4) (pfB τ w) n i u a)), σ) := by
  have hm := h.1
  have h60 := hL.1
  intro n
  induction n with
  | zero =>
    intro i u a a7 h0 h1 h2 h3
    have e : lnA m lf i = -1 := if_neg (by omega)
    rw [e_Md_sweep_48, e, coF]
    by_cases z : 0 < u
    · rw [if_pos z]
      simp (disch := omega) only [e_Md_sweep_50, e_Md_sweep_51, e_Md_sweep_126, e_Md_sweep_127, e_Md_sweep_130, e_Md_sweep_131, e_Md_sweep_134, e_Md_sweep_136, if_true, if_neg (show ¬ u ≤ 0 by omega)]
    · rw [if_neg z]
      simp (disch := omega) only [e_Md_sweep_50, e_Md_sweep_51, e_Md_sweep_126, e_Md_sweep_127, e_Md_sweep_130, e_Md_sweep_131, e_Md_sweep_134, e_Md_sweep_136, if_true, if_pos (show u ≤ 0 by omega)]
  | succ n ih =>
    intro i u a a7 h0 h1 h2 h3
    have e : lnA m lf i = lf i := if_pos (by omega)
    have hr := hL.2.1 i h0 (by omega)
    obtain ⟨ia, ib, ip, idd, is, ir⟩ := IO_p hI hr.1.1 hr.1.2
    have hlf := h.lf hr.1.1 hr.1.2 hr.2.1.1
    have hpo := c_Md_priceOf (lf i) h hI hr.1.1 hr.1.2
    have hpr := pO_rg hI hr.1.1 hr.1.2
    have epo : pO τ (lf i) = pfB τ w (lf i) := by
      unfold pO
      rw [if_pos hr.2.1.1, hr.2.1.2]
    rw [epo] at hpo hpr
    have hrk := c_Md_ranked (i + 1) h hI hL
    rw [e_Md_sweep_48, e, coF]
    by_cases z : u ≤ 0
    · rw [if_pos z]
      simp (disch := omega) only [e_Md_sweep_50, e_Md_sweep_51, e_Md_sweep_54, e_Md_sweep_55, e_Md_sweep_126, e_Md_sweep_127, e_Md_sweep_130, e_Md_sweep_131, e_Md_sweep_134, e_Md_sweep_136, if_neg (show ¬ lf i = -1 by omega), if_pos z]
    · rw [if_neg z]
      obtain ⟨q, hq⟩ : ∃ q, q = mnI u (gI τ 8 (lf i) 4) := ⟨_, rfl⟩
      rw [← hq]
      have hq2 : (0 ≤ q ∧ q ≤ 999) ∧ q ≤ u := by
        rw [hq]
        unfold mnI
        split <;> omega
      have hm1 : 0 ≤ q * pfB τ w (lf i) := Int.mul_nonneg hq2.1.1 hpr.1
      have hm2 : q * pfB τ w (lf i) ≤ 998001 := by
        have := Int.mul_le_mul hq2.1.2 hpr.2 hpr.1 (by omega : (0 : Int) ≤ 999)
        omega
      have ih' := fun a7 => ih (i + 1) (u - q) (a + q * pfB τ w (lf i)) a7 (by omega) (by omega) (by omega) (by omega)
      by_cases y : gI τ 8 (lf i) 4 ≤ u
      · have q1 : gI τ 8 (lf i) 4 = q := by
          rw [hq]
          unfold mnI
          split <;> omega
        simp (disch := omega) only [e_Md_sweep_50, e_Md_sweep_51, e_Md_sweep_54, e_Md_sweep_55, e_Md_sweep_58, e_Md_sweep_59, e_Md_sweep_60, e_Md_sweep_63, e_Md_sweep_66, e_Md_sweep_68, e_Md_sweep_69, e_Md_sweep_70, e_Md_sweep_73, e_Md_sweep_74, e_Md_sweep_77, e_Md_sweep_78, e_Md_sweep_81, e_Md_sweep_84, e_Md_sweep_86, e_Md_sweep_87, e_Md_sweep_88, e_Md_sweep_90, e_Md_sweep_91, e_Md_sweep_93, e_Md_sweep_94, e_Md_sweep_95, e_Md_sweep_97, e_Md_sweep_99, e_Md_sweep_100, e_Md_sweep_102, e_Md_sweep_105, e_Md_sweep_106, e_Md_sweep_107, e_Md_sweep_109, e_Md_sweep_112, e_Md_sweep_113, e_Md_sweep_114, e_Md_sweep_115, e_Md_sweep_116, e_Md_sweep_118, e_Md_sweep_121, e_Md_sweep_123, if_neg (show ¬ lf i = -1 by omega), if_neg z, wr_id, hlf, q1, if_pos hq2.2, hpo, evK_i, hsd, hrk, ih']
      · have q1 : u = q := by
          rw [hq]
          unfold mnI
          split <;> omega
        have ih2 := ih'
        rw [← q1] at ih2 hm1 hm2 ⊢
        simp (disch := omega) only [e_Md_sweep_50, e_Md_sweep_51, e_Md_sweep_54, e_Md_sweep_55, e_Md_sweep_58, e_Md_sweep_59, e_Md_sweep_60, e_Md_sweep_63, e_Md_sweep_66, e_Md_sweep_68, e_Md_sweep_69, e_Md_sweep_70, e_Md_sweep_73, e_Md_sweep_74, e_Md_sweep_77, e_Md_sweep_78, e_Md_sweep_81, e_Md_sweep_84, e_Md_sweep_86, e_Md_sweep_87, e_Md_sweep_88, e_Md_sweep_90, e_Md_sweep_91, e_Md_sweep_93, e_Md_sweep_94, e_Md_sweep_95, e_Md_sweep_97, e_Md_sweep_99, e_Md_sweep_100, e_Md_sweep_102, e_Md_sweep_105, e_Md_sweep_106, e_Md_sweep_107, e_Md_sweep_109, e_Md_sweep_112, e_Md_sweep_113, e_Md_sweep_114, e_Md_sweep_115, e_Md_sweep_116, e_Md_sweep_118, e_Md_sweep_121, e_Md_sweep_123, if_neg (show ¬ lf i = -1 by omega), if_neg z, wr_id, hlf, if_neg y, hpo, evK_i, hsd, hrk, ih2]
theorem coF_cg {f le le' pr : Int → Int} (h : ∀ x, le x = le' x) : ∀ (n : Nat) (i u a : Int), coF f le pr n i u a = coF f le' pr n i u a := by
  intro n
  induction n with
  | zero => intro i u a; rfl
  | succ n ih => intro i u a; rw [coF, coF, h, ih]
theorem PR_sweep {μ : aM} {B : Int} (hI : Inv μ B) (sd q : Int) : PR B μ (fun σ => ev 102 0 [aR 0 0, aI sd, aI q] [] σ) (fun σ => ev 198 0 [aR 25 0, aI sd, aI q, aU, aU, aU, aU, aU] [] σ) := by
  obtain ⟨hc, h600, hR, hnum, h601, hph⟩ := Inv_f hI
  by_cases h : 0 ≤ sd ∧ sd < 2
  · by_cases hq : 1 ≤ q ∧ q ≤ 99999
    · obtain ⟨w, hw⟩ : ∃ w, w = (if sd = 0 then (1 : Int) else 0) := ⟨_, rfl⟩
      have hw2 : 1 - sd = w ∧ (0 ≤ w ∧ w < 2) := by rw [hw]; split <;> omega
      have hos := c_Ub_otherSide sd μ
      rw [← hw] at hos
      obtain ⟨τ', m, lf, k1, k2, k3, k4⟩ := c_Rk_lineUp μ w B hI.2.1 hR hI.1.2.2.1
      have hS := Sim_25 hI.1 (K_26 k2)
      have hm : 0 ≤ m ∧ m ≤ 60 := by have := k3.1; omega
      have hco := c_Rk_costOf τ' m q lf (pfB μ w) hm k4 (by omega) (fun r r0 r1 => by
        have hr := k3.2.1 r r0 r1
        have hp := pO_rg hI.1.2.1 hr.1.1 hr.1.2
        have epo : pO μ (lf r) = pfB μ w (lf r) := by
          unfold pO
          rw [if_pos hr.2.1.1, hr.2.1.2]
        rw [epo] at hp
        rw [k2.2 _ _ _ (by decide) (by decide)]
        exact ⟨(IO_p hI.1.2.1 hr.1.1 hr.1.2).2.1.1, hp⟩)
      rw [coF_cg (fun x => k2.2 8 x 4 (by decide) (by decide))] at hco
      have hl := fun a7 => l_Md_sweep (sd := sd) (qq := q) hS.1 hS.2.1 k3 hw2.1 hw2.2 m.toNat 0 q 0 a7 (by omega) (by omega) (by omega) (by omega)
      have hrk := c_Md_ranked 0 hS.1 hS.2.1 k3
      have hin := c_Md_in q 1 99999 τ'
      rw [if_pos hq] at hin
      refine ⟨coF lf (fun x => gI μ 8 x 4) (pfB μ w) m.toNat 0 q 0, τ', τ', ?_, ?_, Inv_mono (Inv_K hI k2) (by omega)⟩
      · show ev 102 0 [aR 0 0, aI sd, aI q] [] μ = _
        simp (disch := omega) only [e_Ub_sweep_0, e_Ub_sweep_1, e_Ub_sweep_4, e_Ub_sweep_7, e_Ub_sweep_8, e_Ub_sweep_9, e_Ub_sweep_12, e_Ub_sweep_13, e_Ub_sweep_14, e_Ub_sweep_15, e_Ub_sweep_18, e_Ub_sweep_19, e_Ub_sweep_21, e_Ub_sweep_24, e_Ub_sweep_25, e_Ub_sweep_27, e_Ub_sweep_30, e_Ub_sweep_31, e_Ub_sweep_32, e_Ub_sweep_35, e_Ub_sweep_36, e_Ub_sweep_39, e_Ub_sweep_40, e_Ub_sweep_43, e_Ub_sweep_46, e_Ub_sweep_47, e_Ub_sweep_50, e_Ub_sweep_51, e_Ub_sweep_54, c_Ub_isSide, evK_i, evK_v, if_pos h, one_ne, not_false_eq_true, if_true, if_neg (show ¬ q < 1 by omega), if_pos hq.2, hos, k1, hco]
      · show ev 198 0 [aR 25 0, aI sd, aI q, aU, aU, aU, aU, aU] [] τ' = _
        simp (disch := omega) only [e_Md_sweep_0, e_Md_sweep_1, e_Md_sweep_4, e_Md_sweep_7, e_Md_sweep_8, e_Md_sweep_9, e_Md_sweep_12, e_Md_sweep_13, e_Md_sweep_14, e_Md_sweep_15, e_Md_sweep_17, e_Md_sweep_20, e_Md_sweep_23, e_Md_sweep_24, e_Md_sweep_26, e_Md_sweep_29, e_Md_sweep_30, e_Md_sweep_31, e_Md_sweep_32, e_Md_sweep_33, e_Md_sweep_35, e_Md_sweep_36, e_Md_sweep_38, e_Md_sweep_39, e_Md_sweep_40, e_Md_sweep_41, e_Md_sweep_42, e_Md_sweep_43, e_Md_sweep_46, c_Md_isSide, evK_i, if_pos h, one_ne, not_false_eq_true, if_true, hin, wr_id, hw2.1, hrk, hl]
    · refine PR_rfA (r := -6) hI (by omega) ?_ ?_
      · rw [c_Ub_refuseApart _ _ (by omega)]
        show ev 102 0 [aR 0 0, aI sd, aI q] [] μ = _
        by_cases z : q < 1
        · simp (disch := omega) only [e_Ub_sweep_0, e_Ub_sweep_1, e_Ub_sweep_4, e_Ub_sweep_7, e_Ub_sweep_8, e_Ub_sweep_9, e_Ub_sweep_12, e_Ub_sweep_13, e_Ub_sweep_14, e_Ub_sweep_15, e_Ub_sweep_18, e_Ub_sweep_19, e_Ub_sweep_21, e_Ub_sweep_24, e_Ub_sweep_25, e_Ub_sweep_27, e_Ub_sweep_30, e_Ub_sweep_31, e_Ub_sweep_32, e_Ub_sweep_35, e_Ub_sweep_36, e_Ub_sweep_39, e_Ub_sweep_40, e_Ub_sweep_43, e_Ub_sweep_46, e_Ub_sweep_47, e_Ub_sweep_50, e_Ub_sweep_51, e_Ub_sweep_54, c_Ub_isSide, evK_i, if_pos h, one_ne, not_false_eq_true, if_true, if_pos z, c_Ub_refuseApart]
        · simp (disch := omega) only [e_Ub_sweep_0, e_Ub_sweep_1, e_Ub_sweep_4, e_Ub_sweep_7, e_Ub_sweep_8, e_Ub_sweep_9, e_Ub_sweep_12, e_Ub_sweep_13, e_Ub_sweep_14, e_Ub_sweep_15, e_Ub_sweep_18, e_Ub_sweep_19, e_Ub_sweep_21, e_Ub_sweep_24, e_Ub_sweep_25, e_Ub_sweep_27, e_Ub_sweep_30, e_Ub_sweep_31, e_Ub_sweep_32, e_Ub_sweep_35, e_Ub_sweep_36, e_Ub_sweep_39, e_Ub_sweep_40, e_Ub_sweep_43, e_Ub_sweep_46, e_Ub_sweep_47, e_Ub_sweep_50, e_Ub_sweep_51, e_Ub_sweep_54, c_Ub_isSide, evK_i, if_pos h, one_ne, not_false_eq_true, if_true, if_neg z, if_neg (show ¬ q ≤ 99999 by omega), c_Ub_refuseApart]
      · rw [c_Md_refusedBelow _ _ (by omega)]
        have hin := c_Md_in q 1 99999 (rf4 μ (- -6))
        rw [if_neg hq] at hin
        show ev 198 0 [aR 25 0, aI sd, aI q, aU, aU, aU, aU, aU] [] (rf4 μ (- -6)) = _
        simp (disch := omega) only [e_Md_sweep_0, e_Md_sweep_1, e_Md_sweep_4, e_Md_sweep_7, e_Md_sweep_8, e_Md_sweep_9, e_Md_sweep_12, e_Md_sweep_13, e_Md_sweep_14, e_Md_sweep_15, e_Md_sweep_17, e_Md_sweep_20, e_Md_sweep_23, e_Md_sweep_24, e_Md_sweep_26, e_Md_sweep_29, c_Md_isSide, evK_i, if_pos h, one_ne, not_false_eq_true, if_true, hin, not_true_eq_false, if_false, c_Md_refusedBelow]
  · refine PR_rfA (r := -1) hI (by omega) ?_ ?_
    · rw [c_Ub_refuseApart _ _ (by omega)]
      show ev 102 0 [aR 0 0, aI sd, aI q] [] μ = _
      simp (disch := omega) only [e_Ub_sweep_0, e_Ub_sweep_1, e_Ub_sweep_4, e_Ub_sweep_7, e_Ub_sweep_8, e_Ub_sweep_9, e_Ub_sweep_12, e_Ub_sweep_13, e_Ub_sweep_14, e_Ub_sweep_15, e_Ub_sweep_18, e_Ub_sweep_19, e_Ub_sweep_21, e_Ub_sweep_24, e_Ub_sweep_25, e_Ub_sweep_27, e_Ub_sweep_30, e_Ub_sweep_31, e_Ub_sweep_32, e_Ub_sweep_35, e_Ub_sweep_36, e_Ub_sweep_39, e_Ub_sweep_40, e_Ub_sweep_43, e_Ub_sweep_46, e_Ub_sweep_47, e_Ub_sweep_50, e_Ub_sweep_51, e_Ub_sweep_54, c_Ub_isSide, evK_i, if_neg h, not_true_eq_false, if_false, c_Ub_refuseApart]
    · rw [c_Md_refusedBelow _ _ (by omega)]
      show ev 198 0 [aR 25 0, aI sd, aI q, aU, aU, aU, aU, aU] [] (rf4 μ (- -1)) = _
      simp (disch := omega) only [e_Md_sweep_0, e_Md_sweep_1, e_Md_sweep_4, e_Md_sweep_7, e_Md_sweep_8, e_Md_sweep_9, e_Md_sweep_12, e_Md_sweep_13, e_Md_sweep_14, e_Md_sweep_15, e_Md_sweep_17, e_Md_sweep_20, e_Md_sweep_23, e_Md_sweep_24, e_Md_sweep_26, e_Md_sweep_29, c_Md_isSide, evK_i, if_neg h, not_true_eq_false, if_false, c_Md_refusedBelow]
