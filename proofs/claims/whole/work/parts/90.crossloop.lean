/-! the auction's loop over trades, on both sides -/
def FrZ (σ τ : aM) : Prop := τ.2 = σ.2 ∧ ∀ t i j, ¬ (t = 26 ∨ t = 33 ∨ (t = 25 ∧ 9 ≤ j ∧ j ≤ 14)) → gI τ t i j = gI σ t i j
theorem FrZ.rfl (σ : aM) : FrZ σ σ := ⟨Eq.refl _, fun _ _ _ _ => Eq.refl _⟩
theorem FrZ.trans {a b c : aM} (h1 : FrZ a b) (h2 : FrZ b c) : FrZ a c := ⟨h2.1.trans h1.1, fun t i j h => (h2.2 t i j h).trans (h1.2 t i j h)⟩
theorem FrZ.u {σ τ : aM} (h : FrZ σ τ) {t : Nat} (i j v : Int) (ht : t = 26 ∨ t = 33) : FrZ σ (uI τ t i j v) := ⟨h.1, fun t' i' j' h1 => by
  rw [gI_uI, if_neg (fun q => by omega)]
  exact h.2 t' i' j' h1⟩
theorem FrM.zz {σ τ : aM} (h : FrM σ τ) : FrZ σ τ := ⟨h.1, fun t i j z => h.2 t i j (by omega)⟩
def fr9 (τ : aM) (o : Int) : Int := if gI τ 8 o 8 < gI τ 8 o 4 then gI τ 8 o 8 else gI τ 8 o 4
/-- what is seen: noted, or to be told anew at the end -/
def Qs (τ σ : aM) : Prop := ∀ o, 0 ≤ o → o < gI τ 6 0 2 → gI τ 8 o 5 = 1 → gI τ 8 o 1 = 2 → (gI σ 33 0 o = 1 ∧ gI τ 8 o 9 = fr9 τ o) ∨ (gI σ 33 0 o = 0 ∧ gI σ 26 0 (420 + o) = gI τ 8 o 9)
theorem tr_k (M : aM) (a b q r C D x z p s : Int) (oa : 0 ≤ a ∧ a < 8) (ob : 0 ≤ b ∧ b < 8) (h6 : 0 ≤ gI M 26 0 606) (k : Int) (hk : k ≤ 600) : gI (mNt (mPy (mPy M a q C) b r D) x z p s) 26 0 k = gI M 26 0 k := by
  have py : ∀ k, ¬ (607 ≤ k ∧ k < 623) → gI (mPy (mPy M a q C) b r D) 26 0 k = gI M 26 0 k := fun k hk => by
    rw [g_mPy _ _ _ _ _ ob, if_neg (by omega), if_neg (by omega), g_mPy _ _ _ _ _ oa, if_neg (by omega), if_neg (by omega)]
  rw [← py k (by omega)]
  rcases g_mNt (mPy (mPy M a q C) b r D) x z p s k (by omega) (by omega) (by omega) with y | y
  · exact y
  · rw [py _ (by omega)] at y; omega
theorem t_crosses1 {τ σ : aM} {vol u p x z q : Int} {a4 a5 a6 : AV} (h : R1 τ σ (-1)) (hI : IO τ (-1)) (hD : DT τ) (hx : frs τ 0 = some x) (hz : frs τ 1 = some z) (hqe : opQ τ u x z = q) (hu : ¬ u ≤ 0) :
    ev 185 26 [aR 25 0, aI p, aI vol, aI u, a4, a5, a6] [] σ = ev 185 112 [aR 25 0, aI p, aI vol, aI u, aI x, aI z, aI q] [] σ := by
  have hc6 := h.1.2
  have hxi := frs_in hc6.1 hx
  have hzi := frs_in hc6.1 hz
  have f1 := c1_Md_firstOf 0 1 h hI hD (Or.inr rfl)
  have f2 := c1_Md_firstOf 1 1 h hI hD (Or.inr rfl)
  rw [hx] at f1
  rw [hz] at f2
  have f1 : ev 147 0 [aR 25 0, aI 0, aI 1, aU, aU, aU] [] σ = some (some (aI x), σ) := f1
  have f2 : ev 147 0 [aR 25 0, aI 1, aI 1, aU, aU, aU] [] σ = some (some (aI z), σ) := f2
  have l1 : gI σ 26 0 (180 + x) = gI τ 8 x 4 := ((h.2 x hxi.1 hxi.2.1).2.1 (by omega)).1
  have l2 : gI σ 26 0 (180 + z) = gI τ 8 z 4 := ((h.2 z hzi.1 hzi.2.1).2.1 (by omega)).1
  rw [e_Md_crosses_26]
  unfold opQ at hqe
  by_cases y1 : gI τ 8 z 4 < gI τ 8 x 4
  · rw [if_pos y1] at hqe
    by_cases y2 : gI τ 8 z 4 < u
    · rw [if_pos y2] at hqe
      subst hqe
      simp (disch := omega) only [e_Md_crosses_27, e_Md_crosses_30, e_Md_crosses_31, e_Md_crosses_32, e_Md_crosses_33, e_Md_crosses_36, e_Md_crosses_38, e_Md_crosses_39, e_Md_crosses_40, e_Md_crosses_41, e_Md_crosses_44, e_Md_crosses_46, e_Md_crosses_47, e_Md_crosses_50, e_Md_crosses_53, e_Md_crosses_55, e_Md_crosses_56, e_Md_crosses_57, e_Md_crosses_58, e_Md_crosses_61, e_Md_crosses_64, e_Md_crosses_66, e_Md_crosses_67, e_Md_crosses_68, e_Md_crosses_71, e_Md_crosses_72, e_Md_crosses_75, e_Md_crosses_78, e_Md_crosses_80, e_Md_crosses_81, e_Md_crosses_82, e_Md_crosses_85, e_Md_crosses_86, e_Md_crosses_89, e_Md_crosses_92, e_Md_crosses_94, e_Md_crosses_95, e_Md_crosses_96, e_Md_crosses_98, e_Md_crosses_99, e_Md_crosses_101, e_Md_crosses_104, e_Md_crosses_105, e_Md_crosses_108, e_Md_crosses_110, if_neg hu, f1, f2, evK_i, wr_id, l1, l2, if_pos (show gI τ 8 z 4 ≤ gI τ 8 x 4 by omega), if_pos (show gI τ 8 z 4 ≤ u by omega)]
    · rw [if_neg y2] at hqe
      subst hqe
      by_cases y3 : gI τ 8 z 4 = u
      · simp (disch := omega) only [e_Md_crosses_27, e_Md_crosses_30, e_Md_crosses_31, e_Md_crosses_32, e_Md_crosses_33, e_Md_crosses_36, e_Md_crosses_38, e_Md_crosses_39, e_Md_crosses_40, e_Md_crosses_41, e_Md_crosses_44, e_Md_crosses_46, e_Md_crosses_47, e_Md_crosses_50, e_Md_crosses_53, e_Md_crosses_55, e_Md_crosses_56, e_Md_crosses_57, e_Md_crosses_58, e_Md_crosses_61, e_Md_crosses_64, e_Md_crosses_66, e_Md_crosses_67, e_Md_crosses_68, e_Md_crosses_71, e_Md_crosses_72, e_Md_crosses_75, e_Md_crosses_78, e_Md_crosses_80, e_Md_crosses_81, e_Md_crosses_82, e_Md_crosses_85, e_Md_crosses_86, e_Md_crosses_89, e_Md_crosses_92, e_Md_crosses_94, e_Md_crosses_95, e_Md_crosses_96, e_Md_crosses_98, e_Md_crosses_99, e_Md_crosses_101, e_Md_crosses_104, e_Md_crosses_105, e_Md_crosses_108, e_Md_crosses_110, if_neg hu, f1, f2, evK_i, wr_id, l1, l2, if_pos (show gI τ 8 z 4 ≤ gI τ 8 x 4 by omega), if_pos (show gI τ 8 z 4 ≤ u by omega)]
        rw [y3]
      · simp (disch := omega) only [e_Md_crosses_27, e_Md_crosses_30, e_Md_crosses_31, e_Md_crosses_32, e_Md_crosses_33, e_Md_crosses_36, e_Md_crosses_38, e_Md_crosses_39, e_Md_crosses_40, e_Md_crosses_41, e_Md_crosses_44, e_Md_crosses_46, e_Md_crosses_47, e_Md_crosses_50, e_Md_crosses_53, e_Md_crosses_55, e_Md_crosses_56, e_Md_crosses_57, e_Md_crosses_58, e_Md_crosses_61, e_Md_crosses_64, e_Md_crosses_66, e_Md_crosses_67, e_Md_crosses_68, e_Md_crosses_71, e_Md_crosses_72, e_Md_crosses_75, e_Md_crosses_78, e_Md_crosses_80, e_Md_crosses_81, e_Md_crosses_82, e_Md_crosses_85, e_Md_crosses_86, e_Md_crosses_89, e_Md_crosses_92, e_Md_crosses_94, e_Md_crosses_95, e_Md_crosses_96, e_Md_crosses_98, e_Md_crosses_99, e_Md_crosses_101, e_Md_crosses_104, e_Md_crosses_105, e_Md_crosses_108, e_Md_crosses_110, if_neg hu, f1, f2, evK_i, wr_id, l1, l2, if_pos (show gI τ 8 z 4 ≤ gI τ 8 x 4 by omega), if_neg (show ¬ gI τ 8 z 4 ≤ u by omega)]
  · rw [if_neg y1] at hqe
    have e : ev 185 26 [aR 25 0, aI p, aI vol, aI u, a4, a5, a6] [] σ = ev 185 98 [aR 25 0, aI p, aI vol, aI u, aI x, aI z, aI (gI τ 8 x 4)] [] σ := by
      rw [e_Md_crosses_26]
      by_cases y0 : gI τ 8 z 4 ≤ gI τ 8 x 4
      · simp (disch := omega) only [e_Md_crosses_27, e_Md_crosses_30, e_Md_crosses_31, e_Md_crosses_32, e_Md_crosses_33, e_Md_crosses_36, e_Md_crosses_38, e_Md_crosses_39, e_Md_crosses_40, e_Md_crosses_41, e_Md_crosses_44, e_Md_crosses_46, e_Md_crosses_47, e_Md_crosses_50, e_Md_crosses_53, e_Md_crosses_55, e_Md_crosses_56, e_Md_crosses_57, e_Md_crosses_58, e_Md_crosses_61, e_Md_crosses_64, e_Md_crosses_66, e_Md_crosses_67, e_Md_crosses_68, e_Md_crosses_71, e_Md_crosses_72, e_Md_crosses_75, e_Md_crosses_78, e_Md_crosses_80, e_Md_crosses_81, e_Md_crosses_82, e_Md_crosses_85, e_Md_crosses_86, e_Md_crosses_89, e_Md_crosses_92, e_Md_crosses_94, e_Md_crosses_95, e_Md_crosses_96, if_neg hu, f1, f2, evK_i, wr_id, l1, l2, if_pos y0]
        rw [show gI τ 8 z 4 = gI τ 8 x 4 by omega]
      · simp (disch := omega) only [e_Md_crosses_27, e_Md_crosses_30, e_Md_crosses_31, e_Md_crosses_32, e_Md_crosses_33, e_Md_crosses_36, e_Md_crosses_38, e_Md_crosses_39, e_Md_crosses_40, e_Md_crosses_41, e_Md_crosses_44, e_Md_crosses_46, e_Md_crosses_47, e_Md_crosses_50, e_Md_crosses_53, e_Md_crosses_55, e_Md_crosses_56, e_Md_crosses_57, e_Md_crosses_58, e_Md_crosses_61, e_Md_crosses_64, e_Md_crosses_66, e_Md_crosses_67, e_Md_crosses_68, e_Md_crosses_71, e_Md_crosses_72, e_Md_crosses_75, e_Md_crosses_78, e_Md_crosses_80, e_Md_crosses_81, e_Md_crosses_82, e_Md_crosses_85, e_Md_crosses_86, e_Md_crosses_89, e_Md_crosses_92, e_Md_crosses_94, e_Md_crosses_95, e_Md_crosses_96, if_neg hu, f1, f2, evK_i, wr_id, l1, l2, if_neg y0]
    rw [e_Md_crosses_26] at e
    rw [e]
    by_cases y2 : gI τ 8 x 4 < u
    · rw [if_pos y2] at hqe
      subst hqe
      simp (disch := omega) only [e_Md_crosses_98, e_Md_crosses_99, e_Md_crosses_101, e_Md_crosses_104, e_Md_crosses_105, e_Md_crosses_108, e_Md_crosses_110, if_pos (show gI τ 8 x 4 ≤ u by omega)]
    · rw [if_neg y2] at hqe
      subst hqe
      by_cases y3 : gI τ 8 x 4 = u
      · simp (disch := omega) only [e_Md_crosses_98, e_Md_crosses_99, e_Md_crosses_101, e_Md_crosses_104, e_Md_crosses_105, e_Md_crosses_108, e_Md_crosses_110, if_pos (show gI τ 8 x 4 ≤ u by omega)]
        rw [y3]
      · simp (disch := omega) only [e_Md_crosses_98, e_Md_crosses_99, e_Md_crosses_101, e_Md_crosses_104, e_Md_crosses_105, e_Md_crosses_108, e_Md_crosses_110, if_neg (show ¬ gI τ 8 x 4 ≤ u by omega)]
theorem t_crosses2 (σ : aM) (vol u p x z q a b : Int) (hx : 0 ≤ x ∧ x < 60) (hz : 0 ≤ z ∧ z < 60) (hu : 1 ≤ u ∧ u ≤ 60000) (hq : 1 ≤ q ∧ q ≤ 999 ∧ q ≤ u) (ha : gI (mX σ x z q) 26 0 (60 + x) = a) (hb : gI (mX σ x z q) 26 0 (60 + z) = b) (oa : 0 ≤ a ∧ a < 8) (ob : 0 ≤ b ∧ b < 8) (h6 : 0 ≤ gI (mX σ x z q) 26 0 606) :
    ev 185 112 [aR 25 0, aI p, aI vol, aI u, aI x, aI z, aI q] [] σ = ev 185 26 [aR 25 0, aI p, aI vol, aI (u - q), aI x, aI z, aI q] [] (mNt (mPy (mPy (mX σ x z q) a q (wr (-q * p))) b (-q) (wr (q * p))) x z p q) := by
  have eX : mLo2 (mLo1 (mLo2 (mLo1 (uI (uI σ 33 0 x 1) 33 0 z 1) x q) x) z q) z = mX σ x z q := rfl
  have eb : gI (mPy (mX σ x z q) a q (wr (-q * p))) 26 0 (60 + z) = b := by
    rw [g_mPy _ _ _ _ _ oa, if_neg (by omega), if_neg (by omega)]; exact hb
  have hn := c_Md_notes x z p q (mPy (mPy (mX σ x z q) a q (wr (-q * p))) b (-q) (wr (q * p))) (by
    rw [g_mPy _ _ _ _ _ ob, if_neg (by omega), if_neg (by omega), g_mPy _ _ _ _ _ oa, if_neg (by omega), if_neg (by omega)]; exact h6)
  simp (disch := omega) only [e_Md_crosses_112, e_Md_crosses_113, e_Md_crosses_115, e_Md_crosses_116, e_Md_crosses_117, e_Md_crosses_118, e_Md_crosses_121, e_Md_crosses_123, e_Md_crosses_124, e_Md_crosses_125, e_Md_crosses_126, e_Md_crosses_129, e_Md_crosses_131, e_Md_crosses_132, e_Md_crosses_133, e_Md_crosses_134, e_Md_crosses_136, e_Md_crosses_138, e_Md_crosses_141, e_Md_crosses_142, e_Md_crosses_144, e_Md_crosses_146, e_Md_crosses_149, e_Md_crosses_150, e_Md_crosses_151, e_Md_crosses_154, e_Md_crosses_156, e_Md_crosses_158, e_Md_crosses_159, e_Md_crosses_160, e_Md_crosses_162, e_Md_crosses_164, e_Md_crosses_165, e_Md_crosses_166, e_Md_crosses_167, e_Md_crosses_170, e_Md_crosses_171, e_Md_crosses_172, e_Md_crosses_175, e_Md_crosses_177, e_Md_crosses_179, e_Md_crosses_180, e_Md_crosses_181, e_Md_crosses_183, e_Md_crosses_184, e_Md_crosses_186, e_Md_crosses_187, e_Md_crosses_188, e_Md_crosses_191, e_Md_crosses_192, e_Md_crosses_194, e_Md_crosses_196, e_Md_crosses_197, e_Md_crosses_199, e_Md_crosses_202, wr_id, c_Md_crossed, evK_v, eX, ha, c_Md_pays, eb, hn]
theorem l_crosses {p vol : Int} (hp : 1 ≤ p ∧ p ≤ 999) : ∀ (n : Nat) (τ σ : aM) (u B : Int) (a4 a5 a6 : AV), Sim τ (pt τ σ) (-1) B → Qs τ σ → u ≤ bV τ p → u ≤ sV τ p → u ≤ 60000 → (u ≤ 0 ∨ cnI τ 1 ≤ n) → B + n < 2147483647 →
    ∃ σ' u' a4' a5' a6', ev 185 26 [aR 25 0, aI p, aI vol, aI u, a4, a5, a6] [] σ = ev 185 205 [aR 25 0, aI p, aI vol, aI u', a4', a5', a6'] [] σ' ∧ Sim (kOp n τ u p) (pt (kOp n τ u p) σ') (-1) (B + n) ∧ Qs (kOp n τ u p) σ' ∧ FrZ σ σ' := by
  intro n
  induction n with
  | zero =>
    intro τ σ u B a4 a5 a6 hS hQ hb hs hu6 hn hB
    have hc6 := hS.1.1.2
    by_cases hu : u ≤ 0
    · refine ⟨σ, u, a4, a5, a6, ?_, Sim_mono hS (by omega), hQ, FrZ.rfl σ⟩
      rw [e_Md_crosses_26]
      simp (disch := omega) only [e_Md_crosses_27, if_pos hu]
    · obtain ⟨x, hx, _⟩ := first_buy (p := p) hS.2.1 hS.2.2.1 hc6.1 (by omega)
      have hxi := frs_in hc6.1 hx
      have := cnF_pos x hxi.2.2.1 (gI τ 6 0 2).toNat 0 hxi.1 (by omega)
      unfold cnI at hn
      omega
  | succ n ih =>
    intro τ σ u B a4 a5 a6 hS hQ hb hs hu6 hn hB
    have hc6 := hS.1.1.2
    by_cases hu : u ≤ 0
    · rw [kOp, if_pos hu]
      refine ⟨σ, u, a4, a5, a6, ?_, Sim_mono hS (by omega), hQ, FrZ.rfl σ⟩
      rw [e_Md_crosses_26]
      simp (disch := omega) only [e_Md_crosses_27, if_pos hu]
    · obtain ⟨x, hx, hpx⟩ := first_buy (p := p) hS.2.1 hS.2.2.1 hc6.1 (by omega)
      obtain ⟨z, hz, hpz⟩ := first_sell (p := p) hS.2.1 hS.2.2.1 hc6.1 (by omega)
      have hxi := frs_in hc6.1 hx
      have hzi := frs_in hc6.1 hz
      have hxz : ¬ x = z := fun y => by rw [y] at hxi; omega
      obtain ⟨q, hqe⟩ : ∃ q, opQ τ u x z = q := ⟨_, rfl⟩
      have ix := IO_p hS.2.1 hxi.1 hxi.2.1
      have iz := IO_p hS.2.1 hzi.1 hzi.2.1
      have lx := ix.2.2.2.2.2 hxi.2.2.1
      have lz := iz.2.2.2.2.2 hzi.2.2.1
      have lx9 := ix.2.1.1.2
      have lz9 := iz.2.1.1.2
      have hq : 1 ≤ q ∧ q ≤ gI τ 8 x 4 ∧ q ≤ gI τ 8 z 4 ∧ q ≤ u := by
        rw [← hqe]
        unfold opQ
        split <;> split <;> omega
      have hR := R1_pt hS.1
      have e0 := t_crosses1 (vol := vol) (p := p) (a4 := a4) (a5 := a5) (a6 := a6) hR hS.2.1 hS.2.2.1 hx hz hqe hu
      have sx : gI σ 26 0 (180 + x) = gI τ 8 x 4 := ((hR.2 x hxi.1 hxi.2.1).2.1 (by omega)).1
      have sz : gI σ 26 0 (180 + z) = gI τ 8 z 4 := ((hR.2 z hzi.1 hzi.2.1).2.1 (by omega)).1
      obtain ⟨M0, M1, M2⟩ := mX_eff σ x z q (by omega) (by omega) hxz (by omega) (by omega) (by omega)
      have h606 : gI (mX σ x z q) 26 0 606 = gI τ 9 0 3 := by
        rw [M1 _ (fun o ho => by rcases ho with ho | ho <;> omega), ← pt_k τ σ 606 (by omega)]
        exact hS.2.2.2.1.1.2.2.2.2.2
      have hnz := hS.2.2.2.2.2.2.2.2.1
      have oxe : gI (mX σ x z q) 26 0 (60 + x) = gI τ 8 x 2 := by
        rw [M1 _ (fun o ho => by rcases ho with ho | ho <;> omega)]; exact (hR.2 x hxi.1 hxi.2.1).1.2.1
      have oze : gI (mX σ x z q) 26 0 (60 + z) = gI τ 8 z 2 := by
        rw [M1 _ (fun o ho => by rcases ho with ho | ho <;> omega)]; exact (hR.2 z hzi.1 hzi.2.1).1.2.1
      have e1 := t_crosses2 σ vol u p x z q (gI τ 8 x 2) (gI τ 8 z 2) (by omega) (by omega) (by omega) (by omega) oxe oze ix.1.2.2 iz.1.2.2 (by omega)
      have st := cross_one (p := p) (C := wr (-q * p)) (D := wr (q * p)) hS (by omega) hx hz (by omega) (by omega) hqe (fun y => by rw [wr_adr, wr_sbr, show -q * p = -(p * q) by rw [Int.neg_mul, Int.mul_comm], ← Int.sub_eq_add_neg]) (fun y => by rw [Int.mul_comm])
      obtain ⟨v1, v2⟩ := trade_vol (u := u) hS.2.1 hc6.1 hx hz hpx hpz hqe ⟨hq.1, hq.2.1, hq.2.2.1⟩
      have v3 := trade_cnt (p := p) hS.2.1 hc6.1 hx hz hqe ⟨hq.1, hq.2.1, hq.2.2.1⟩
      obtain ⟨E1, E2, E3⟩ := kO1_eff τ u p x z q hxz hqe
      have e6 : gI (kO1 τ u p x z) 6 0 2 = gI τ 6 0 2 := by rw [E1 _ _ _ (by decide), g_kNt6]
      have trk := tr_k (mX σ x z q) (gI τ 8 x 2) (gI τ 8 z 2) q (-q) (wr (-q * p)) (wr (q * p)) x z p q ix.1.2.2 iz.1.2.2 (by omega)
      have F1 : FrM (mX σ x z q) (mNt (mPy (mPy (mX σ x z q) (gI τ 8 x 2) q (wr (-q * p))) (gI τ 8 z 2) (-q) (wr (q * p))) x z p q) := FrM_mNt (FrM_mPy (FrM_mPy (FrM.rfl _) _ _ _) _ _ _) _ _ _ _
      have F2 := M0.trans F1
      rw [e0, e1]
      generalize mNt (mPy (mPy (mX σ x z q) (gI τ 8 x 2) q (wr (-q * p))) (gI τ 8 z 2) (-q) (wr (q * p))) x z p q = S at st trk F2 ⊢
      have F3 : FrZ σ S := (((FrZ.rfl σ).u _ _ _ (Or.inr rfl)).u _ _ _ (Or.inr rfl)).trans F2.zz
      have hQ2 : Qs (kO1 τ u p x z) S := fun o o0 o1 h5 h1 => by
        rw [e6] at o1
        have f33 : gI S 33 0 o = gI (uI (uI σ 33 0 x 1) 33 0 z 1) 33 0 o := F2.2 _ _ _ (by omega)
        by_cases ho : o = x ∨ o = z
        · obtain ⟨t4, t6, t5, t9, tj⟩ := E3 o ho
          have k8 := tj 8 (by omega) (by omega) (by omega) (by omega)
          rw [tj 1 (by omega) (by omega) (by omega) (by omega)] at h1
          refine Or.inl ⟨?_, ?_⟩
          · rw [f33]
            rcases ho with ho | ho
            · rw [ho, gI_nj _ _ _ _ _ _ _ _ hxz, gI_self]
            · rw [ho, gI_self]
          · unfold fr9
            rw [t9 h1, t4, k8]
            split <;> split <;> omega
        · have ox : ¬ o = x := fun y => ho (Or.inl y)
          have oz : ¬ o = z := fun y => ho (Or.inr y)
          rw [E2 o 5 ox oz] at h5
          rw [E2 o 1 ox oz] at h1
          have e33 : gI S 33 0 o = gI σ 33 0 o := by rw [f33, gI_nj _ _ _ _ _ _ _ _ oz, gI_nj _ _ _ _ _ _ _ _ ox]
          have e42 : gI S 26 0 (420 + o) = gI σ 26 0 (420 + o) := by
            rw [trk _ (by omega), M1 _ (fun o' ho' => by rcases ho' with y | y <;> omega)]
          have e9 : gI (kO1 τ u p x z) 8 o 9 = gI τ 8 o 9 := E2 o 9 ox oz
          have ef : fr9 (kO1 τ u p x z) o = fr9 τ o := by unfold fr9; rw [E2 o 8 ox oz, E2 o 4 ox oz]
          rw [e33, e42, e9, ef]
          exact hQ o o0 o1 h5 h1
      obtain ⟨σ', u', b4, b5, b6, i1, i2, i3, i4⟩ := ih (kO1 τ u p x z) S (u - q) (B + 1) (aI x) (aI z) (aI q) st hQ2 (by omega) (by omega) (by omega) (by omega) (by omega)
      have eK : kOp (n + 1) τ u p = kOp n (kO1 τ u p x z) (u - q) p := by
        rw [kOp, if_neg hu, hx, hz]
        show kOp n (kO1 τ u p x z) (wr (u - opQ τ u x z)) p = _
        rw [hqe, wr_id (by omega) (by omega)]
      rw [eK]
      exact ⟨σ', u', b4, b5, b6, i1, Sim_mono i2 (by omega), i3, F3.trans i4⟩
