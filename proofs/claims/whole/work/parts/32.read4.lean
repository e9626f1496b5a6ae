/-! items, whole -/
theorem uI_same (σ : aM) (t : Nat) (i j v : Int) (h : gI σ t i j = v) : uI σ t i j v = σ := aM_ext (fun t' i' j' => by rw [gI_uI]; grind) (fun _ _ _ => rfl) (fun _ => rfl)
/-- the reader at a place -/
abbrev atP (σ : aM) (p : Int) : aM := uI σ 19 0 6 p
theorem sg_at (σ : aM) (s p : Int) (h : okT σ s) (hp : 0 ≤ p ∧ p ≤ 900) : ev 66 0 [aR 19 0, aR 2 s] [] (atP σ p) = some (some (aI (lts σ s p)), atP σ p) := by
  have h1 := c_Tr_signAt (atP σ p) s (okT_u h _ _ (by omega)) (by rw [gI_self]; omega)
  rw [gI_self, lts_u σ s _ _ _ (by omega)] at h1
  exact h1
theorem f_at (σ : aM) (p : Int) (hf : gI σ 19 0 7 = -1) : gI (atP σ p) 19 0 7 = -1 := by simp (disch := omega) only [gI_self, gI_nt, gI_nj, gL_uI, gR_uI, gI_uL, gR_uL, gI_uR, gL_uR, hf]
theorem ts_ok (σ : aM) (s p w : Int) (h : okT σ s) (hp : 0 ≤ p ∧ p ≤ 900) (hf : gI σ 19 0 7 = -1) (c : lts σ s p = w) : ev 67 0 [aR 19 0, aR 2 s, aI w] [] (atP σ p) = some (none, atP σ (p + 1)) := by
  have h1 := c_Tr_takeSign (atP σ p) s w (okT_u h _ _ (by omega)) (by rw [gI_self]; omega)
  rw [kTb_ok (p := p) (f_at σ p hf) (gI_self _ _ _ _ _) (by rw [lts_u σ s _ _ _ (by omega)]; omega), uI_uI] at h1
  exact h1
theorem ts_no (σ : aM) (s p w : Int) (h : okT σ s) (hp : 0 ≤ p ∧ p ≤ 900) (hf : gI σ 19 0 7 = -1) (c : ¬ lts σ s p = w) : ev 67 0 [aR 19 0, aR 2 s, aI w] [] (atP σ p) = some (none, uI (atP σ p) 19 0 7 p) := by
  have h1 := c_Tr_takeSign (atP σ p) s w (okT_u h _ _ (by omega)) (by rw [gI_self]; omega)
  rw [kTb_no (p := p) (f_at σ p hf) (gI_self _ _ _ _ _) (by rw [lts_u σ s _ _ _ (by omega)]; omega)] at h1
  exact h1
theorem nm_ok (σ : aM) (s p p1 n : Int) (h : okT σ s) (hp : 0 ≤ p ∧ p ≤ 900) (hf : gI σ 19 0 7 = -1) (hn : pNm (lts σ s) p = .inl (p1, n)) : ev 69 0 [aR 19 0, aR 2 s, aU, aU, aU] [] (atP σ p) = some (some (aI n), atP σ p1) := by
  have h1 := c_Tr_takeNumber_ok (atP σ p) s p p1 n (okT_u h _ _ (by omega)) (gI_self _ _ _ _ _) hp (f_at σ p hf) (by rw [show lts (atP σ p) s = lts σ s from funext fun z => lts_u σ s z _ _ (by omega)]; exact hn)
  rw [uI_uI] at h1
  exact h1
theorem nm_no (σ : aM) (s p k : Int) (h : okT σ s) (hp : 0 ≤ p ∧ p ≤ 890) (hf : gI σ 19 0 7 = -1) (hn : pNm (lts σ s) p = .inr k) : ∃ x τ, ev 69 0 [aR 19 0, aR 2 s, aU, aU, aU] [] (atP σ p) = some (some (aI x), τ) ∧ FrP σ τ ∧ gI τ 19 0 7 = k ∧ ¬ gI τ 19 0 7 = -1 ∧ (0 ≤ k ∧ k ≤ 900) ∧ (0 ≤ gI τ 19 0 6 ∧ gI τ 19 0 6 ≤ 900) := by
  obtain ⟨x, τ, a1, a2, a3, a4, a5⟩ := c_Tr_takeNumber_no (atP σ p) s p k (okT_u h _ _ (by omega)) (gI_self _ _ _ _ _) (by omega) (f_at σ p hf) (by rw [show lts (atP σ p) s = lts σ s from funext fun z => lts_u σ s z _ _ (by omega)]; exact hn)
  exact ⟨x, τ, a1, ((FrP.rfl σ).u _ _ (by omega)).trans a2, a3, by omega, by omega, by omega⟩
/-- what taking an item comes to -/
def IR (σ : aM) (r : (Int × aIt) ⊕ Int) (e : Option (Option AV × aM)) : Prop := match r with
  | .inl (p, it) => e = some (none, kIt (atP σ p) it)
  | .inr k => ∃ τ, e = some (none, τ) ∧ FrP σ τ ∧ gI τ 19 0 7 = k ∧ 0 ≤ k ∧ (0 ≤ gI τ 19 0 6 ∧ gI τ 19 0 6 ≤ 900)
theorem IR_l {σ : aM} {p : Int} {it : aIt} {e} (h : e = some (none, kIt (atP σ p) it)) : IR σ (.inl (p, it)) e := h
theorem IR_r {σ : aM} {k : Int} {e} (τ : aM) (h : e = some (none, τ)) (h1 : FrP σ τ) (h2 : gI τ 19 0 7 = k) (h3 : 0 ≤ k) (h4 : 0 ≤ gI τ 19 0 6 ∧ gI τ 19 0 6 ≤ 900) : IR σ (.inr k) e := ⟨τ, h, h1, h2, h3, h4⟩
def r67 (g : Int → Int) (a b c d p : Int) : (Int × aIt) ⊕ Int := if ¬ g p = 104 then .inl (p, (a, b, c, d, 0)) else match pNm g (p + 1) with
        | .inr k => .inr k
        | .inl (p3, sh) => .inl (p3, (a, b, c, d, sh))
def r53 (g : Int → Int) (a b c p : Int) : (Int × aIt) ⊕ Int := if ¬ g p = 64 then .inr p else match pNm g (p + 1) with
      | .inr k => .inr k
      | .inl (p2, pr) => r67 g a b c pr p2
def r46 (g : Int → Int) (a b p : Int) : (Int × aIt) ⊕ Int := match pNm g p with
    | .inr k => .inr k
    | .inl (p1, q) => r53 g a b q p1
theorem pIt_eq (g : Int → Int) (p : Int) : pIt g p = if g p < 97 ∨ 104 < g p then .inr p
  else if ¬ g (p + 1) = 45 ∧ ¬ g (p + 1) = 43 then .inr (p + 1) else r46 g (g p - 97) (if g (p + 1) = 45 then 1 else 0) (p + 2) := by
  unfold pIt r46 r53 r67
  rfl
theorem gt_67 (σ : aM) (s a b c d p : Int) (h : okT σ s) (hpp : 0 ≤ p ∧ p ≤ 880) (hf : gI σ 19 0 7 = -1) (hc : 0 ≤ gI σ 19 0 5 ∧ gI σ 19 0 5 < 27) (a6 : AV) : IR σ (r67 (lts σ s) a b c d p) (ev 65 67 [aR 19 0, aR 2 s, aI a, aI b, aI c, aI d, a6] [] (atP σ p)) := by
  have g1 : lts (atP σ p) s = lts σ s := funext fun z => lts_u σ s z _ _ (by omega)
  obtain ⟨k1, k2, k3⟩ := gd_67 (atP σ p) s a b c d p (okT_u h _ _ (by omega)) (gI_self _ _ _ _ _) hpp (f_at σ p hf) (by simp (disch := omega) only [gI_self, gI_nt, gI_nj, gL_uI, gR_uI, gI_uL, gR_uL, gI_uR, gL_uR]; exact hc) a6
  rw [g1] at k1 k2 k3
  unfold r67
  by_cases c1 : lts σ s p = 104
  · rw [if_neg (fun q => q c1)]
    cases hn : pNm (lts σ s) (p + 1) with
    | inl q =>
      refine IR_l ?_
      rw [k2 q.1 q.2 c1 hn, uI_uI]
    | inr k =>
      obtain ⟨τ, e1, e2, e3, e4, e5⟩ := k3 k c1 hn
      exact IR_r τ e1 (((FrP.rfl σ).u _ _ (by omega)).trans e2) e3 e4 e5
  · rw [if_pos c1]
    exact IR_l (k1 c1)
theorem gt_53 (σ : aM) (s a b c p : Int) (h : okT σ s) (hpp : 0 ≤ p ∧ p ≤ 870) (hf : gI σ 19 0 7 = -1) (hc : 0 ≤ gI σ 19 0 5 ∧ gI σ 19 0 5 < 27) (a5 a6 : AV) : IR σ (r53 (lts σ s) a b c p) (ev 65 53 [aR 19 0, aR 2 s, aI a, aI b, aI c, a5, a6] [] (atP σ p)) := by
  unfold r53
  by_cases c1 : lts σ s p = 64
  · have h1 := ts_ok σ s p 64 h (by omega) hf c1
    rw [if_neg (fun q => q c1)]
    cases hn : pNm (lts σ s) (p + 1) with
    | inl q =>
      have hr := pNm_rg (p1 := q.1) (n := q.2) hn
      have h2 := nm_ok σ s _ q.1 q.2 h (by omega) hf hn
      simp (disch := omega) only [e_Tr_takeItem_53, e_Tr_takeItem_54, e_Tr_takeItem_55, e_Tr_takeItem_57, e_Tr_takeItem_60, e_Tr_takeItem_61, e_Tr_takeItem_62, e_Tr_takeItem_65, h1, h2, evK_i, evK_v]
      exact gt_67 σ s a b c q.2 q.1 h (by omega) hf hc a6
    | inr k =>
      obtain ⟨x, τ, h2, e2, e3, e4, e5, e6⟩ := nm_no σ s _ _ h (by omega) hf hn
      simp (disch := omega) only [e_Tr_takeItem_53, e_Tr_takeItem_54, e_Tr_takeItem_55, e_Tr_takeItem_57, e_Tr_takeItem_60, e_Tr_takeItem_61, e_Tr_takeItem_62, e_Tr_takeItem_65, h1, h2, evK_i, evK_v, bd_67 τ s a b c x a6 (e2.ok h) e6 e4]
      exact IR_r τ rfl e2 e3 e5.1 e6
  · have h1 := ts_no σ s p 64 h (by omega) hf c1
    rw [if_pos c1]
    have o1 : okT (uI (atP σ p) 19 0 7 p) s := okT_u (okT_u h _ _ (by omega)) _ _ (by omega)
    have o2 : 0 ≤ gI (uI (atP σ p) 19 0 7 p) 19 0 6 ∧ gI (uI (atP σ p) 19 0 7 p) 19 0 6 ≤ 900 := by simp (disch := omega) only [gI_self, gI_nt, gI_nj, gL_uI, gR_uI, gI_uL, gR_uL, gI_uR, gL_uR]; omega
    obtain ⟨x, h2⟩ := c_Tr_takeNumber_bad (uI (atP σ p) 19 0 7 p) s o1 o2 (by rw [gI_self]; omega)
    simp (disch := omega) only [e_Tr_takeItem_53, e_Tr_takeItem_54, e_Tr_takeItem_55, e_Tr_takeItem_57, e_Tr_takeItem_60, e_Tr_takeItem_61, e_Tr_takeItem_62, e_Tr_takeItem_65, h1, h2, evK_i, evK_v, bd_67 (uI (atP σ p) 19 0 7 p) s a b c x a6 o1 o2 (by rw [gI_self]; omega)]
    exact IR_r _ rfl (((FrP.rfl σ).u _ _ (by omega)).u _ _ (by omega)) (gI_self _ _ _ _ _) (by omega) o2
theorem gt_46 (σ : aM) (s a b p : Int) (h : okT σ s) (hpp : 0 ≤ p ∧ p ≤ 860) (hf : gI σ 19 0 7 = -1) (hc : 0 ≤ gI σ 19 0 5 ∧ gI σ 19 0 5 < 27) (a4 a5 a6 : AV) : IR σ (r46 (lts σ s) a b p) (ev 65 46 [aR 19 0, aR 2 s, aI a, aI b, a4, a5, a6] [] (atP σ p)) := by
  unfold r46
  cases hn : pNm (lts σ s) p with
  | inl q =>
    have hr := pNm_rg (p1 := q.1) (n := q.2) hn
    have h2 := nm_ok σ s _ q.1 q.2 h (by omega) hf hn
    simp (disch := omega) only [e_Tr_takeItem_46, e_Tr_takeItem_47, e_Tr_takeItem_48, e_Tr_takeItem_51, h2, evK_i]
    exact gt_53 σ s a b q.2 q.1 h (by omega) hf hc a5 a6
  | inr k =>
    obtain ⟨x, τ, h2, e2, e3, e4, e5, e6⟩ := nm_no σ s _ _ h (by omega) hf hn
    simp (disch := omega) only [e_Tr_takeItem_46, e_Tr_takeItem_47, e_Tr_takeItem_48, e_Tr_takeItem_51, h2, evK_i, bd_53 τ s a b x a5 a6 (e2.ok h) e6 e4]
    exact IR_r τ rfl e2 e3 e5.1 e6
theorem gt_29 (σ : aM) (s a b p : Int) (h : okT σ s) (hpp : 0 ≤ p ∧ p ≤ 850) (hf : gI σ 19 0 7 = -1) (hc : 0 ≤ gI σ 19 0 5 ∧ gI σ 19 0 5 < 27) (hb : b = if lts σ s p = 45 then 1 else 0) (a4 a5 a6 : AV) : IR σ (if ¬ lts σ s p = 45 ∧ ¬ lts σ s p = 43 then .inr p else r46 (lts σ s) a b (p + 1)) (ev 65 29 [aR 19 0, aR 2 s, aI a, aI b, a4, a5, a6] [] (atP σ p)) := by
  by_cases c1 : lts σ s p = 45
  · rw [if_pos c1] at hb
    rw [if_neg (fun q => q.1 c1)]
    have h1 := ts_ok σ s p 45 h (by omega) hf c1
    simp (disch := omega) only [e_Tr_takeItem_29, e_Tr_takeItem_30, e_Tr_takeItem_31, e_Tr_takeItem_32, e_Tr_takeItem_33, if_neg (fun q : ¬ b = 1 => q hb), e_Tr_takeItem_36, e_Tr_takeItem_38, e_Tr_takeItem_43, h1, evK_v]
    exact gt_46 σ s a b (p + 1) h (by omega) hf hc a4 a5 a6
  · rw [if_neg c1] at hb
    by_cases c2 : lts σ s p = 43
    · rw [if_neg (fun q => q.2 c2)]
      have h1 := ts_ok σ s p 43 h (by omega) hf c2
      simp (disch := omega) only [e_Tr_takeItem_29, e_Tr_takeItem_30, e_Tr_takeItem_31, e_Tr_takeItem_32, e_Tr_takeItem_33, if_pos (show ¬ b = 1 by omega), e_Tr_takeItem_41, e_Tr_takeItem_43, h1, evK_v]
      exact gt_46 σ s a b (p + 1) h (by omega) hf hc a4 a5 a6
    · rw [if_pos ⟨c1, c2⟩]
      have h1 := ts_no σ s p 43 h (by omega) hf c2
      have o1 : okT (uI (atP σ p) 19 0 7 p) s := okT_u (okT_u h _ _ (by omega)) _ _ (by omega)
      have o2 : 0 ≤ gI (uI (atP σ p) 19 0 7 p) 19 0 6 ∧ gI (uI (atP σ p) 19 0 7 p) 19 0 6 ≤ 900 := by simp (disch := omega) only [gI_self, gI_nt, gI_nj, gL_uI, gR_uI, gI_uL, gR_uL, gI_uR, gL_uR]; omega
      simp (disch := omega) only [e_Tr_takeItem_29, e_Tr_takeItem_30, e_Tr_takeItem_31, e_Tr_takeItem_32, e_Tr_takeItem_33, if_pos (show ¬ b = 1 by omega), e_Tr_takeItem_41, e_Tr_takeItem_43, h1, evK_v, bd_46 (uI (atP σ p) 19 0 7 p) s a b a4 a5 a6 o1 o2 (by rw [gI_self]; omega)]
      exact IR_r _ rfl (((FrP.rfl σ).u _ _ (by omega)).u _ _ (by omega)) (gI_self _ _ _ _ _) (by omega) o2
theorem gt_0 (σ : aM) (s p : Int) (h : okT σ s) (hpp : 0 ≤ p ∧ p ≤ 840) (hf : gI σ 19 0 7 = -1) (hc : 0 ≤ gI σ 19 0 5 ∧ gI σ 19 0 5 < 27) : IR σ (pIt (lts σ s) p) (ev 65 0 [aR 19 0, aR 2 s, aU, aU, aU, aU, aU] [] (atP σ p)) := by
  rw [pIt_eq]
  have h1 := c_Tr_takeBetween (atP σ p) s 97 104 (okT_u h _ _ (by omega)) (by rw [gI_self]; omega)
  rw [gI_self, lts_u σ s _ _ _ (by omega)] at h1
  by_cases c1 : lts σ s p < 97 ∨ 104 < lts σ s p
  · rw [kTb_no (p := p) (f_at σ p hf) (gI_self _ _ _ _ _) (by rw [lts_u σ s _ _ _ (by omega)]; omega)] at h1
    rw [if_pos c1]
    have o1 : okT (uI (atP σ p) 19 0 7 p) s := okT_u (okT_u h _ _ (by omega)) _ _ (by omega)
    have o2 : 0 ≤ gI (uI (atP σ p) 19 0 7 p) 19 0 6 ∧ gI (uI (atP σ p) 19 0 7 p) 19 0 6 ≤ 900 := by simp (disch := omega) only [gI_self, gI_nt, gI_nj, gL_uI, gR_uI, gI_uL, gR_uL, gI_uR, gL_uR]; omega
    simp (disch := omega) only [e_Tr_takeItem_0, e_Tr_takeItem_1, e_Tr_takeItem_2, e_Tr_takeItem_4, e_Tr_takeItem_6, e_Tr_takeItem_9, e_Tr_takeItem_11, e_Tr_takeItem_12, h1, evK_i, fun a => bd_13 (uI (atP σ p) 19 0 7 p) s a aU aU aU aU o1 o2 (by rw [gI_self]; omega)]
    exact IR_r _ rfl (((FrP.rfl σ).u _ _ (by omega)).u _ _ (by omega)) (gI_self _ _ _ _ _) (by omega) o2
  · rw [kTb_ok (p := p) (f_at σ p hf) (gI_self _ _ _ _ _) (by rw [lts_u σ s _ _ _ (by omega)]; omega), uI_uI] at h1
    rw [if_neg c1]
    have h2 := sg_at σ s (p + 1) h (by omega)
    have h3 := gt_29 σ s (lts σ s p - 97) (if lts σ s (p + 1) = 45 then 1 else 0) (p + 1) h (by omega) hf hc rfl aU aU aU
    rw [show p + 1 + 1 = p + 2 by omega] at h3
    by_cases c2 : lts σ s (p + 1) = 45
    · rw [if_pos c2] at h3 ⊢
      simp (disch := omega) only [e_Tr_takeItem_0, e_Tr_takeItem_1, e_Tr_takeItem_2, e_Tr_takeItem_4, e_Tr_takeItem_6, e_Tr_takeItem_9, e_Tr_takeItem_11, e_Tr_takeItem_12, e_Tr_takeItem_13, e_Tr_takeItem_14, e_Tr_takeItem_15, e_Tr_takeItem_18, e_Tr_takeItem_20, e_Tr_takeItem_23, e_Tr_takeItem_24, e_Tr_takeItem_28, h1, h2, evK_i, wr_id, if_neg (fun q : ¬ lts σ s (p + 1) = 45 => q c2)]
      exact h3
    · rw [if_neg c2] at h3 ⊢
      simp (disch := omega) only [e_Tr_takeItem_0, e_Tr_takeItem_1, e_Tr_takeItem_2, e_Tr_takeItem_4, e_Tr_takeItem_6, e_Tr_takeItem_9, e_Tr_takeItem_11, e_Tr_takeItem_12, e_Tr_takeItem_13, e_Tr_takeItem_14, e_Tr_takeItem_15, e_Tr_takeItem_18, e_Tr_takeItem_20, e_Tr_takeItem_27, e_Tr_takeItem_28, h1, h2, evK_i, wr_id, if_pos c2]
      exact h3
