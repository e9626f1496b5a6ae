/-! the whole of going in -/
theorem RO_25 {τ σ σ' : aM} {c : Int} (h : RO τ σ c) (e : ∀ k, gI σ' 26 0 k = gI σ 26 0 k) : RO τ σ' c := by
  unfold RO at h ⊢
  simp only [e]
  exact h
theorem GL_25 {τ σ σ' : aM} (h : GL τ σ) (e : ∀ k, gI σ' 26 0 k = gI σ 26 0 k) : GL τ σ' := by
  unfold GL at h ⊢
  simp only [e]
  exact h
theorem Sim_25 {τ σ σ' : aM} {c B : Int} (h : Sim τ σ c B) (e : ∀ k, gI σ' 26 0 k = gI σ 26 0 k) : Sim τ σ' c B := ⟨RO_25 h.1 e, h.2.1, h.2.2.1, GL_25 h.2.2.2.1 e, h.2.2.2.2⟩
theorem c_Md_goesIn {τ σ : aM} {c B l lm : Int} (hS : Sim τ σ c B) (hB : B + 1059 < 2147483647) (hC : CC τ c) (h4 : gI τ 8 c 5 = 4) (h1 : 1 ≤ gI τ 8 c 4) (hT : wr (gI τ 8 c 6) = gI τ 8 c 6) (hl : (lm = l ∧ 1 ≤ l) ∨ (lm = 0 ∧ l = if gI τ 8 c 3 = 0 then 999 else 1)) :
    ∃ σ', ev 156 0 [aR 25 0, aI (nm c), aI (gI τ 8 c 2), aI (gI τ 8 c 3), aI (gI τ 8 c 4), aI lm, aU, aU, aU, aU] [] σ = some (none, σ') ∧ Sim (kGo 1059 τ c l) σ' c (B + 1059) ∧ CC (kGo 1059 τ c l) c ∧ CR (kGo 1059 τ c l) σ' c (gI τ 8 c 6) ∧ FrM σ σ' ∧ (0 ≤ c → c < 60 → gI σ' 26 0 (540 + c) = gI σ 26 0 (540 + c)) := by
  have e26 : ∀ k, gI (uI (uI (uI (uI (uI (uI σ 25 0 9 (gI τ 8 c 2)) 25 0 10 (gI τ 8 c 3)) 25 0 11 (gI τ 8 c 4)) 25 0 12 0) 25 0 13 0) 25 0 14 0) 26 0 k = gI σ 26 0 k := fun k => by simp (disch := omega) only [gI_nt]
  have hS' := Sim_25 hS e26
  have hR : CR τ (uI (uI (uI (uI (uI (uI σ 25 0 9 (gI τ 8 c 2)) 25 0 10 (gI τ 8 c 3)) 25 0 11 (gI τ 8 c 4)) 25 0 12 0) 25 0 13 0) 25 0 14 0) c (gI τ 8 c 6) := by
    have hd := hC.2.2.2
    have u11 : gI (uI (uI (uI (uI (uI (uI σ 25 0 9 (gI τ 8 c 2)) 25 0 10 (gI τ 8 c 3)) 25 0 11 (gI τ 8 c 4)) 25 0 12 0) 25 0 13 0) 25 0 14 0) 25 0 11 = gI τ 8 c 4 := by simp (disch := omega) only [gI_self, gI_nt, gI_nj, gL_uI, gR_uI, gI_uL, gR_uL, gI_uR, gL_uR]
    have u12 : gI (uI (uI (uI (uI (uI (uI σ 25 0 9 (gI τ 8 c 2)) 25 0 10 (gI τ 8 c 3)) 25 0 11 (gI τ 8 c 4)) 25 0 12 0) 25 0 13 0) 25 0 14 0) 25 0 12 = 0 := by simp (disch := omega) only [gI_self, gI_nt, gI_nj, gL_uI, gR_uI, gI_uL, gR_uL, gI_uR, gL_uR]
    have u13 : gI (uI (uI (uI (uI (uI (uI σ 25 0 9 (gI τ 8 c 2)) 25 0 10 (gI τ 8 c 3)) 25 0 11 (gI τ 8 c 4)) 25 0 12 0) 25 0 13 0) 25 0 14 0) 25 0 13 = 0 := by simp (disch := omega) only [gI_self, gI_nt, gI_nj, gL_uI, gR_uI, gI_uL, gR_uL, gI_uR, gL_uR]
    refine ⟨u11, by rw [u12, Int.add_zero, hT], by rw [u12]; omega, Or.inl ⟨h4, h1, u13⟩⟩
  have hcn := cnF_le τ 1 (gI τ 6 0 2).toNat 0
  have hc6 := hS.1.1.2
  obtain ⟨σ', k1, k2, k3, k4, k5, k6⟩ := l_goes (c := c) (T := gI τ 8 c 6) (lm := lm) (l := l) (gI τ 8 c 4) 1059 τ _ B aU aU aU hS' (by omega) hC hR (fun _ => by
    have := hC.2.2.2
    unfold cnI
    omega) hl
  have hff := c_Md_firstOf (oth (gI τ 8 c 3)) 0 hS'.1 hS'.2.1 hS'.2.2.1 (Or.inl rfl)
  have hsd := hC.2.1
  have e1s : (1 : Int) - gI τ 8 c 3 = oth (gI τ 8 c 3) := by
    unfold oth
    split <;> omega
  refine ⟨σ', ?_, by have e : ((1059 : Nat) : Int) = 1059 := rfl; rw [e] at k2; exact k2, k3, k4, ?_, fun c0 c1 => by rw [k6 c0 c1, e26]⟩
  · simp (disch := omega) only [e_Md_goesIn_0, e_Md_goesIn_1, e_Md_goesIn_2, e_Md_goesIn_5, e_Md_goesIn_6, e_Md_goesIn_7, e_Md_goesIn_10, e_Md_goesIn_11, e_Md_goesIn_13, e_Md_goesIn_16, e_Md_goesIn_17, e_Md_goesIn_18, e_Md_goesIn_21, e_Md_goesIn_22, e_Md_goesIn_23, e_Md_goesIn_26, e_Md_goesIn_27, e_Md_goesIn_28, e_Md_goesIn_31, e_Md_goesIn_32, e_Md_goesIn_33, e_Md_goesIn_34, e_Md_goesIn_35, e_Md_goesIn_36, e_Md_goesIn_39, wr_id, e1s, hff, evK_i, k1]
  · exact FrM.trans ((((((FrM.rfl σ).u _ _ _ (Or.inr (by omega))).u _ _ _ (Or.inr (by omega))).u _ _ _ (Or.inr (by omega))).u _ _ _ (Or.inr (by omega))).u _ _ _ (Or.inr (by omega)) |>.u _ _ _ (Or.inr (by omega))) k5
