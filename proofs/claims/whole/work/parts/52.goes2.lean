/-! going in comes to an end -/
theorem cnF_mono {τ τ' : aM} : ∀ (n : Nat) (i : Int), (∀ o, i ≤ o → o < i + n → gI τ' 8 o 5 = 1 → gI τ 8 o 5 = 1) → cnF τ' 1 n i ≤ cnF τ 1 n i := by
  intro n
  induction n with
  | zero => intro i h; exact Int.le_refl _
  | succ n ih =>
    intro i h
    have h1 := ih (i + 1) (fun o o0 o1 => h o (by omega) (by omega))
    have h2 := h i (by omega) (by omega)
    rw [cnF, cnF]
    by_cases z : gI τ' 8 i 5 = 1
    · rw [if_pos z, if_pos (h2 z)]; omega
    · rw [if_neg z]; split <;> omega
theorem cnF_lt {τ τ' : aM} (f : Int) (hf : gI τ 8 f 5 = 1) (hf' : ¬ gI τ' 8 f 5 = 1) : ∀ (n : Nat) (i : Int), i ≤ f → f < i + n → (∀ o, i ≤ o → o < i + n → gI τ' 8 o 5 = 1 → gI τ 8 o 5 = 1) → cnF τ' 1 n i + 1 ≤ cnF τ 1 n i := by
  intro n
  induction n with
  | zero => intro i h0 h1 h; omega
  | succ n ih =>
    intro i h0 h1 h
    have h2 := h i (by omega) (by omega)
    rw [cnF, cnF]
    by_cases y : i = f
    · have h3 := cnF_mono (τ := τ) (τ' := τ') n (i + 1) (fun o o0 o1 => h o (by omega) (by omega))
      rw [y] at h3 ⊢
      rw [if_neg hf', if_pos hf]
      omega
    · have h3 := ih (i + 1) (by omega) (by omega) (fun o o0 o1 => h o (by omega) (by omega))
      by_cases z : gI τ' 8 i 5 = 1
      · rw [if_pos z, if_pos (h2 z)]; omega
      · rw [if_neg z]; split <;> omega
theorem goes_less {τ σ : aM} {c B T f : Int} (hS : Sim τ σ c B) (hC : CC τ c) (hR : CR τ σ c T) (h4 : gI τ 8 c 5 = 4) (hf : frs τ (oth (gI τ 8 c 3)) = some f) (h4' : gI (kSt τ c f) 8 c 5 = 4) : gI (kSt τ c f) 8 c 4 + cnI (kSt τ c f) 1 + 1 ≤ gI τ 8 c 4 + cnI τ 1 := by
  have hc6 := hS.1.1.2
  have hfi := frs_in hc6.1 hf
  obtain ⟨ia, ib, ip, idd, is, ir⟩ := IO_p hS.2.1 hfi.1 hfi.2.1
  have ir := ir hfi.2.2.1
  have hcf : ¬ c = f := fun q => by rw [q] at h4; omega
  have hst : 1 ≤ gI τ 8 c 4 ∧ gI σ 25 0 13 = 0 := by
    rcases hR.2.2.2 with y | y | y | y <;> omega
  have e2 : gI (kSt τ c f) 6 0 2 = gI τ 6 0 2 := (kSt_fr τ c f).g (by simp [chg])
  unfold cnI
  rw [e2]
  by_cases hown : gI τ 8 f 2 = gI τ 8 c 2 ∧ ¬ gI τ 6 0 4 = 0
  · have e0 : kSt τ c f = kMo τ c f := if_pos hown
    rw [e0] at h4' ⊢
    by_cases r1 : gI τ 6 0 4 = 1
    · have e1 : kMo τ c f = uI τ 8 c 5 3 := if_pos r1
      rw [e1, gI_self] at h4'
      omega
    · by_cases r2 : gI τ 6 0 4 = 2
      · have e1 : kMo τ c f = uI τ 8 f 5 3 := by unfold kMo; rw [if_neg r1, if_pos r2]
        rw [e1, gI_ni _ _ _ _ _ _ _ _ hcf]
        have h3 := cnF_lt (τ := τ) (τ' := uI τ 8 f 5 3) f hfi.2.2.1 (by rw [gI_self]; omega) (gI τ 6 0 2).toNat 0 hfi.1 (by omega) (fun o o0 o1 z => by
          by_cases y : o = f
          · rw [y, gI_self] at z; omega
          · rw [gI_ni _ _ _ _ _ _ _ _ y] at z; exact z)
        omega
      · have wl : ∃ l, (if gI τ 8 f 4 < gI τ 8 c 4 then gI τ 8 f 4 else gI τ 8 c 4) = l ∧ 1 ≤ l ∧ l ≤ gI τ 8 f 4 ∧ l ≤ gI τ 8 c 4 := by
          refine ⟨_, rfl, ?_⟩
          have := ir.2.1
          split <;> omega
        obtain ⟨l, l1, l0, lf, lc⟩ := wl
        have e1 : kMo τ c f = kLb (kLb τ c l) f l := by unfold kMo; rw [if_neg r1, if_neg r2, l1]
        have w1 : wr (gI τ 8 c 4 - l) = gI τ 8 c 4 - l := wr_id (by have := hC.2.2.2; omega) (by have := hC.2.2.2; omega)
        have c4 : gI (kMo τ c f) 8 c 4 = gI τ 8 c 4 - l := by rw [e1, g_kLb, if_neg (fun y => hcf y.2.1), if_neg (fun y => hcf y.2.1), if_neg (fun y => hcf y.2.1), g_kLb, if_pos ⟨rfl, rfl, rfl⟩, w1]
        have h3 := cnF_mono (τ := τ) (τ' := kMo τ c f) (gI τ 6 0 2).toNat 0 (fun o o0 o1 z => by
          rw [e1, g_kLb, if_neg (by omega), if_neg (by omega)] at z
          split at z
          · omega
          · rw [g_kLb, if_neg (by omega), if_neg (by omega)] at z
            split at z
            · omega
            · exact z)
        rw [c4]
        omega
  · have e0 : kSt τ c f = kMt τ c f := if_neg hown
    rw [e0]
    have hvr : 1 ≤ vsN τ f ∧ vsN τ f ≤ gI τ 8 f 4 ∧ (gI τ 8 f 1 = 2 → vsN τ f = gI τ 8 f 9) := by
      unfold vsN
      rw [if_pos hfi.2.2.1]
      by_cases z : gI τ 8 f 1 = 2
      · rw [if_pos z]; have := ir.2.2.2 z; exact ⟨by omega, by omega, fun _ => rfl⟩
      · rw [if_neg z]; exact ⟨by omega, by omega, fun y => absurd y z⟩
    have hqr : 1 ≤ mtQ τ c f ∧ mtQ τ c f ≤ vsN τ f ∧ mtQ τ c f ≤ gI τ 8 c 4 := by
      unfold mtQ
      split <;> omega
    obtain ⟨E1, E2, ⟨E3, E4, E5⟩, E6, ⟨E7, E8, E9⟩, E10, E11, E12⟩ := kMt_eff τ c f hcf hfi.2.2.1 ⟨by omega, by omega, hqr.2.2⟩ ⟨ib.1.2, hC.2.2.2.2⟩ (fun z => by have := hvr.2.2 z; have := ir.2.2.2 z; omega)
    have h3 := cnF_mono (τ := τ) (τ' := kMt τ c f) (gI τ 6 0 2).toNat 0 (fun o o0 o1 z => by
      by_cases y : o = c
      · rw [y, E5] at z
        split at z <;> omega
      · by_cases y2 : o = f
        · rw [y2]; exact hfi.2.2.1
        · rw [E1 o 5 y y2] at z; exact z)
    rw [E3]
    omega
theorem l_goes {c T lm l : Int} (qq : Int) : ∀ (n : Nat) (τ σ : aM) (B : Int) (a7 a8 a9 : AV), Sim τ σ c B → B + n < 2147483647 → CC τ c → CR τ σ c T → (gI τ 8 c 5 = 4 → gI τ 8 c 4 + cnI τ 1 ≤ n) → ((lm = l ∧ 1 ≤ l) ∨ (lm = 0 ∧ l = if gI τ 8 c 3 = 0 then 999 else 1)) →
    ∃ σ', ev 156 41 [aR 25 0, aI (nm c), aI (gI τ 8 c 2), aI (gI τ 8 c 3), aI qq, aI lm, aI (oI (frs τ (oth (gI τ 8 c 3)))), a7, a8, a9] [] σ = some (none, σ') ∧ Sim (kGo n τ c l) σ' c (B + n) ∧ CC (kGo n τ c l) c ∧ CR (kGo n τ c l) σ' c T ∧ FrM σ σ' ∧ (0 ≤ c → c < 60 → gI σ' 26 0 (540 + c) = gI σ 26 0 (540 + c)) := by
  intro n
  have hstop : ∀ (τ σ : aM) (B : Int) (a6 a7 a8 a9 : AV), CR τ σ c T → ¬ gI τ 8 c 5 = 4 → ev 156 41 [aR 25 0, aI (nm c), aI (gI τ 8 c 2), aI (gI τ 8 c 3), aI qq, aI lm, a6, a7, a8, a9] [] σ = some (none, σ) := fun τ σ B a6 a7 a8 a9 hR h4 => by
    have hd : gI σ 25 0 11 ≤ 0 ∨ (¬ gI σ 25 0 11 ≤ 0 ∧ ¬ gI σ 25 0 13 = 0) := by
      rw [hR.1]
      rcases hR.2.2.2 with y | y | y | y <;> omega
    rcases hd with y | y
    · simp (disch := omega) only [e_Md_goesIn_41, e_Md_goesIn_42, e_Md_goesIn_45, e_Md_goesIn_301, if_pos y]
    · simp (disch := omega) only [e_Md_goesIn_41, e_Md_goesIn_42, e_Md_goesIn_45, e_Md_goesIn_48, e_Md_goesIn_49, e_Md_goesIn_52, e_Md_goesIn_301, if_neg y.1, y.2, not_false_eq_true, if_true]
  induction n with
  | zero =>
    intro τ σ B a7 a8 a9 hS hB hC hR hm hl
    have hcn := cnF_le τ 1 (gI τ 6 0 2).toNat 0
    have h4 : ¬ gI τ 8 c 5 = 4 := fun z => by
      have := hm z
      unfold cnI at this
      rcases hR.2.2.2 with y | y | y | y <;> omega
    exact ⟨σ, hstop τ σ B _ a7 a8 a9 hR h4, Sim_mono hS (by omega), hC, hR, FrM.rfl σ, fun _ _ => rfl⟩
  | succ n ih =>
    intro τ σ B a7 a8 a9 hS hB hC hR hm hl
    rw [kGo]
    by_cases h4 : gI τ 8 c 5 = 4
    · rw [if_neg (fun z => z h4)]
      have hst : 1 ≤ gI τ 8 c 4 ∧ gI σ 25 0 13 = 0 := by
        rcases hR.2.2.2 with y | y | y | y <;> omega
      have hnn : ¬ gI σ 25 0 11 ≤ 0 := by rw [hR.1]; omega
      cases hf : frs τ (oth (gI τ 8 c 3)) with
      | none =>
        refine ⟨σ, ?_, Sim_mono hS (by omega), hC, hR, FrM.rfl σ, fun _ _ => rfl⟩
        simp (disch := omega) only [e_Md_goesIn_41, e_Md_goesIn_42, e_Md_goesIn_45, e_Md_goesIn_48, e_Md_goesIn_49, e_Md_goesIn_52, e_Md_goesIn_55, e_Md_goesIn_57, e_Md_goesIn_58, e_Md_goesIn_301, if_neg hnn, hst.2, not_true_eq_false, if_false, oI, if_true]
      | some f =>
        dsimp only
        have hc6 := hS.1.1.2
        have hfi := frs_in hc6.1 hf
        by_cases hw : wth τ c (gI τ 8 f 7) l
        · rw [if_pos hw]
          obtain ⟨σ1, b7, b8, b9, k1, k2, k3, k4, k5, k6⟩ := l_goes_step hS (by omega) hC hR h4 hf qq hw hl a7 a8 a9
          have e2 : gI (kSt τ c f) 8 c 2 = gI τ 8 c 2 := (kSt_fr τ c f).g (by simp [chg])
          have e3 : gI (kSt τ c f) 8 c 3 = gI τ 8 c 3 := (kSt_fr τ c f).g (by simp [chg])
          obtain ⟨σ', j1, j2, j3, j4, j5, j6⟩ := ih (kSt τ c f) σ1 (B + 1) b7 b8 b9 k2 (by omega) k3 k4 (fun z => by
            have := goes_less hS hC hR h4 hf z
            have := hm h4
            omega) (by rw [e3]; exact hl)
          rw [e2, e3] at j1
          refine ⟨σ', ?_, Sim_mono j2 (by omega), j3, j4, k5.trans j5, fun c0 c1 => (j6 c0 c1).trans (k6 c0 c1)⟩
          rw [show oI (some f) = f from rfl, k1, j1]
        · rw [if_neg hw]
          obtain ⟨ia, ib, ip, idd, is, ir⟩ := IO_p hS.2.1 hfi.1 hfi.2.1
          have hp1 := ip hfi.2.2.2.2
          have hpO : pO τ f = gI τ 8 f 7 := by
            unfold pO
            rw [if_pos hfi.2.2.1, pfB_l hfi.2.2.2.2]
          have hpr := c_Md_priceOf f hS.1 hS.2.1 hfi.1 hfi.2.1
          rw [hpO] at hpr
          have hwi := c_Md_isWithin (gI τ 8 c 3) (gI τ 8 f 7) lm σ
          rw [if_neg (fun z => hw (by
            unfold wth
            rcases hl with y | y
            · rw [y.1] at z; omega
            · have := ib.2.1
              refine ⟨by omega, ?_⟩
              rw [y.2]
              by_cases z2 : gI τ 8 c 3 = 0
              · rw [if_pos z2]; omega
              · rw [if_neg z2]; omega))] at hwi
          refine ⟨σ, ?_, Sim_mono hS (by omega), hC, hR, FrM.rfl σ, fun _ _ => rfl⟩
          simp (disch := omega) only [e_Md_goesIn_41, e_Md_goesIn_42, e_Md_goesIn_45, e_Md_goesIn_48, e_Md_goesIn_49, e_Md_goesIn_52, e_Md_goesIn_55, e_Md_goesIn_57, e_Md_goesIn_58, e_Md_goesIn_61, e_Md_goesIn_62, e_Md_goesIn_63, e_Md_goesIn_65, e_Md_goesIn_68, e_Md_goesIn_70, e_Md_goesIn_73, e_Md_goesIn_301, if_neg hnn, hst.2, not_true_eq_false, if_false, oI, if_true, hpr, hwi, evK_i, if_neg (show ¬ f = -1 by omega)]
    · rw [if_pos h4]
      exact ⟨σ, hstop τ σ B _ a7 a8 a9 hR h4, Sim_mono hS (by omega), hC, hR, FrM.rfl σ, fun _ _ => rfl⟩
