/-! draws -/
theorem shr_rg (a : Int) : 0 ≤ shr a 16 ∧ shr a 16 ≤ 65535 := by
  unfold shr
  have e : ((Int32.ofInt 16).toUInt32 &&& Int32.toUInt32 31) = 16 := by decide
  rw [e]
  generalize (Int32.ofInt a).toUInt32 = u
  have h : (u >>> 16).toNat < 65536 := by
    have h1 := u.toNat_lt
    rw [UInt32.toNat_shiftRight, Nat.shiftRight_eq_div_pow]
    have h2 : (16 : UInt32).toNat % 32 = 16 := by decide
    rw [h2]
    omega
  have h3 : (u >>> 16).toInt32.toInt = ((u >>> 16).toNat : Int) := by
    show (u >>> 16).toBitVec.toInt = ((u >>> 16).toBitVec.toNat : Int)
    refine BitVec.toInt_eq_toNat_of_lt ?_
    have : (u >>> 16).toBitVec.toNat < 65536 := h
    omega
  rw [h3]
  omega
theorem rem_rg {x n : Int} (hx : 0 ≤ x ∧ x ≤ 65535) (hn : 1 ≤ n ∧ n ≤ 100) : 0 ≤ rem x n ∧ rem x n < n := by
  unfold rem
  have hx1 : (Int32.ofInt x).toInt = x := wr_id (by omega) (by omega)
  have hn1 : (Int32.ofInt n).toInt = n := wr_id (by omega) (by omega)
  have hd : (Int32.ofInt x / Int32.ofInt n).toInt = x / n := by
    rw [Int32.toInt_div, hx1, hn1, Int.tdiv_eq_ediv_of_nonneg hx.1]
    have h1 : 0 ≤ x / n := Int.ediv_nonneg hx.1 (by omega)
    have h2 : x / n ≤ x := Int.ediv_le_self _ hx.1
    exact Int.bmod_eq_of_le (by omega) (by omega)
  have h1 : 0 ≤ x / n := Int.ediv_nonneg hx.1 (by omega)
  have h3 : x % n + x / n * n = x := Int.emod_add_ediv_mul x n
  have h4 : 0 ≤ x % n := Int.emod_nonneg _ (by omega)
  have h5 : x % n < n := Int.emod_lt_of_pos _ (by omega)
  have h6 : 0 ≤ x / n * n := Int.mul_nonneg h1 (by omega)
  have hm : (Int32.ofInt x / Int32.ofInt n * Int32.ofInt n).toInt = x / n * n := by
    rw [Int32.toInt_mul, hd, hn1]
    exact Int.bmod_eq_of_le (by omega) (by omega)
  have hs : (Int32.ofInt x - Int32.ofInt x / Int32.ofInt n * Int32.ofInt n).toInt = x - x / n * n := by
    rw [Int32.toInt_sub, hm, hx1]
    exact Int.bmod_eq_of_le (by omega) (by omega)
  rw [hs]
  omega
theorem c_Md_drawn (n : Int) (σ : aM) (h : 1 ≤ n) : ev 205 0 [aR 25 0, aI n] [] σ = some (some (aI (rem (shr (sdN (gI σ 26 0 604)) 16) n)), uI σ 26 0 604 (sdN (gI σ 26 0 604))) := by
  unfold sdN
  simp (disch := omega) only [e_Md_drawn_0, e_Md_drawn_1, e_Md_drawn_4, e_Md_drawn_7, e_Md_drawn_8, e_Md_drawn_11, e_Md_drawn_14, e_Md_drawn_15, e_Md_drawn_18, e_Md_drawn_19, e_Md_drawn_22, e_Md_drawn_23, e_Md_drawn_24, e_Md_drawn_25, e_Md_drawn_28, e_Md_drawn_31, e_Md_drawn_32, e_Md_drawn_34, e_Md_drawn_35, e_Md_drawn_36, e_Md_drawn_37, gI_self, gI_nt, gI_nj, gL_uI, gR_uI, gI_uL, gR_uL, gI_uR, gL_uR]
theorem seed_Sim {τ σ : aM} {B : Int} (v : Int) (hS : Sim τ σ (-1) B) : Sim (uI τ 6 0 5 v) (uI σ 26 0 604 v) (-1) B := by
  have h601 := hS.2.2.2.1.1.1
  have h602 := hS.2.2.2.1.1.2.1
  have g3 := hS.2.2.2.2.2.2.1
  have g4 := hS.2.2.2.2.2.1
  exact glob_Sim hS (fun t i j z => by rw [gI_uI, if_neg (by omega)]) (fun k z => by rw [gI_nj _ _ _ _ _ _ _ _ (by omega)]) (by simp (disch := omega) only [gI_self, gI_nt, gI_nj, gL_uI, gR_uI, gI_uL, gR_uL, gI_uR, gL_uR]; exact h601) (by simp (disch := omega) only [gI_self, gI_nt, gI_nj, gL_uI, gR_uI, gI_uL, gR_uL, gI_uR, gL_uR]; exact h602) (by simp (disch := omega) only [gI_self, gI_nt, gI_nj, gL_uI, gR_uI, gI_uL, gR_uL, gI_uR, gL_uR]) (by simp (disch := omega) only [gI_self, gI_nt, gI_nj, gL_uI, gR_uI, gI_uL, gR_uL, gI_uR, gL_uR]; exact g3) (by simp (disch := omega) only [gI_self, gI_nt, gI_nj, gL_uI, gR_uI, gI_uL, gR_uL, gI_uR, gL_uR]; exact g4)
def dr1 (s : Int) : Int := sdN s
def dr2 (s : Int) : Int := sdN (sdN s)
def dr3 (s : Int) : Int := sdN (sdN (sdN s))
def dr4 (s : Int) : Int := sdN (sdN (sdN (sdN s)))
abbrev drO (s : Int) : Int := rem (shr (dr1 s) 16) 8
abbrev drS (s : Int) : Int := rem (shr (dr2 s) 16) 2
abbrev drQ (s : Int) : Int := rem (shr (dr3 s) 16) 20 + 1
abbrev drP (s : Int) : Int := rem (shr (dr4 s) 16) 21 + 490
theorem dr_rg (s : Int) : (0 ≤ drO s ∧ drO s < 8) ∧ (0 ≤ drS s ∧ drS s ≤ 1) ∧ (1 ≤ drQ s ∧ drQ s ≤ 20) ∧ (490 ≤ drP s ∧ drP s ≤ 510) := by
  have h1 := rem_rg (n := 8) (shr_rg (dr1 s)) (by omega)
  have h2 := rem_rg (n := 2) (shr_rg (dr2 s)) (by omega)
  have h3 := rem_rg (n := 20) (shr_rg (dr3 s)) (by omega)
  have h4 := rem_rg (n := 21) (shr_rg (dr4 s)) (by omega)
  unfold drO drS drQ drP
  omega
theorem u_dr (τ : aM) (n came k : Int) (a4 a5 a6 a7 : AV) (hk : k < n) : ev 108 22 [aR 0 0, aI n, aI came, aI k, a4, a5, a6, a7] [] τ = ev 108 76 [aR 0 0, aI n, aI came, aI k, aI (drO (gI τ 6 0 5)), aI (drS (gI τ 6 0 5)), aI (drQ (gI τ 6 0 5)), aI (drP (gI τ 6 0 5))] [] (uI τ 6 0 5 (dr4 (gI τ 6 0 5))) := by
  have hr := dr_rg (gI τ 6 0 5)
  have d1 : ∀ σ : aM, gI σ 6 0 5 = gI τ 6 0 5 → ev 12 0 [aR 6 0, aI 8] [] σ = some (some (aI (drO (gI τ 6 0 5))), uI σ 6 0 5 (dr1 (gI τ 6 0 5))) := fun σ h => by rw [c_Bk_drawBelow 8 σ (by omega), h]; rfl
  have d2 : ∀ σ : aM, gI σ 6 0 5 = dr1 (gI τ 6 0 5) → ev 12 0 [aR 6 0, aI 2] [] σ = some (some (aI (drS (gI τ 6 0 5))), uI σ 6 0 5 (dr2 (gI τ 6 0 5))) := fun σ h => by rw [c_Bk_drawBelow 2 σ (by omega), h]; rfl
  have d3 : ∀ σ : aM, gI σ 6 0 5 = dr2 (gI τ 6 0 5) → ev 12 0 [aR 6 0, aI 20] [] σ = some (some (aI (rem (shr (dr3 (gI τ 6 0 5)) 16) 20)), uI σ 6 0 5 (dr3 (gI τ 6 0 5))) := fun σ h => by rw [c_Bk_drawBelow 20 σ (by omega), h]; rfl
  have d4 : ∀ σ : aM, gI σ 6 0 5 = dr3 (gI τ 6 0 5) → ev 12 0 [aR 6 0, aI 21] [] σ = some (some (aI (rem (shr (dr4 (gI τ 6 0 5)) 16) 21)), uI σ 6 0 5 (dr4 (gI τ 6 0 5))) := fun σ h => by rw [c_Bk_drawBelow 21 σ (by omega), h]; rfl
  have e1 := d1 τ rfl
  have e2 := d2 (uI τ 6 0 5 (dr1 (gI τ 6 0 5))) (gI_self _ _ _ _ _)
  have e3 := d3 (uI τ 6 0 5 (dr2 (gI τ 6 0 5))) (gI_self _ _ _ _ _)
  have e4 := d4 (uI τ 6 0 5 (dr3 (gI τ 6 0 5))) (gI_self _ _ _ _ _)
  rw [uI_uI] at e2 e3 e4
  have w3 : wr (rem (shr (dr3 (gI τ 6 0 5)) 16) 20 + 1) = drQ (gI τ 6 0 5) := wr_id (by have := hr.2.2.1.1; unfold drQ at this; omega) (by have := hr.2.2.1.2; unfold drQ at this; omega)
  have w4 : wr (rem (shr (dr4 (gI τ 6 0 5)) 16) 21 + 490) = drP (gI τ 6 0 5) := wr_id (by have := hr.2.2.2.1; unfold drP at this; omega) (by have := hr.2.2.2.2; unfold drP at this; omega)
  rw [e_Ub_draws_22]
  simp (disch := omega) only [e_Ub_draws_23, e_Ub_draws_24, e_Ub_draws_27, e_Ub_draws_28, e_Ub_draws_31, e_Ub_draws_33, e_Ub_draws_36, e_Ub_draws_38, e_Ub_draws_39, e_Ub_draws_42, e_Ub_draws_43, e_Ub_draws_46, e_Ub_draws_48, e_Ub_draws_49, e_Ub_draws_52, e_Ub_draws_54, e_Ub_draws_57, e_Ub_draws_58, e_Ub_draws_59, e_Ub_draws_61, e_Ub_draws_62, e_Ub_draws_65, e_Ub_draws_67, e_Ub_draws_70, e_Ub_draws_73, e_Ub_draws_74, if_neg (show ¬ n ≤ k by omega), e1, e2, e3, e4, evK_i, w3, w4]
theorem m_dr (σ : aM) (n came k : Int) (a4 a5 a6 a7 : AV) (hk : k < n) : ev 206 21 [aR 25 0, aI n, aI came, aI k, a4, a5, a6, a7] [] σ = ev 206 63 [aR 25 0, aI n, aI came, aI k, aI (drO (gI σ 26 0 604)), aI (drS (gI σ 26 0 604)), aI (drQ (gI σ 26 0 604)), aI (drP (gI σ 26 0 604))] [] (uI σ 26 0 604 (dr4 (gI σ 26 0 604))) := by
  have hr := dr_rg (gI σ 26 0 604)
  have d1 : ∀ ρ : aM, gI ρ 26 0 604 = gI σ 26 0 604 → ev 205 0 [aR 25 0, aI 8] [] ρ = some (some (aI (drO (gI σ 26 0 604))), uI ρ 26 0 604 (dr1 (gI σ 26 0 604))) := fun ρ h => by rw [c_Md_drawn 8 ρ (by omega), h]; rfl
  have d2 : ∀ ρ : aM, gI ρ 26 0 604 = dr1 (gI σ 26 0 604) → ev 205 0 [aR 25 0, aI 2] [] ρ = some (some (aI (drS (gI σ 26 0 604))), uI ρ 26 0 604 (dr2 (gI σ 26 0 604))) := fun ρ h => by rw [c_Md_drawn 2 ρ (by omega), h]; rfl
  have d3 : ∀ ρ : aM, gI ρ 26 0 604 = dr2 (gI σ 26 0 604) → ev 205 0 [aR 25 0, aI 20] [] ρ = some (some (aI (rem (shr (dr3 (gI σ 26 0 604)) 16) 20)), uI ρ 26 0 604 (dr3 (gI σ 26 0 604))) := fun ρ h => by rw [c_Md_drawn 20 ρ (by omega), h]; rfl
  have d4 : ∀ ρ : aM, gI ρ 26 0 604 = dr3 (gI σ 26 0 604) → ev 205 0 [aR 25 0, aI 21] [] ρ = some (some (aI (rem (shr (dr4 (gI σ 26 0 604)) 16) 21)), uI ρ 26 0 604 (dr4 (gI σ 26 0 604))) := fun ρ h => by rw [c_Md_drawn 21 ρ (by omega), h]; rfl
  have e1 := d1 σ rfl
  have e2 := d2 (uI σ 26 0 604 (dr1 (gI σ 26 0 604))) (gI_self _ _ _ _ _)
  have e3 := d3 (uI σ 26 0 604 (dr2 (gI σ 26 0 604))) (gI_self _ _ _ _ _)
  have e4 := d4 (uI σ 26 0 604 (dr3 (gI σ 26 0 604))) (gI_self _ _ _ _ _)
  rw [uI_uI] at e2 e3 e4
  have w3 : wr (rem (shr (dr3 (gI σ 26 0 604)) 16) 20 + 1) = drQ (gI σ 26 0 604) := wr_id (by have := hr.2.2.1.1; unfold drQ at this; omega) (by have := hr.2.2.1.2; unfold drQ at this; omega)
  have w4 : wr (rem (shr (dr4 (gI σ 26 0 604)) 16) 21 + 490) = drP (gI σ 26 0 604) := wr_id (by have := hr.2.2.2.1; unfold drP at this; omega) (by have := hr.2.2.2.2; unfold drP at this; omega)
  rw [e_Md_draws_21]
  simp (disch := omega) only [e_Md_draws_22, e_Md_draws_23, e_Md_draws_26, e_Md_draws_27, e_Md_draws_29, e_Md_draws_32, e_Md_draws_34, e_Md_draws_35, e_Md_draws_36, e_Md_draws_39, e_Md_draws_41, e_Md_draws_42, e_Md_draws_44, e_Md_draws_47, e_Md_draws_48, e_Md_draws_49, e_Md_draws_51, e_Md_draws_52, e_Md_draws_54, e_Md_draws_57, e_Md_draws_60, e_Md_draws_61, if_neg (show ¬ n ≤ k by omega), e1, e2, e3, e4, evK_i, w3, w4]
theorem l_draws (n : Int) (hn : n ≤ 20) : ∀ (m : Nat) (k came : Int) (τ σ0 : aM) (B : Int) (a4 a5 a6 a7 : AV), Sim τ σ0 (-1) B → CO τ B → B + 64660 * m < 2147483647 → 0 ≤ k → k + m = n → (0 ≤ came ∧ came ≤ k) →
    ∃ τ' c', ev 108 22 [aR 0 0, aI n, aI came, aI k, a4, a5, a6, a7] [] τ = some (some (aI c'), τ') ∧ CO τ' (B + 64660 * m) ∧ FrC 120 τ τ' ∧ gI τ 6 0 2 ≤ gI τ' 6 0 2 ∧
      ∀ (σ : aM) (b4 b5 b6 b7 : AV), Sim τ σ (-1) B → ∃ σ', ev 206 21 [aR 25 0, aI n, aI came, aI k, b4, b5, b6, b7] [] σ = some (some (aI c'), σ') ∧ Sim τ' σ' (-1) (B + 64660 * m) ∧ FrM σ σ' := by
  intro m
  induction m with
  | zero =>
    intro k came τ σ0 B a4 a5 a6 a7 hS hCO hB h0 h1 hcm
    refine ⟨τ, came, ?_, hCO.mono (by omega), FrC.rfl τ, Int.le_refl _, fun σ b4 b5 b6 b7 hS1 => ⟨σ, ?_, Sim_mono hS1 (by omega), FrM.rfl σ⟩⟩
    · rw [e_Ub_draws_22]
      simp (disch := omega) only [e_Ub_draws_23, e_Ub_draws_24, e_Ub_draws_107, e_Ub_draws_108, if_pos (show n ≤ k by omega)]
    · rw [e_Md_draws_21]
      simp (disch := omega) only [e_Md_draws_22, e_Md_draws_23, e_Md_draws_104, e_Md_draws_105, if_pos (show n ≤ k by omega)]
  | succ m ih =>
    intro k came τ σ0 B a4 a5 a6 a7 hS hCO hB h0 h1 hcm
    have hr := dr_rg (gI τ 6 0 5)
    have hc6 := hS.1.1.2
    have e2 : gI (uI τ 6 0 5 (dr4 (gI τ 6 0 5))) 6 0 2 = gI τ 6 0 2 := gI_nj _ _ _ _ _ _ _ _ (by decide)
    have hS4 := seed_Sim (dr4 (gI τ 6 0 5)) hS
    have hCO4 : CO (uI τ 6 0 5 (dr4 (gI τ 6 0 5))) B := CO_cg hCO e2 (fun i _ _ => gI_nt _ _ _ _ _ _ _ _ (by decide)) (gI_nt _ _ _ _ _ _ _ _ (by decide)) (Int.le_refl _)
    have hF4 : FrC 120 τ (uI τ 6 0 5 (dr4 (gI τ 6 0 5))) := (FrC.rfl τ).u (by omega)
    have hu := u_dr τ n came k a4 a5 a6 a7 (by omega)
    have hM4 : ∀ σ, Sim τ σ (-1) B → gI σ 26 0 604 = gI τ 6 0 5 := fun σ h => h.2.2.2.1.1.2.2.2.1
    rw [hu]
    clear hu
    obtain ⟨τ4, hτ4⟩ : ∃ t, t = uI τ 6 0 5 (dr4 (gI τ 6 0 5)) := ⟨_, rfl⟩
    rw [← hτ4] at e2 hS4 hCO4 hF4 ⊢
    have mstep : ∀ σ (b4 b5 b6 b7 : AV), Sim τ σ (-1) B → ev 206 21 [aR 25 0, aI n, aI came, aI k, b4, b5, b6, b7] [] σ = ev 206 63 [aR 25 0, aI n, aI came, aI k, aI (drO (gI τ 6 0 5)), aI (drS (gI τ 6 0 5)), aI (drQ (gI τ 6 0 5)), aI (drP (gI τ 6 0 5))] [] (uI σ 26 0 604 (dr4 (gI τ 6 0 5))) ∧ Sim τ4 (uI σ 26 0 604 (dr4 (gI τ 6 0 5))) (-1) B := fun σ b4 b5 b6 b7 h => by
      have h1 := m_dr σ n came k b4 b5 b6 b7 (by omega)
      rw [hM4 σ h] at h1
      refine ⟨h1, ?_⟩
      rw [hτ4]
      exact seed_Sim (dr4 (gI τ 6 0 5)) h
    generalize drO (gI τ 6 0 5) = ow at hr mstep ⊢
    generalize drS (gI τ 6 0 5) = sd at hr mstep ⊢
    generalize drQ (gI τ 6 0 5) = q at hr mstep ⊢
    generalize drP (gI τ 6 0 5) = p at hr mstep ⊢
    by_cases h60 : gI τ 6 0 2 < 60
    · have hbr := c_Dk_bring 1 ow sd q p 0 0 B τ4 hCO4 (IO_RG hS4.2.1) (by omega) (by omega) hr.1 (by omega) (by omega) (by omega)
      have hnum : gI τ4 8 (gI τ4 6 0 2) 0 = gI τ4 6 0 2 := hS4.2.2.2.2.2.2.2.2.2.1 _ (by omega) (by omega)
      rw [hnum] at hbr
      have hf := kBr_frc (y0 := 120) (σ := τ4) ⟨by omega, by omega⟩ 1 ow sd q p 0 0
      have hct := kBr_cnt (σ := τ4) ⟨by omega, by omega⟩ 1 ow sd q p 0 0
      have hco := kBr_CO hCO4 (by omega) (by omega) 1 ow sd q p 0 0 hr.1
      obtain ⟨σ5, k1, k2, k3⟩ := br_lim (kd := 1) (ow := ow) (sd := sd) (q := q) (p := p) (d := 0) (how := 0) hS4 (by omega) (by omega) (Or.inl rfl) hr.1 hr.2.1 (by omega) (by omega) ⟨by omega, fun z => by omega⟩ (by omega)
      obtain ⟨τ', c', j1, j2, j3, j4, j5⟩ := ih (k + 1) (came + 1) (kBr τ4 1 ow sd q p 0 0) σ5 (B + 64660) (aI ow) (aI sd) (aI q) (aI p) k2 (hco.mono (by omega)) (by omega) (by omega) (by omega) (by omega)
      refine ⟨τ', c', ?_, j2.mono (by omega), (hF4.trans hf).trans j3, by omega, fun σ b4 b5 b6 b7 hS1 => ?_⟩
      · simp (disch := omega) only [e_Ub_draws_76, e_Ub_draws_77, e_Ub_draws_80, e_Ub_draws_81, e_Ub_draws_83, e_Ub_draws_85, e_Ub_draws_87, e_Ub_draws_89, e_Ub_draws_90, e_Ub_draws_91, e_Ub_draws_94, e_Ub_draws_95, e_Ub_draws_98, e_Ub_draws_101, e_Ub_draws_104, hbr, evK_i, if_neg (show ¬ gI τ4 6 0 2 = -1 by omega), wr_id, j1]
      · obtain ⟨m1, m2⟩ := mstep σ b4 b5 b6 b7 hS1
        obtain ⟨σ6, l1, l2, l3⟩ := br_lim (kd := 1) (ow := ow) (sd := sd) (q := q) (p := p) (d := 0) (how := 0) m2 (by omega) (by omega) (Or.inl rfl) hr.1 hr.2.1 (by omega) (by omega) ⟨by omega, fun z => by omega⟩ (by omega)
        obtain ⟨σ7, n1, n2, n3⟩ := j5 σ6 (aI ow) (aI sd) (aI q) (aI p) l2
        refine ⟨σ7, ?_, Sim_mono n2 (by omega), ((frm_u 604 _).trans l3).trans n3⟩
        rw [m1]
        have h600 := m2.1.1.1
        have hcm := c_Md_comes (uI σ 26 0 604 (dr4 (gI τ 6 0 5))) (gI τ4 6 0 2) 1 ow sd q p 0 h600 ⟨by omega, by omega⟩
        simp (disch := omega) only [e_Md_draws_63, e_Md_draws_64, e_Md_draws_67, e_Md_draws_70, e_Md_draws_71, e_Md_draws_73, e_Md_draws_76, e_Md_draws_77, e_Md_draws_78, e_Md_draws_79, e_Md_draws_81, e_Md_draws_83, e_Md_draws_85, e_Md_draws_87, e_Md_draws_88, e_Md_draws_91, e_Md_draws_92, e_Md_draws_95, e_Md_draws_98, e_Md_draws_101, h600, if_neg (show ¬ 60 ≤ gI τ4 6 0 2 by omega), hcm, evK_i, evK_v, l1, wr_id, n1]
    · have hbr := c_Dk_bring60 1 ow sd q p 0 0 τ4 (by omega)
      obtain ⟨τ', c', j1, j2, j3, j4, j5⟩ := ih (k + 1) came τ4 _ B (aI ow) (aI sd) (aI q) (aI p) hS4 hCO4 (by omega) (by omega) (by omega) (by omega)
      refine ⟨τ', c', ?_, j2.mono (by omega), hF4.trans j3, by omega, fun σ b4 b5 b6 b7 hS1 => ?_⟩
      · simp (disch := omega) only [e_Ub_draws_76, e_Ub_draws_77, e_Ub_draws_80, e_Ub_draws_81, e_Ub_draws_83, e_Ub_draws_85, e_Ub_draws_87, e_Ub_draws_89, e_Ub_draws_90, e_Ub_draws_91, e_Ub_draws_94, e_Ub_draws_95, e_Ub_draws_98, e_Ub_draws_101, e_Ub_draws_104, hbr, evK_i, if_true, wr_id, j1]
      · obtain ⟨m1, m2⟩ := mstep σ b4 b5 b6 b7 hS1
        obtain ⟨σ7, n1, n2, n3⟩ := j5 _ (aI ow) (aI sd) (aI q) (aI p) m2
        refine ⟨σ7, ?_, Sim_mono n2 (by omega), (frm_u 604 _).trans n3⟩
        rw [m1]
        have h600 := m2.1.1.1
        simp (disch := omega) only [e_Md_draws_63, e_Md_draws_64, e_Md_draws_67, e_Md_draws_70, e_Md_draws_71, e_Md_draws_73, e_Md_draws_76, e_Md_draws_77, e_Md_draws_78, e_Md_draws_79, e_Md_draws_81, e_Md_draws_83, e_Md_draws_85, e_Md_draws_87, e_Md_draws_88, e_Md_draws_91, e_Md_draws_92, e_Md_draws_95, e_Md_draws_98, e_Md_draws_101, h600, if_pos (show 60 ≤ gI τ4 6 0 2 by omega), wr_id, n1]
theorem PR_draws {μ : aM} {B : Int} (hI : Inv μ B) (hB : B + 2000000 < 2147483647) (n : Int) : PR B μ (fun σ => ev 108 0 [aR 0 0, aI n, aU, aU, aU, aU, aU, aU] [] σ) (fun σ => ev 206 0 [aR 25 0, aI n, aU, aU, aU, aU, aU, aU] [] σ) := by
  by_cases h : 1 ≤ n ∧ n ≤ 20
  · obtain ⟨τ', c', j1, j2, j3, j4, j5⟩ := l_draws n h.2 n.toNat 0 0 μ μ B aU aU aU aU hI.1 hI.2.1 (by omega) (by omega) (by omega) (by omega)
    obtain ⟨σ', n1, n2, n3⟩ := j5 τ' aU aU aU aU (Sim_25 hI.1 (frc_26 j3))
    refine ⟨c', τ', σ', ?_, ?_, Inv_mono (Inv_step hI j3 n3 n2 j2 j4 (by omega)) (by omega)⟩
    · show ev 108 0 [aR 0 0, aI n, aU, aU, aU, aU, aU, aU] [] μ = _
      simp (disch := omega) only [e_Ub_draws_0, e_Ub_draws_1, e_Ub_draws_2, e_Ub_draws_5, e_Ub_draws_6, e_Ub_draws_8, e_Ub_draws_11, e_Ub_draws_12, e_Ub_draws_14, e_Ub_draws_17, e_Ub_draws_18, e_Ub_draws_19, e_Ub_draws_20, e_Ub_draws_21, if_neg (show ¬ n < 1 by omega), if_pos h.2, j1]
    · have hin := c_Md_in n 1 20 τ'
      rw [if_pos h] at hin
      show ev 206 0 [aR 25 0, aI n, aU, aU, aU, aU, aU, aU] [] τ' = _
      simp (disch := omega) only [e_Md_draws_0, e_Md_draws_1, e_Md_draws_2, e_Md_draws_4, e_Md_draws_7, e_Md_draws_10, e_Md_draws_11, e_Md_draws_13, e_Md_draws_16, e_Md_draws_17, e_Md_draws_18, e_Md_draws_19, e_Md_draws_20, hin, evK_i, one_ne, not_false_eq_true, if_true, n1]
  · refine PR_rfE (r := -6) hI (by omega) ?_ ?_
    · rw [c_Ub_refuse _ _ (by omega)]
      show ev 108 0 [aR 0 0, aI n, aU, aU, aU, aU, aU, aU] [] μ = _
      by_cases h2 : n < 1
      · simp (disch := omega) only [e_Ub_draws_0, e_Ub_draws_1, e_Ub_draws_2, e_Ub_draws_5, e_Ub_draws_6, e_Ub_draws_8, e_Ub_draws_11, e_Ub_draws_12, e_Ub_draws_14, e_Ub_draws_17, if_pos h2, evK_i, c_Ub_refuse]
      · simp (disch := omega) only [e_Ub_draws_0, e_Ub_draws_1, e_Ub_draws_2, e_Ub_draws_5, e_Ub_draws_6, e_Ub_draws_8, e_Ub_draws_11, e_Ub_draws_12, e_Ub_draws_14, e_Ub_draws_17, if_neg h2, if_neg (show ¬ n ≤ 20 by omega), evK_i, c_Ub_refuse]
    · rw [c_Md_refused _ _ (by omega)]
      have hin := c_Md_in n 1 20 (rf4 μ (- -6))
      rw [if_neg h] at hin
      show ev 206 0 [aR 25 0, aI n, aU, aU, aU, aU, aU, aU] [] (rf4 μ (- -6)) = _
      simp (disch := omega) only [e_Md_draws_0, e_Md_draws_1, e_Md_draws_2, e_Md_draws_4, e_Md_draws_7, e_Md_draws_10, e_Md_draws_11, e_Md_draws_13, e_Md_draws_16, hin, evK_i, not_true_eq_false, if_false, c_Md_refused]
