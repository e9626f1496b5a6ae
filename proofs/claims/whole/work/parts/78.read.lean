/-! a text is read, and its items come -/
theorem Inv_tx {μ μ' : aM} {B : Int} (h : Inv μ B) (hL : μ'.2 = μ.2) (ht : ∀ t i j, ¬ (t = 4 ∨ t = 28 ∨ (13 ≤ t ∧ t ≤ 24) ∨ t = 33 ∨ (t = 25 ∧ ¬ j = 3) ∨ (t = 0 ∧ j = 9)) → gI μ' t i j = gI μ t i j) (h4 : ∀ r, 1 ≤ r → r ≤ 7 → gI μ' 4 0 r = gI μ' 28 0 r) (h9 : gI μ' 0 0 9 = gI μ' 25 0 18) : Inv μ' B := by
  obtain ⟨i1, i2, i3, i4, i5, i6, i7⟩ := h
  refine ⟨?_, ?_, fun s s0 s1 => ?_, h4, h9, ?_, fun z => ?_⟩
  · exact Sim_cg i1 (fun j _ _ => ht _ _ _ (by omega)) (fun i j _ _ _ _ => ht _ _ _ (by omega)) (fun i => ht _ _ _ (by omega)) ⟨ht _ _ _ (by omega), ht _ _ _ (by omega)⟩ (fun j _ _ => ht _ _ _ (by omega)) (fun j _ _ => ⟨ht _ _ _ (by omega), ht _ _ _ (by omega)⟩) (fun k _ _ => ht _ _ _ (by omega))
  · exact CO_cg i2 (ht _ _ _ (by omega)) (fun i _ _ => ht _ _ _ (by omega)) (ht _ _ _ (by omega)) (Int.le_refl _)
  · exact ShP_cg (i3 s s0 s1) (fun j => ht _ _ _ (by omega)) (ht _ _ _ (by omega)) (ht _ _ _ (by omega)) (gL_of2 hL) (by rw [ht _ _ _ (by omega)]; exact Int.le_refl _)
  · rw [ht _ _ _ (by omega), ht _ _ _ (by omega)]; exact i6
  · rw [ht _ _ _ (by omega)] at z
    exact Sim_vw (i7 z) (fun k => ht _ _ _ (by omega)) (fun i j _ _ => ht _ _ _ (by omega)) (fun i => ht _ _ _ (by omega)) (fun t j hq => ht _ _ _ (by omega)) (Int.le_refl _)
/-- as Inv_step, with the readers' cells free too -/
theorem Inv_step2 {μ μ1 μ2 : aM} {B B' : Int} (hI : Inv μ B) (hC1 : μ1.2 = μ.2) (hC : ∀ t i j, ¬ (chC 120 t i j ∨ (19 ≤ t ∧ t ≤ 24) ∨ (t = 0 ∧ j = 9)) → gI μ1 t i j = gI μ t i j) (hM1 : μ2.2 = μ1.2) (hM : ∀ t i j, ¬ (t = 26 ∨ (t = 25 ∧ ¬ j = 3)) → gI μ2 t i j = gI μ1 t i j) (hS : Sim μ1 μ2 (-1) B') (hCO : CO μ1 B') (hcnt : gI μ 6 0 2 ≤ gI μ1 6 0 2) (hB : B ≤ B') (h9 : gI μ2 0 0 9 = gI μ2 25 0 18) : Inv μ2 B' := by
  obtain ⟨i1, i2, i3, i4, i5, i6, i7⟩ := hI
  have m : ∀ t i j, ¬ (t = 26 ∨ (t = 25 ∧ ¬ j = 3)) → gI μ2 t i j = gI μ1 t i j := hM
  have c : ∀ t i j, ¬ (chC 120 t i j ∨ (19 ≤ t ∧ t ≤ 24) ∨ (t = 0 ∧ j = 9)) → gI μ1 t i j = gI μ t i j := hC
  refine ⟨?_, ?_, fun s s0 s1 => ?_, fun r r0 r1 => ?_, h9, ?_, fun z => ?_⟩
  · exact Sim_cg hS (fun j _ _ => m _ _ _ (by omega)) (fun i j _ _ _ _ => m _ _ _ (by omega)) (fun i => m _ _ _ (by omega)) ⟨m _ _ _ (by omega), m _ _ _ (by omega)⟩ (fun j _ _ => m _ _ _ (by omega)) (fun j _ _ => ⟨m _ _ _ (by omega), m _ _ _ (by omega)⟩) (fun k _ _ => rfl)
  · exact CO_cg hCO (m _ _ _ (by omega)) (fun i _ _ => m _ _ _ (by omega)) (m _ _ _ (by omega)) (Int.le_refl _)
  · exact ShP_cg (i3 s s0 s1) (fun j => by rw [m _ _ _ (by omega), c _ _ _ (by omega)]) (by rw [m _ _ _ (by omega), c _ _ _ (by omega)]) (by rw [m _ _ _ (by omega), c _ _ _ (by omega)]) (gL_of2 (hM1.trans hC1)) (by rw [m _ _ _ (by omega)]; exact hcnt)
  · rw [m _ _ _ (by omega), m _ _ _ (by omega), c _ _ _ (by omega), c _ _ _ (by omega)]; exact i4 r r0 r1
  · rw [m _ _ _ (by omega), m _ _ _ (by omega), c _ _ _ (by omega), c _ _ _ (by omega)]; exact i6
  · rw [m _ _ _ (by omega), c _ _ _ (by omega)] at z
    refine Sim_vw (i7 z) (fun k => ?_) (fun i j i0 i1 => ?_) (fun i => ?_) (fun t j ht => ?_) hB
    · rw [m _ _ _ (by omega), c _ _ _ (by omega)]
    · rw [m _ _ _ (by omega), c _ _ _ (by omega)]
    · rw [m _ _ _ (by omega), c _ _ _ (by omega)]
    · rw [m _ _ _ (by omega), c _ _ _ (by omega)]
/-- an item comes -/
def kItB (τ : aM) (it : aIt) : aM := kBr τ (if it.2.2.2.2 = 0 then 1 else 2) it.1 it.2.1 it.2.2.1 it.2.2.2.1 it.2.2.2.2 0
def kBrl (τ : aM) : List aIt → aM
  | [] => τ
  | it :: l => kBrl (kItB τ it) l
/-- the reader holds these items, from a place on -/
def RD (τ : aM) : Int → List aIt → Prop
  | _, [] => True
  | i, it :: l => (gI τ 20 0 i = it.1 ∧ gI τ 21 0 i = it.2.1 ∧ gI τ 22 0 i = it.2.2.1 ∧ gI τ 23 0 i = it.2.2.2.1 ∧ gI τ 24 0 i = it.2.2.2.2) ∧ RD τ (i + 1) l
theorem RD_cg {τ τ' : aM} (h : ∀ t j, 20 ≤ t → t ≤ 24 → gI τ' t 0 j = gI τ t 0 j) : ∀ (l : List aIt) (i : Int), RD τ i l → RD τ' i l := by
  intro l
  induction l with
  | nil => intro i _; trivial
  | cons it l ih =>
    intro i hr
    refine ⟨?_, ih (i + 1) hr.2⟩
    rw [h _ _ (by decide) (by decide), h _ _ (by decide) (by decide), h _ _ (by decide) (by decide), h _ _ (by decide) (by decide), h _ _ (by decide) (by decide)]
    exact hr.1
theorem kIt_low (σ : aM) (it : aIt) (t : Nat) (j : Int) (ht : 20 ≤ t ∧ t ≤ 24) (hj : j < gI σ 19 0 5) : gI (kIt σ it) t 0 j = gI σ t 0 j := by
  unfold kIt
  have h : ¬ j = gI σ 19 0 5 := by omega
  rw [gI_nt _ _ _ _ _ _ _ _ (by omega), gI_nj _ _ _ _ _ _ _ _ h, gI_nj _ _ _ _ _ _ _ _ h, gI_nj _ _ _ _ _ _ _ _ h, gI_nj _ _ _ _ _ _ _ _ h, gI_nj _ _ _ _ _ _ _ _ h]
theorem kIts_low : ∀ (l : List aIt) (σ : aM) (t : Nat) (j : Int), (20 ≤ t ∧ t ≤ 24) → j < gI σ 19 0 5 → gI (kIts σ l) t 0 j = gI σ t 0 j := by
  intro l
  induction l with
  | nil => intro σ t j _ _; rfl
  | cons it l ih =>
    intro σ t j ht hj
    rw [kIts, ih _ _ _ ht (by rw [kIt_5]; omega), kIt_low _ _ _ _ ht hj]
theorem kIts_5 : ∀ (l : List aIt) (σ : aM), gI (kIts σ l) 19 0 5 = gI σ 19 0 5 + l.length := by
  intro l
  induction l with
  | nil => intro σ; exact (Int.add_zero _).symm
  | cons it l ih =>
    intro σ
    rw [kIts, ih, kIt_5, List.length_cons]
    omega
theorem kIts_RD : ∀ (l : List aIt) (σ : aM), RD (kIts σ l) (gI σ 19 0 5) l := by
  intro l
  induction l with
  | nil => intro σ; trivial
  | cons it l ih =>
    intro σ
    have h := ih (kIt σ it)
    rw [kIt_5] at h
    refine ⟨?_, h⟩
    show gI (kIts (kIt σ it) l) 20 0 _ = _ ∧ gI (kIts (kIt σ it) l) 21 0 _ = _ ∧ gI (kIts (kIt σ it) l) 22 0 _ = _ ∧ gI (kIts (kIt σ it) l) 23 0 _ = _ ∧ gI (kIts (kIt σ it) l) 24 0 _ = _
    have h5 := kIt_5 σ it
    rw [kIts_low l _ _ _ (by decide) (by omega), kIts_low l _ _ _ (by decide) (by omega), kIts_low l _ _ _ (by decide) (by omega), kIts_low l _ _ _ (by decide) (by omega), kIts_low l _ _ _ (by decide) (by omega)]
    unfold kIt
    simp (disch := omega) only [gI_self, gI_nt, gI_nj, gL_uI, gR_uI, gI_uL, gR_uL, gI_uR, gL_uR, and_self]
theorem kIts_FrT : ∀ (l : List aIt) (σ : aM), FrT σ (kIts σ l) := by
  intro l
  induction l with
  | nil => intro σ; exact FrT.rfl σ
  | cons it l ih => intro σ; exact (kIt_FrT σ it).trans (ih _)
theorem l_Ub_read (s r2 : Int) : ∀ (l : List aIt) (i : Int) (τ σ0 : aM) (B : Int) (a4 : AV), Sim τ σ0 (-1) B → CO τ B → RD τ i l → gI τ 19 0 5 = i + l.length → gI τ 6 0 2 + l.length ≤ 60 → B + 64660 * l.length < 2147483647 → (∀ it ∈ l, okI it) → 0 ≤ i → i + l.length ≤ 27 →
    ev 90 77 [aR 0 0, aI s, aI r2, aI i, a4] [] τ = some (some (aI (i + l.length)), kBrl τ l) ∧ CO (kBrl τ l) (B + 64660 * l.length) ∧ FrC 120 τ (kBrl τ l) ∧ gI (kBrl τ l) 6 0 2 = gI τ 6 0 2 + l.length := by
  intro l
  induction l with
  | nil =>
    intro i τ σ0 B a4 hS hCO hR h5 h60 hB hok h0 h27
    rw [List.length_nil] at h5
    refine ⟨?_, hCO.mono (by simp only [List.length_nil]; omega), FrC.rfl τ, by simp only [List.length_nil]; exact (Int.add_zero _).symm⟩
    rw [e_Ub_read_77, List.length_nil]
    simp (disch := omega) only [e_Ub_read_78, e_Ub_read_79, e_Ub_read_82, e_Ub_read_85, e_Ub_read_169, e_Ub_read_170, e_Ub_read_173, e_Ub_read_176, h5, if_pos (show i + ((0 : Nat) : Int) ≤ i by omega)]
    rfl
  | cons it l ih =>
    intro i τ σ0 B a4 hS hCO hR h5 h60 hB hok h0 h27
    rw [List.length_cons] at h5 h60 hB h27 ⊢
    have hc6 := hS.1.1.2
    obtain ⟨o1, o2, o3, o4, o5⟩ := hok it List.mem_cons_self
    obtain ⟨⟨r1, r2', r3, r4, r5⟩, hR2⟩ := hR
    have hnum : gI τ 8 (gI τ 6 0 2) 0 = gI τ 6 0 2 := hS.2.2.2.2.2.2.2.2.2.1 _ (by omega) (by omega)
    have hkd : (if it.2.2.2.2 = 0 then (1 : Int) else 2) = 1 ∨ (if it.2.2.2.2 = 0 then (1 : Int) else 2) = 2 := by split <;> omega
    have hd2 : (if it.2.2.2.2 = 0 then (1 : Int) else 2) = 2 → 1 ≤ it.2.2.2.2 := by split <;> omega
    have hbr := c_Dk_bring (if it.2.2.2.2 = 0 then 1 else 2) it.1 it.2.1 it.2.2.1 it.2.2.2.1 it.2.2.2.2 0 B τ hCO (IO_RG hS.2.1) (by omega) (by omega) (by omega) (by omega) (by omega) (by omega)
    rw [hnum] at hbr
    have hf := kBr_frc (y0 := 120) (σ := τ) ⟨by omega, by omega⟩ (if it.2.2.2.2 = 0 then 1 else 2) it.1 it.2.1 it.2.2.1 it.2.2.2.1 it.2.2.2.2 0
    have hct := kBr_cnt (σ := τ) ⟨by omega, by omega⟩ (if it.2.2.2.2 = 0 then 1 else 2) it.1 it.2.1 it.2.2.1 it.2.2.2.1 it.2.2.2.2 0
    have hco := kBr_CO hCO (by omega) (by omega) (if it.2.2.2.2 = 0 then 1 else 2) it.1 it.2.1 it.2.2.1 it.2.2.2.1 it.2.2.2.2 0 (by omega)
    obtain ⟨σ5, k1, k2, k3⟩ := br_lim (kd := if it.2.2.2.2 = 0 then 1 else 2) (ow := it.1) (sd := it.2.1) (q := it.2.2.1) (p := it.2.2.2.1) (d := it.2.2.2.2) (how := 0) hS (by omega) (by omega) hkd (by omega) o2 o3 o4 ⟨o5, hd2⟩ (by omega)
    rw [show kBr τ (if it.2.2.2.2 = 0 then 1 else 2) it.1 it.2.1 it.2.2.1 it.2.2.2.1 it.2.2.2.2 0 = kItB τ it from rfl] at hbr hf hct hco k2
    obtain ⟨j1, j2, j3, j4⟩ := ih (i + 1) (kItB τ it) σ5 (B + 64660) (aI (if it.2.2.2.2 = 0 then 1 else 2)) k2 (hco.mono (by omega)) (RD_cg (fun t j t0 t1 => hf.2 _ _ _ (by omega)) l _ hR2) (by rw [hf.2 19 0 5 (by omega)]; omega) (by omega) (by omega) (fun z hz => hok z (List.mem_cons_of_mem _ hz)) (by omega) (by omega)
    refine ⟨?_, j2.mono (by omega), hf.trans j3, by show gI (kBrl (kItB τ it) l) 6 0 2 = _; omega⟩
    have e : i + 1 + (l.length : Int) = i + ((l.length + 1 : Nat) : Int) := by omega
    rw [e] at j1
    show _ = some (some (aI (i + ((l.length + 1 : Nat) : Int))), kBrl (kItB τ it) l)
    rw [← j1, e_Ub_read_77]
    have hle : ¬ gI τ 19 0 5 ≤ i := by omega
    by_cases z : it.2.2.2.2 = 0
    · rw [if_pos z] at hbr ⊢
      simp (disch := omega) only [e_Ub_read_78, e_Ub_read_79, e_Ub_read_82, e_Ub_read_85, e_Ub_read_88, e_Ub_read_89, e_Ub_read_92, e_Ub_read_95, e_Ub_read_96, e_Ub_read_97, e_Ub_read_100, e_Ub_read_101, e_Ub_read_104, e_Ub_read_105, e_Ub_read_107, e_Ub_read_108, e_Ub_read_111, e_Ub_read_113, e_Ub_read_114, e_Ub_read_117, e_Ub_read_120, e_Ub_read_121, e_Ub_read_122, e_Ub_read_123, e_Ub_read_126, e_Ub_read_129, e_Ub_read_130, e_Ub_read_131, e_Ub_read_132, e_Ub_read_135, e_Ub_read_138, e_Ub_read_139, e_Ub_read_140, e_Ub_read_141, e_Ub_read_144, e_Ub_read_147, e_Ub_read_148, e_Ub_read_149, e_Ub_read_150, e_Ub_read_153, e_Ub_read_156, e_Ub_read_157, e_Ub_read_158, e_Ub_read_159, e_Ub_read_162, e_Ub_read_163, e_Ub_read_166, if_neg hle, r1, r2', r3, r4, r5, if_neg (show ¬ ¬ it.2.2.2.2 = 0 from fun y => y z), hbr, evK_i, wr_id]
    · rw [if_neg z] at hbr ⊢
      simp (disch := omega) only [e_Ub_read_78, e_Ub_read_79, e_Ub_read_82, e_Ub_read_85, e_Ub_read_88, e_Ub_read_89, e_Ub_read_92, e_Ub_read_95, e_Ub_read_96, e_Ub_read_97, e_Ub_read_100, e_Ub_read_101, e_Ub_read_104, e_Ub_read_105, e_Ub_read_107, e_Ub_read_108, e_Ub_read_111, e_Ub_read_113, e_Ub_read_114, e_Ub_read_117, e_Ub_read_120, e_Ub_read_121, e_Ub_read_122, e_Ub_read_123, e_Ub_read_126, e_Ub_read_129, e_Ub_read_130, e_Ub_read_131, e_Ub_read_132, e_Ub_read_135, e_Ub_read_138, e_Ub_read_139, e_Ub_read_140, e_Ub_read_141, e_Ub_read_144, e_Ub_read_147, e_Ub_read_148, e_Ub_read_149, e_Ub_read_150, e_Ub_read_153, e_Ub_read_156, e_Ub_read_157, e_Ub_read_158, e_Ub_read_159, e_Ub_read_162, e_Ub_read_163, e_Ub_read_166, if_neg hle, r1, r2', r3, r4, r5, if_pos z, hbr, evK_i, wr_id]
/-- an item comes in the reference -/
theorem m_item1 {τ σ : aM} {g : Int → Int} {N p p2 B : Int} {it : aIt} (h : TX σ g N) (hw : gI σ 25 0 17 = 0) (hp : 0 ≤ p ∧ p ≤ 840) (hi : pIt g p = .inl (p2, it)) (hS : Sim τ σ (-1) B) (hB : B + 64660 < 2147483647) (h60 : gI τ 6 0 2 < 60) (ho : okI it) :
    ∃ σ', ev 174 0 [aR 25 0, aI 1, aU, aU, aU, aU, aU] [] (spA σ p) = some (none, σ') ∧ Sim (kItB τ it) σ' (-1) (B + 64660) ∧ FrX σ σ' ∧ gI σ' 25 0 17 = 0 ∧ gI σ' 25 0 16 = p2 ∧ gI σ' 25 0 18 = gI σ 25 0 18 := by
  have hc6 := hS.1.1.2
  have hit := gm_0 h hw 1 p hp
  rw [hi] at hit
  have hit : _ = _ := hit
  obtain ⟨o1, o2, o3, o4, o5⟩ := ho
  have hkd : (if it.2.2.2.2 = 0 then (1 : Int) else 2) = 1 ∨ (if it.2.2.2.2 = 0 then (1 : Int) else 2) = 2 := by split <;> omega
  have hd2 : (if it.2.2.2.2 = 0 then (1 : Int) else 2) = 2 → 1 ≤ it.2.2.2.2 := by split <;> omega
  have hS' : Sim τ (spA σ p2) (-1) B := Sim_25 hS (fun k => gI_nt _ _ _ _ _ _ _ _ (by decide))
  obtain ⟨σ', k1, k2, k3⟩ := br_lim (kd := if it.2.2.2.2 = 0 then 1 else 2) (ow := it.1) (sd := it.2.1) (q := it.2.2.1) (p := it.2.2.2.1) (d := it.2.2.2.2) (how := 0) hS' (by omega) (by omega) hkd (by omega) o2 o3 o4 ⟨o5, hd2⟩ (by omega)
  have hcm := c_Md_comes (spA σ p2) (gI τ 6 0 2) (if it.2.2.2.2 = 0 then 1 else 2) it.1 it.2.1 it.2.2.1 it.2.2.2.1 it.2.2.2.2 hS'.1.1.1 ⟨by omega, by omega⟩
  refine ⟨σ', ?_, k2, (spA_X σ p2).X.trans k3.X, ?_, ?_, ?_⟩
  · rw [hit]
    by_cases z : it.2.2.2.2 = 0
    · rw [if_pos z] at hcm k1
      simp (disch := omega) only [e_Md_item_149, e_Md_item_150, e_Md_item_153, e_Md_item_154, e_Md_item_155, e_Md_item_157, e_Md_item_160, e_Md_item_161, e_Md_item_164, e_Md_item_165, e_Md_item_166, e_Md_item_167, e_Md_item_169, e_Md_item_171, e_Md_item_173, e_Md_item_176, e_Md_item_177, e_Md_item_180, one_ne, if_false, if_neg (show ¬ ¬ it.2.2.2.2 = 0 from fun y => y z), hcm, evK_i, evK_v, k1]
    · rw [if_neg z] at hcm k1
      simp (disch := omega) only [e_Md_item_149, e_Md_item_150, e_Md_item_153, e_Md_item_154, e_Md_item_155, e_Md_item_157, e_Md_item_160, e_Md_item_161, e_Md_item_164, e_Md_item_165, e_Md_item_166, e_Md_item_167, e_Md_item_169, e_Md_item_171, e_Md_item_173, e_Md_item_176, e_Md_item_177, e_Md_item_180, one_ne, if_false, if_pos z, hcm, evK_i, evK_v, k1]
  · rw [k3.2 25 0 17 (by omega), gI_nj _ _ _ _ _ _ _ _ (by decide)]; exact hw
  · rw [k3.2 25 0 16 (by omega), gI_self]
  · rw [k3.2 25 0 18 (by omega), gI_nj _ _ _ _ _ _ _ _ (by decide)]
theorem l_gt1 {g : Int → Int} {N : Int} : ∀ (n : Nat) (p1 cnt : Int) (τ σ : aM) (B : Int) (l : List aIt), TX σ g N → gI σ 25 0 17 = 0 → gI σ 25 0 16 = p1 → 0 ≤ p1 → p1 ≤ N → (1 ≤ cnt ∧ cnt + n ≤ 27) → tT g N n p1 = .inl l → Sim τ σ (-1) B → gI τ 6 0 2 + l.length ≤ 60 → B + 64660 * l.length < 2147483647 →
    ∃ σ', ev 175 17 [aR 25 0, aI 1, aI cnt] [] σ = some (some (aI (cnt + l.length)), σ') ∧ Sim (kBrl τ l) σ' (-1) (B + 64660 * l.length) ∧ FrX σ σ' ∧ gI σ' 25 0 18 = gI σ 25 0 18 := by
  intro n
  induction n with
  | zero =>
    intro p1 cnt τ σ B l h hw hs p0 pN hc ht hS h60 hB
    have h1 := h.1
    have h30 := h.2.1
    unfold tT at ht
    by_cases c1 : N ≤ p1
    · rw [if_pos c1] at ht
      cases ht
      refine ⟨σ, ?_, Sim_mono hS (by simp only [List.length_nil]; omega), FrX.rfl σ, rfl⟩
      rw [e_Md_goesThrough_17]
      simp (disch := omega) only [e_Md_goesThrough_18, e_Md_goesThrough_21, e_Md_goesThrough_24, e_Md_goesThrough_25, e_Md_goesThrough_28, e_Md_goesThrough_29, e_Md_goesThrough_32, e_Md_goesThrough_33, e_Md_goesThrough_36, e_Md_goesThrough_37, e_Md_goesThrough_67, e_Md_goesThrough_68, hw, not_true_eq_false, if_false, hs, h30, if_pos c1, List.length_nil, Int.natCast_zero, Int.add_zero]
    · rw [if_neg c1] at ht
      by_cases c2 : ¬ g p1 = 59
      · rw [if_pos c2] at ht; cases ht
      · rw [if_neg c2] at ht; cases ht
  | succ n ih =>
    intro p1 cnt τ σ B l h hw hs p0 pN hc ht hS h60 hB
    have h1 := h.1
    have h30 := h.2.1
    have h160 := h.2.2.1
    unfold tT at ht
    by_cases c1 : N ≤ p1
    · rw [if_pos c1] at ht
      cases ht
      refine ⟨σ, ?_, Sim_mono hS (by simp only [List.length_nil]; omega), FrX.rfl σ, rfl⟩
      rw [e_Md_goesThrough_17]
      simp (disch := omega) only [e_Md_goesThrough_18, e_Md_goesThrough_21, e_Md_goesThrough_24, e_Md_goesThrough_25, e_Md_goesThrough_28, e_Md_goesThrough_29, e_Md_goesThrough_32, e_Md_goesThrough_33, e_Md_goesThrough_36, e_Md_goesThrough_37, e_Md_goesThrough_67, e_Md_goesThrough_68, hw, not_true_eq_false, if_false, hs, h30, if_pos c1, List.length_nil, Int.natCast_zero, Int.add_zero]
    · rw [if_neg c1] at ht
      by_cases c2 : ¬ g p1 = 59
      · rw [if_pos c2] at ht; cases ht
      · rw [if_neg c2, pTx_eq] at ht
        cases hp : pIt g (p1 + 1) with
        | inr k => rw [hp] at ht; cases ht
        | inl a =>
          obtain ⟨p2, it⟩ := a
          rw [hp] at ht
          dsimp only at ht
          cases ht2 : tT g N n p2 with
          | inr k => rw [ht2] at ht; cases ht
          | inl l' =>
            rw [ht2] at ht
            cases ht
            rw [List.length_cons] at h60 hB ⊢
            obtain ⟨j1, j2, j3⟩ := pIt_N h hp
            have h2 := (c_Md_one_ok (lo := 59) (hi := 59) h hw p0 (by omega) (by omega)).1
            rw [show spA σ p1 = σ from uI_same σ 25 0 16 p1 hs] at h2
            have e17' : gI (spA σ (p1 + 1)) 25 0 17 = 0 := by rw [gI_nj _ _ _ _ _ _ _ _ (by decide)]; exact hw
            obtain ⟨σ1, m1, m2, m3, m4, m5, m6⟩ := m_item1 h hw (show 0 ≤ p1 + 1 ∧ p1 + 1 ≤ 840 by omega) hp hS (by omega) (by omega) j1
            have hct := kBr_cnt (σ := τ) ⟨hS.1.1.2.1, by omega⟩ (if it.2.2.2.2 = 0 then 1 else 2) it.1 it.2.1 it.2.2.1 it.2.2.2.1 it.2.2.2.2 0
            rw [show kBr τ (if it.2.2.2.2 = 0 then 1 else 2) it.1 it.2.1 it.2.2.1 it.2.2.2.1 it.2.2.2.2 0 = kItB τ it from rfl] at hct
            obtain ⟨σ2, n1, n2, n3, n4⟩ := ih p2 (cnt + 1) (kItB τ it) σ1 (B + 64660) l' (h.to m3) m4 m5 (by omega) j3 (by omega) ht2 m2 (by omega) (by omega)
            refine ⟨σ2, ?_, Sim_mono n2 (by omega), m3.trans n3, n4.trans m6⟩
            have e : cnt + 1 + (l'.length : Int) = cnt + ((l'.length + 1 : Nat) : Int) := by omega
            rw [e] at n1
            rw [← n1, e_Md_goesThrough_17]
            simp (disch := omega) only [e_Md_goesThrough_18, e_Md_goesThrough_21, e_Md_goesThrough_24, e_Md_goesThrough_25, e_Md_goesThrough_28, e_Md_goesThrough_29, e_Md_goesThrough_32, e_Md_goesThrough_33, e_Md_goesThrough_36, e_Md_goesThrough_37, e_Md_goesThrough_40, e_Md_goesThrough_41, e_Md_goesThrough_43, e_Md_goesThrough_45, e_Md_goesThrough_48, e_Md_goesThrough_49, e_Md_goesThrough_50, e_Md_goesThrough_53, e_Md_goesThrough_56, e_Md_goesThrough_57, e_Md_goesThrough_58, e_Md_goesThrough_61, e_Md_goesThrough_64, hw, not_true_eq_false, if_false, hs, h30, if_neg c1, h2, evK_i, e17', m1, evK_v, wr_id]
