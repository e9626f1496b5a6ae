/-! depth -/
/-- what the reference's loop comes to: the level and what was seen -/
def dR (f v : Int → Int) (k : Int) : Nat → Int → Int → Int → Int → Int × Int
  | 0, _, n, _, s => (n, s)
  | c + 1, r, n, p, s =>
    if (if ¬ f r = p then n + 1 else n) > k then ((if ¬ f r = p then n + 1 else n), s + (if (if ¬ f r = p then n + 1 else n) = k then v r else 0))
    else dR f v k c (r + 1) (if ¬ f r = p then n + 1 else n) (f r) (s + (if (if ¬ f r = p then n + 1 else n) = k then v r else 0))
/-- one that is behind the k-th price isn't found any more -/
theorem plF_gt (f : Int → Int) (k : Int) : ∀ (c : Nat) (r lv p : Int), k < lv → plF f k c r lv p = 0 := by
  intro c
  induction c with
  | zero => intro r lv p _; rfl
  | succ c ih =>
    intro r lv p h
    rw [plF]
    by_cases z : f r = p
    · rw [if_neg (show ¬ ¬ f r = p from fun y => y z), if_neg (show ¬ ¬ f r = p from fun y => y z), if_neg (by omega)]
      exact ih _ _ _ h
    · rw [if_pos z, if_pos z, if_neg (by omega)]
      exact ih _ _ _ (by omega)
theorem sum_none (f v : Int → Int) (P : Int) : ∀ (c : Nat) (r : Int), (∀ x, r ≤ x → x < r + c → ¬ f x = P) → suF (fun x => if f x = P then v x else 0) c r = 0 := by
  intro c
  induction c with
  | zero => intro r _; rfl
  | succ c ih =>
    intro r h
    rw [suF, if_neg (h r (by omega) (by omega)), ih (r + 1) (fun x x0 x1 => h x (by omega) (by omega))]
    rfl
/-- at the k-th price -/
theorem dR_at {f v : Int → Int} {k P : Int} : ∀ (c : Nat) (r s : Int), (∀ a b d, r ≤ a → a ≤ b → b ≤ d → d < r + c → f a = f d → f b = f a) → (∀ b d, r ≤ b → b ≤ d → d < r + c → f d = P → f b = P) → k ≤ (dR f v k c r k P s).1 ∧ (dR f v k c r k P s).2 = s + suF (fun x => if f x = P then v x else 0) c r := by
  intro c
  induction c with
  | zero => intro r s _ _; exact ⟨Int.le_refl _, (Int.add_zero _).symm⟩
  | succ c ih =>
    intro r s hc hP
    rw [dR, suF]
    by_cases z : f r = P
    · rw [if_neg (show ¬ ¬ f r = P from fun y => y z), if_neg (show ¬ k > k by omega), if_pos (show k = k from rfl), z, if_pos rfl]
      obtain ⟨a1, a2⟩ := ih (r + 1) (s + v r) (fun a b d a0 a1 a2 a3 e => hc a b d (by omega) a1 a2 (by omega) e) (fun b d b0 b1 b2 e => hP b d (by omega) b1 (by omega) e)
      exact ⟨a1, by rw [a2]; omega⟩
    · rw [if_pos z, if_pos (show k + 1 > k by omega), if_neg (show ¬ k + 1 = k by omega), if_neg z, sum_none f v P c (r + 1) (fun x x0 x1 e => z (hP r x (by omega) (by omega) (by omega) e))]
      exact ⟨by dsimp only; omega, by dsimp only; omega⟩
/-- before the k-th price -/
theorem dR_lv {f v : Int → Int} {k : Int} : ∀ (c : Nat) (r n p s : Int), n < k → (∀ a b d, r ≤ a → a ≤ b → b ≤ d → d < r + c → f a = f d → f b = f a) → (∀ x, r ≤ x → x < r + c → 1 ≤ f x) →
    (plF f k c r n p = 0 → (dR f v k c r n p s).1 < k) ∧ (¬ plF f k c r n p = 0 → k ≤ (dR f v k c r n p s).1 ∧ ∃ r0, (r ≤ r0 ∧ r0 < r + c) ∧ f r0 = plF f k c r n p ∧ (r0 = r → ¬ f r = p) ∧ (r < r0 → ¬ f (r0 - 1) = f r0) ∧ (dR f v k c r n p s).2 = s + suF (fun x => if f x = plF f k c r n p then v x else 0) (r + c - r0).toNat r0) := by
  intro c
  induction c with
  | zero => intro r n p s hn _ _; exact ⟨fun _ => hn, fun h => absurd rfl h⟩
  | succ c ih =>
    intro r n p s hn hc h1
    have hfr := h1 r (by omega) (by omega)
    rw [plF, dR]
    by_cases z : f r = p
    · rw [if_neg (show ¬ ¬ f r = p from fun y => y z), if_neg (show ¬ ¬ f r = p from fun y => y z), if_neg (show ¬ n = k by omega), if_neg (show ¬ n > k by omega), if_neg (show ¬ n = k by omega), Int.add_zero]
      rw [z]
      obtain ⟨i1, i2⟩ := ih (r + 1) n p s hn (fun a b d a0 a1 a2 a3 e => hc a b d (by omega) a1 a2 (by omega) e) (fun x x0 x1 => h1 x (by omega) (by omega))
      refine ⟨i1, fun h => ?_⟩
      obtain ⟨j1, r0, j2, j3, j4, j5, j6⟩ := i2 h
      refine ⟨j1, r0, ⟨by omega, by omega⟩, j3, fun y => by omega, fun y => ?_, ?_⟩
      · by_cases q : r0 = r + 1
        · have h4 := j4 q
          rw [q, show r + 1 - 1 = r by omega, z]
          exact fun e => h4 e.symm
        · exact j5 (by omega)
      · rw [j6, show (r + 1 + (c : Int) - r0).toNat = (r + ((c + 1 : Nat) : Int) - r0).toNat by omega]
    · rw [if_pos z, if_pos z]
      by_cases y : n + 1 = k
      · rw [if_pos y, if_neg (show ¬ n + 1 > k by omega), if_pos y, y]
        obtain ⟨a1, a2⟩ := dR_at (f := f) (v := v) (k := k) (P := f r) c (r + 1) (s + v r) (fun a b d a0 a1 a2 a3 e => hc a b d (by omega) a1 a2 (by omega) e) (fun b d b0 b1 b2 e => hc r b d (by omega) (by omega) b1 (by omega) e.symm)
        refine ⟨fun h => by omega, fun _ => ⟨a1, r, ⟨by omega, by omega⟩, rfl, fun _ => z, fun h => by omega, ?_⟩⟩
        rw [a2, show (r + ((c + 1 : Nat) : Int) - r).toNat = c + 1 by omega, suF, if_pos rfl]
        omega
      · rw [if_neg y, if_neg (show ¬ n + 1 > k by omega), if_neg y, Int.add_zero]
        obtain ⟨i1, i2⟩ := ih (r + 1) (n + 1) (f r) s (by omega) (fun a b d a0 a1 a2 a3 e => hc a b d (by omega) a1 a2 (by omega) e) (fun x x0 x1 => h1 x (by omega) (by omega))
        refine ⟨i1, fun h => ?_⟩
        obtain ⟨j1, r0, j2, j3, j4, j5, j6⟩ := i2 h
        refine ⟨j1, r0, ⟨by omega, by omega⟩, j3, fun y => by omega, fun y => ?_, ?_⟩
        · by_cases q : r0 = r + 1
          · have h4 := j4 q
            rw [q, show r + 1 - 1 = r by omega]
            exact fun e => h4 e.symm
          · exact j5 (by omega)
        · rw [j6, show (r + 1 + (c : Int) - r0).toNat = (r + ((c + 1 : Nat) : Int) - r0).toNat by omega]
theorem suF_split (g : Int → Int) : ∀ (a b : Nat) (i : Int), suF g (a + b) i = suF g a i + suF g b (i + a) := by
  intro a
  induction a with
  | zero => intro b i; rw [Nat.zero_add, suF]; simp
  | succ a ih =>
    intro b i
    rw [show a + 1 + b = (a + b) + 1 by omega, suF, suF, ih, show i + 1 + (a : Int) = i + ((a + 1 : Nat) : Int) by omega]
    omega
/-- the whole: what was seen is what is visible at the k-th price -/
theorem dR_all {f v : Int → Int} {k : Int} (m : Nat) (hk : 0 ≤ k) (hc : ∀ a b d : Int, 0 ≤ a → a ≤ b → b ≤ d → d < m → f a = f d → f b = f a) (h1 : ∀ x : Int, 0 ≤ x → x < m → 1 ≤ f x) :
    (plF f k m 0 (-1) 0 = 0 → (dR f v k m 0 (-1) 0 0).1 < k) ∧ (¬ plF f k m 0 (-1) 0 = 0 → k ≤ (dR f v k m 0 (-1) 0 0).1 ∧ (dR f v k m 0 (-1) 0 0).2 = suF (fun x => if f x = plF f k m 0 (-1) 0 then v x else 0) m 0) := by
  obtain ⟨i1, i2⟩ := dR_lv (f := f) (v := v) (k := k) m 0 (-1) 0 0 (by omega) (fun a b d a0 a1 a2 a3 e => hc a b d a0 a1 a2 (by omega) e) (fun x x0 x1 => h1 x x0 (by omega))
  refine ⟨i1, fun h => ?_⟩
  obtain ⟨j1, r0, j2, j3, j4, j5, j6⟩ := i2 h
  refine ⟨j1, ?_⟩
  have e := suF_split (fun x => if f x = plF f k m 0 (-1) 0 then v x else 0) r0.toNat (0 + (m : Int) - r0).toNat 0
  rw [show r0.toNat + (0 + (m : Int) - r0).toNat = m by omega, sum_none f v _ r0.toNat 0 (fun x x0 x1 q => by
    have y : x < r0 := by omega
    have q2 : f x = f r0 := q.trans j3.symm
    have := hc x (r0 - 1) r0 x0 (by omega) (by omega) (by omega) q2
    exact j5 (by omega) (this.trans q2)), show (0 : Int) + (r0.toNat : Int) = r0 by omega] at e
  rw [j6, e]
theorem l_Md_depth {τ σ : aM} {w m k wh : Int} {lf : Int → Int} (h : RO τ σ (-1)) (hI : IO τ (-1)) (hL : Ln τ w (gI τ 6 0 2) m lf) : ∀ (c : Nat) (r n p s : Int), 0 ≤ r → r + c = m → (-1 ≤ n ∧ n ≤ r) → (0 ≤ s ∧ s ≤ 999 * r) →
    ev 196 49 [aR 25 0, aI w, aI k, aI wh, aI n, aI p, aI s, aI r, aI (lnA m lf r)] [] σ = some (some (aI (if wh = 0 ∧ ¬ plF (fun x => pfB τ w (lf x)) k c r n p = 0 then plF (fun x => pfB τ w (lf x)) k c r n p else if k < 0 ∨ (dR (fun x => pfB τ w (lf x)) (fun x => vsN τ (lf x)) k c r n p s).1 < k then -1 else (dR (fun x => pfB τ w (lf x)) (fun x => vsN τ (lf x)) k c r n p s).2)), σ) := by
  have hm := h.1
  have h60 := hL.1
  have fin : ∀ n p s r o : Int, ev 196 136 [aR 25 0, aI w, aI k, aI wh, aI n, aI p, aI s, aI r, aI o] [] σ = some (some (aI (if k < 0 ∨ n < k then -1 else s)), σ) := fun n p s r o => by
    by_cases z1 : k < 0
    · rw [if_pos (Or.inl z1)]
      simp (disch := omega) only [e_Md_depth_136, e_Md_depth_137, e_Md_depth_140, e_Md_depth_142, e_Md_depth_143, e_Md_depth_146, e_Md_depth_147, e_Md_depth_150, e_Md_depth_152, if_pos z1]
    · by_cases z2 : n < k
      · rw [if_pos (Or.inr z2)]
        simp (disch := omega) only [e_Md_depth_136, e_Md_depth_137, e_Md_depth_140, e_Md_depth_142, e_Md_depth_143, e_Md_depth_146, e_Md_depth_147, e_Md_depth_150, e_Md_depth_152, if_neg z1, if_neg (show ¬ k ≤ n by omega)]
      · rw [if_neg (fun y => y.elim z1 z2)]
        simp (disch := omega) only [e_Md_depth_136, e_Md_depth_137, e_Md_depth_140, e_Md_depth_142, e_Md_depth_143, e_Md_depth_146, e_Md_depth_147, e_Md_depth_150, e_Md_depth_152, if_neg z1, if_pos (show k ≤ n by omega)]
  intro c
  induction c with
  | zero =>
    intro r n p s h0 h1 h2 h3
    have e : lnA m lf r = -1 := if_neg (by omega)
    rw [e_Md_depth_49, e]
    simp (disch := omega) only [e_Md_depth_51, e_Md_depth_52, if_true, fin]
    rw [if_neg (show ¬ (wh = 0 ∧ ¬ plF (fun x => pfB τ w (lf x)) k 0 r n p = 0) from fun y => y.2 rfl)]
    rfl
  | succ c ih =>
    intro r n p s h0 h1 h2 h3
    have e : lnA m lf r = lf r := if_pos (by omega)
    have hr := hL.2.1 r h0 (by omega)
    have hpo := c_Md_priceOf (lf r) h hI hr.1.1 hr.1.2
    have hpr := pO_rg hI hr.1.1 hr.1.2
    have epo : pO τ (lf r) = pfB τ w (lf r) := by
      unfold pO
      rw [if_pos hr.2.1.1, hr.2.1.2]
    rw [epo] at hpo hpr
    have hne : ¬ pfB τ w (lf r) = 0 := hr.2.2
    have hse := c_Md_seen (lf r) h hr.1.1 hr.1.2
    have hvr := vsN_rg hI hr.1.1 hr.1.2
    have hrk := c_Md_ranked (r + 1) h hI hL
    rw [e_Md_depth_49, e, plF, dR]
    obtain ⟨n', hn'⟩ : ∃ n', n' = (if ¬ pfB τ w (lf r) = p then n + 1 else n) := ⟨_, rfl⟩
    obtain ⟨p', hp'⟩ : ∃ p', p' = (if ¬ pfB τ w (lf r) = p then pfB τ w (lf r) else p) := ⟨_, rfl⟩
    have hp2 : p' = pfB τ w (lf r) := by
      rw [hp']
      by_cases z : pfB τ w (lf r) = p
      · rw [if_neg (fun y => y z), z]
      · rw [if_pos z]
    have hn2 : -1 ≤ n' ∧ n' ≤ r + 1 := by
      rw [hn']
      split <;> omega
    rw [← hn', ← hp', hp2]
    have s1 : ev 196 51 [aR 25 0, aI w, aI k, aI wh, aI n, aI p, aI s, aI r, aI (lf r)] [aI (lf r)] σ = ev 196 77 [aR 25 0, aI w, aI k, aI wh, aI n', aI (pfB τ w (lf r)), aI s, aI r, aI (lf r)] [] σ := by
      by_cases z : pfB τ w (lf r) = p
      · rw [hn', if_neg (show ¬ ¬ pfB τ w (lf r) = p from fun y => y z)]
        simp (disch := omega) only [e_Md_depth_51, e_Md_depth_52, e_Md_depth_55, e_Md_depth_56, e_Md_depth_58, e_Md_depth_61, e_Md_depth_63, e_Md_depth_66, e_Md_depth_69, e_Md_depth_70, e_Md_depth_72, e_Md_depth_75, if_neg (show ¬ lf r = -1 by omega), hpo, evK_i, if_pos z]
        rw [z]
      · rw [hn', if_pos z]
        simp (disch := omega) only [e_Md_depth_51, e_Md_depth_52, e_Md_depth_55, e_Md_depth_56, e_Md_depth_58, e_Md_depth_61, e_Md_depth_63, e_Md_depth_66, e_Md_depth_69, e_Md_depth_70, e_Md_depth_72, e_Md_depth_75, if_neg (show ¬ lf r = -1 by omega), hpo, evK_i, if_neg z, wr_id]
    rw [s1]
    by_cases y : n' = k
    · rw [if_pos y, if_neg (show ¬ n' > k by omega), if_pos y]
      have s2 : ev 196 77 [aR 25 0, aI w, aI k, aI wh, aI n', aI (pfB τ w (lf r)), aI s, aI r, aI (lf r)] [] σ = ev 196 98 [aR 25 0, aI w, aI k, aI wh, aI n', aI (pfB τ w (lf r)), aI (s + vsN τ (lf r)), aI r, aI (lf r)] [] σ := by
        simp (disch := omega) only [e_Md_depth_77, e_Md_depth_79, e_Md_depth_81, e_Md_depth_82, e_Md_depth_85, e_Md_depth_86, e_Md_depth_88, e_Md_depth_91, e_Md_depth_94, e_Md_depth_95, e_Md_depth_96, if_neg (show ¬ ¬ n' = k from fun q => q y), hse, evK_i, wr_id]
      rw [s2]
      by_cases zw : wh = 0
      · rw [if_pos ⟨zw, hne⟩]
        simp (disch := omega) only [e_Md_depth_98, e_Md_depth_100, e_Md_depth_101, e_Md_depth_104, e_Md_depth_105, e_Md_depth_108, e_Md_depth_110, if_neg (show ¬ ¬ n' = k from fun q => q y), if_neg (show ¬ ¬ wh = 0 from fun q => q zw)]
      · have ih' := ih (r + 1) n' (pfB τ w (lf r)) (s + vsN τ (lf r)) (by omega) (by omega) (by omega) (by omega)
        rw [if_neg (fun q => zw q.1)] at ih' ⊢
        rw [← ih']
        simp (disch := omega) only [e_Md_depth_98, e_Md_depth_100, e_Md_depth_101, e_Md_depth_104, e_Md_depth_105, e_Md_depth_108, e_Md_depth_110, e_Md_depth_111, e_Md_depth_114, e_Md_depth_116, e_Md_depth_117, e_Md_depth_120, e_Md_depth_121, e_Md_depth_124, e_Md_depth_125, e_Md_depth_126, e_Md_depth_128, e_Md_depth_131, e_Md_depth_133, if_neg (show ¬ ¬ n' = k from fun q => q y), if_pos zw, wr_id, if_pos (show n' ≤ k by omega), hrk, evK_i]
    · rw [if_neg y, if_neg y, Int.add_zero]
      have s2 : ev 196 77 [aR 25 0, aI w, aI k, aI wh, aI n', aI (pfB τ w (lf r)), aI s, aI r, aI (lf r)] [] σ = ev 196 111 [aR 25 0, aI w, aI k, aI wh, aI n', aI (pfB τ w (lf r)), aI s, aI r, aI (lf r)] [] σ := by
        simp (disch := omega) only [e_Md_depth_77, e_Md_depth_79, e_Md_depth_81, e_Md_depth_82, e_Md_depth_85, e_Md_depth_86, e_Md_depth_88, e_Md_depth_91, e_Md_depth_94, e_Md_depth_95, e_Md_depth_96, e_Md_depth_98, e_Md_depth_100, e_Md_depth_101, if_pos y, Int.add_zero, wr_id]
      rw [s2]
      by_cases g : n' > k
      · rw [if_pos g, plF_gt _ _ _ _ _ _ g, if_neg (fun q => q.2 rfl)]
        dsimp only
        rw [← fin n' (pfB τ w (lf r)) s (r + 1) (-1)]
        simp (disch := omega) only [e_Md_depth_111, e_Md_depth_114, e_Md_depth_116, e_Md_depth_117, e_Md_depth_120, e_Md_depth_121, e_Md_depth_124, e_Md_depth_125, e_Md_depth_126, e_Md_depth_128, e_Md_depth_131, e_Md_depth_133, if_neg (show ¬ n' ≤ k by omega), wr_id]
        rw [e_Md_depth_49]
        simp (disch := omega) only [e_Md_depth_51, e_Md_depth_52, if_true]
      · rw [if_neg g]
        have ih' := ih (r + 1) n' (pfB τ w (lf r)) s (by omega) (by omega) (by omega) (by omega)
        rw [← ih']
        simp (disch := omega) only [e_Md_depth_111, e_Md_depth_114, e_Md_depth_116, e_Md_depth_117, e_Md_depth_120, e_Md_depth_121, e_Md_depth_124, e_Md_depth_125, e_Md_depth_126, e_Md_depth_128, e_Md_depth_131, e_Md_depth_133, if_pos (show n' ≤ k by omega), wr_id, hrk, evK_i]
theorem PR_depth {μ : aM} {B : Int} (hI : Inv μ B) (w k wh : Int) : PR B μ (fun σ => ev 100 0 [aR 0 0, aI w, aI k, aI wh, aU] [] σ) (fun σ => ev 196 0 [aR 25 0, aI w, aI k, aI wh, aU, aU, aU, aU, aU] [] σ) := by
  obtain ⟨hc, h600, hR, hnum, h601, hph⟩ := Inv_f hI
  by_cases h : 0 ≤ w ∧ w < 2
  · by_cases hw : 0 ≤ wh ∧ wh ≤ 1
    · obtain ⟨τ', m, lf, k1, k2, k3, k4⟩ := c_Rk_lineUp μ w B hI.2.1 hR hI.1.2.2.1
      have hS := Sim_25 hI.1 (K_26 k2)
      have hm : 0 ≤ m ∧ m ≤ 60 := by have := k3.1; omega
      have hpl := c_Rk_priceOfLevel τ' m k lf (pfB μ w) hm k4
      have hvv : vsN τ' = vsN μ := funext fun x => vsN_K k2 x
      have hva := fun p => c_Rk_visibleAt τ' m p lf (pfB μ w) hm k4 (fun r r0 r1 => by
        rw [hvv]
        have := (k3.2.1 r r0 r1).1
        exact vsN_rg hI.1.2.1 this.1 this.2)
      rw [hvv] at hva
      have hrk := c_Md_ranked 0 hS.1 hS.2.1 k3
      have hl := l_Md_depth (k := k) (wh := wh) hS.1 hS.2.1 k3 m.toNat 0 (-1) 0 0 (by omega) (by omega) (by omega) (by omega)
      have hin := c_Md_in wh 0 1 τ'
      rw [if_pos hw] at hin
      have hp1 : ∀ x : Int, 0 ≤ x → x < (m.toNat : Int) → 1 ≤ pfB μ w (lf x) := fun x x0 x1 => by
        have hr := k3.2.1 x x0 (by omega)
        have hp := pO_rg hI.1.2.1 hr.1.1 hr.1.2
        have epo : pO μ (lf x) = pfB μ w (lf x) := by
          unfold pO
          rw [if_pos hr.2.1.1, hr.2.1.2]
        rw [epo] at hp
        have := hr.2.2
        omega
      have hcg : ∀ a b d : Int, 0 ≤ a → a ≤ b → b ≤ d → d < (m.toNat : Int) → pfB μ w (lf a) = pfB μ w (lf d) → pfB μ w (lf b) = pfB μ w (lf a) := fun a b d a0 ab bd dm e => by
        by_cases q1 : a = b
        · rw [q1]
        · by_cases q2 : b = d
          · rw [q2]; exact e.symm
          · have h1 := k3.2.2.2 a b a0 (by omega) (by omega)
            have h2 := k3.2.2.2 b d (by omega) (by omega) (by omega)
            have s1 := (k3.2.1 a a0 (by omega)).2.1.2
            have s2 := (k3.2.1 b (by omega) (by omega)).2.1.2
            unfold AH ahd at h1 h2
            rw [s1] at h1
            rw [s2] at h2
            omega
      have pl0 : k < 0 → plF (fun r => pfB μ w (lf r)) k m.toNat 0 (-1) 0 = 0 := fun hk => by
        cases hmm : m.toNat with
        | zero => rfl
        | succ c =>
          have := hp1 0 (by omega) (by omega)
          rw [plF, if_pos (show ¬ pfB μ w (lf 0) = 0 by omega), if_pos (show ¬ pfB μ w (lf 0) = 0 by omega), if_neg (by omega)]
          exact plF_gt _ _ _ _ _ _ (by omega)
      refine ⟨if plF (fun r => pfB μ w (lf r)) k m.toNat 0 (-1) 0 = 0 then -1 else if wh = 0 then plF (fun r => pfB μ w (lf r)) k m.toNat 0 (-1) 0 else suF (fun r => if pfB μ w (lf r) = plF (fun r => pfB μ w (lf r)) k m.toNat 0 (-1) 0 then vsN μ (lf r) else 0) m.toNat 0, τ', τ', ?_, ?_, Inv_mono (Inv_K hI k2) (by omega)⟩
      · show ev 100 0 [aR 0 0, aI w, aI k, aI wh, aU] [] μ = _
        obtain ⟨P, hP⟩ : ∃ P, P = plF (fun r => pfB μ w (lf r)) k m.toNat 0 (-1) 0 := ⟨_, rfl⟩
        rw [← hP] at hpl ⊢
        by_cases z : P = 0
        · rw [if_pos z]
          simp (disch := omega) only [e_Ub_depth_0, e_Ub_depth_1, e_Ub_depth_4, e_Ub_depth_7, e_Ub_depth_8, e_Ub_depth_9, e_Ub_depth_12, e_Ub_depth_13, e_Ub_depth_14, e_Ub_depth_17, e_Ub_depth_18, e_Ub_depth_19, e_Ub_depth_22, e_Ub_depth_23, e_Ub_depth_25, e_Ub_depth_28, e_Ub_depth_29, e_Ub_depth_30, e_Ub_depth_33, e_Ub_depth_34, e_Ub_depth_37, e_Ub_depth_38, e_Ub_depth_41, e_Ub_depth_42, e_Ub_depth_45, e_Ub_depth_46, e_Ub_depth_49, e_Ub_depth_51, e_Ub_depth_53, e_Ub_depth_56, e_Ub_depth_57, e_Ub_depth_58, e_Ub_depth_59, e_Ub_depth_62, e_Ub_depth_64, e_Ub_depth_67, e_Ub_depth_68, e_Ub_depth_71, e_Ub_depth_73, e_Ub_depth_76, c_Ub_isSide, evK_i, evK_v, if_pos h, one_ne, not_false_eq_true, if_true, if_neg (show ¬ wh < 0 by omega), if_pos hw.2, k1, hpl, if_neg (show ¬ ¬ P = 0 from fun y => y z)]
        · rw [if_neg z]
          by_cases y : wh = 0
          · rw [if_pos y]
            simp (disch := omega) only [e_Ub_depth_0, e_Ub_depth_1, e_Ub_depth_4, e_Ub_depth_7, e_Ub_depth_8, e_Ub_depth_9, e_Ub_depth_12, e_Ub_depth_13, e_Ub_depth_14, e_Ub_depth_17, e_Ub_depth_18, e_Ub_depth_19, e_Ub_depth_22, e_Ub_depth_23, e_Ub_depth_25, e_Ub_depth_28, e_Ub_depth_29, e_Ub_depth_30, e_Ub_depth_33, e_Ub_depth_34, e_Ub_depth_37, e_Ub_depth_38, e_Ub_depth_41, e_Ub_depth_42, e_Ub_depth_45, e_Ub_depth_46, e_Ub_depth_49, e_Ub_depth_51, e_Ub_depth_53, e_Ub_depth_56, e_Ub_depth_57, e_Ub_depth_58, e_Ub_depth_59, e_Ub_depth_62, e_Ub_depth_64, e_Ub_depth_67, e_Ub_depth_68, e_Ub_depth_71, e_Ub_depth_73, e_Ub_depth_76, c_Ub_isSide, evK_i, evK_v, if_pos h, one_ne, not_false_eq_true, if_true, if_neg (show ¬ wh < 0 by omega), if_pos hw.2, k1, hpl, if_pos z, if_neg (show ¬ ¬ wh = 0 from fun q => q y)]
          · rw [if_neg y]
            simp (disch := omega) only [e_Ub_depth_0, e_Ub_depth_1, e_Ub_depth_4, e_Ub_depth_7, e_Ub_depth_8, e_Ub_depth_9, e_Ub_depth_12, e_Ub_depth_13, e_Ub_depth_14, e_Ub_depth_17, e_Ub_depth_18, e_Ub_depth_19, e_Ub_depth_22, e_Ub_depth_23, e_Ub_depth_25, e_Ub_depth_28, e_Ub_depth_29, e_Ub_depth_30, e_Ub_depth_33, e_Ub_depth_34, e_Ub_depth_37, e_Ub_depth_38, e_Ub_depth_41, e_Ub_depth_42, e_Ub_depth_45, e_Ub_depth_46, e_Ub_depth_49, e_Ub_depth_51, e_Ub_depth_53, e_Ub_depth_56, e_Ub_depth_57, e_Ub_depth_58, e_Ub_depth_59, e_Ub_depth_62, e_Ub_depth_64, e_Ub_depth_67, e_Ub_depth_68, e_Ub_depth_71, e_Ub_depth_73, e_Ub_depth_76, c_Ub_isSide, evK_i, evK_v, if_pos h, one_ne, not_false_eq_true, if_true, if_neg (show ¬ wh < 0 by omega), if_pos hw.2, k1, hpl, if_pos z, if_pos y, hva P]
      · show ev 196 0 [aR 25 0, aI w, aI k, aI wh, aU, aU, aU, aU, aU] [] τ' = _
        have s0 : ev 196 0 [aR 25 0, aI w, aI k, aI wh, aU, aU, aU, aU, aU] [] τ' = ev 196 49 [aR 25 0, aI w, aI k, aI wh, aI (-1), aI 0, aI 0, aI 0, aI (lnA m lf 0)] [] τ' := by
          simp (disch := omega) only [e_Md_depth_0, e_Md_depth_1, e_Md_depth_4, e_Md_depth_7, e_Md_depth_8, e_Md_depth_9, e_Md_depth_12, e_Md_depth_13, e_Md_depth_14, e_Md_depth_15, e_Md_depth_16, e_Md_depth_19, e_Md_depth_22, e_Md_depth_23, e_Md_depth_25, e_Md_depth_28, e_Md_depth_29, e_Md_depth_30, e_Md_depth_32, e_Md_depth_33, e_Md_depth_35, e_Md_depth_36, e_Md_depth_38, e_Md_depth_39, e_Md_depth_41, e_Md_depth_42, e_Md_depth_43, e_Md_depth_44, e_Md_depth_47, c_Md_isSide, evK_i, if_pos h, one_ne, not_false_eq_true, if_true, hin, hrk]
        rw [s0, hl]
        by_cases hk : k < 0
        · rw [pl0 hk, if_neg (fun q => q.2 rfl), if_pos (Or.inl hk), if_pos rfl]
        · obtain ⟨d1, d2⟩ := dR_all (f := fun x => pfB μ w (lf x)) (v := fun x => vsN μ (lf x)) (k := k) m.toNat (by omega) hcg hp1
          obtain ⟨P, hP⟩ : ∃ P, P = plF (fun r => pfB μ w (lf r)) k m.toNat 0 (-1) 0 := ⟨_, rfl⟩
          rw [← hP] at d1 d2 ⊢
          by_cases z : P = 0
          · rw [if_neg (fun q => q.2 z), if_pos (Or.inr (d1 z)), if_pos z]
          · obtain ⟨e1, e2⟩ := d2 z
            rw [if_neg z]
            by_cases y : wh = 0
            · rw [if_pos ⟨y, z⟩, if_pos y]
            · rw [if_neg (fun q => y q.1), if_neg y, if_neg (fun q => q.elim hk (fun u => by omega)), e2]
    · refine PR_rfA (r := -5) hI (by omega) ?_ ?_
      · rw [c_Ub_refuseApart _ _ (by omega)]
        show ev 100 0 [aR 0 0, aI w, aI k, aI wh, aU] [] μ = _
        by_cases z : wh < 0
        · simp (disch := omega) only [e_Ub_depth_0, e_Ub_depth_1, e_Ub_depth_4, e_Ub_depth_7, e_Ub_depth_8, e_Ub_depth_9, e_Ub_depth_12, e_Ub_depth_13, e_Ub_depth_14, e_Ub_depth_17, e_Ub_depth_18, e_Ub_depth_19, e_Ub_depth_22, e_Ub_depth_23, e_Ub_depth_25, e_Ub_depth_28, e_Ub_depth_29, e_Ub_depth_30, e_Ub_depth_33, e_Ub_depth_34, e_Ub_depth_37, e_Ub_depth_38, e_Ub_depth_41, e_Ub_depth_42, e_Ub_depth_45, e_Ub_depth_46, e_Ub_depth_49, e_Ub_depth_51, e_Ub_depth_53, e_Ub_depth_56, e_Ub_depth_57, e_Ub_depth_58, e_Ub_depth_59, e_Ub_depth_62, e_Ub_depth_64, e_Ub_depth_67, e_Ub_depth_68, e_Ub_depth_71, e_Ub_depth_73, e_Ub_depth_76, c_Ub_isSide, evK_i, if_pos h, one_ne, not_false_eq_true, if_true, if_pos z, c_Ub_refuseApart]
        · simp (disch := omega) only [e_Ub_depth_0, e_Ub_depth_1, e_Ub_depth_4, e_Ub_depth_7, e_Ub_depth_8, e_Ub_depth_9, e_Ub_depth_12, e_Ub_depth_13, e_Ub_depth_14, e_Ub_depth_17, e_Ub_depth_18, e_Ub_depth_19, e_Ub_depth_22, e_Ub_depth_23, e_Ub_depth_25, e_Ub_depth_28, e_Ub_depth_29, e_Ub_depth_30, e_Ub_depth_33, e_Ub_depth_34, e_Ub_depth_37, e_Ub_depth_38, e_Ub_depth_41, e_Ub_depth_42, e_Ub_depth_45, e_Ub_depth_46, e_Ub_depth_49, e_Ub_depth_51, e_Ub_depth_53, e_Ub_depth_56, e_Ub_depth_57, e_Ub_depth_58, e_Ub_depth_59, e_Ub_depth_62, e_Ub_depth_64, e_Ub_depth_67, e_Ub_depth_68, e_Ub_depth_71, e_Ub_depth_73, e_Ub_depth_76, c_Ub_isSide, evK_i, if_pos h, one_ne, not_false_eq_true, if_true, if_neg z, if_neg (show ¬ wh ≤ 1 by omega), c_Ub_refuseApart]
      · rw [c_Md_refusedBelow _ _ (by omega)]
        have hin := c_Md_in wh 0 1 (rf4 μ (- -5))
        rw [if_neg hw] at hin
        show ev 196 0 [aR 25 0, aI w, aI k, aI wh, aU, aU, aU, aU, aU] [] (rf4 μ (- -5)) = _
        simp (disch := omega) only [e_Md_depth_0, e_Md_depth_1, e_Md_depth_4, e_Md_depth_7, e_Md_depth_8, e_Md_depth_9, e_Md_depth_12, e_Md_depth_13, e_Md_depth_14, e_Md_depth_15, e_Md_depth_16, e_Md_depth_19, e_Md_depth_22, e_Md_depth_23, e_Md_depth_25, e_Md_depth_28, c_Md_isSide, evK_i, if_pos h, one_ne, not_false_eq_true, if_true, hin, not_true_eq_false, if_false, c_Md_refusedBelow]
  · refine PR_rfA (r := -1) hI (by omega) ?_ ?_
    · rw [c_Ub_refuseApart _ _ (by omega)]
      show ev 100 0 [aR 0 0, aI w, aI k, aI wh, aU] [] μ = _
      simp (disch := omega) only [e_Ub_depth_0, e_Ub_depth_1, e_Ub_depth_4, e_Ub_depth_7, e_Ub_depth_8, e_Ub_depth_9, e_Ub_depth_12, e_Ub_depth_13, e_Ub_depth_14, e_Ub_depth_17, e_Ub_depth_18, e_Ub_depth_19, e_Ub_depth_22, e_Ub_depth_23, e_Ub_depth_25, e_Ub_depth_28, e_Ub_depth_29, e_Ub_depth_30, e_Ub_depth_33, e_Ub_depth_34, e_Ub_depth_37, e_Ub_depth_38, e_Ub_depth_41, e_Ub_depth_42, e_Ub_depth_45, e_Ub_depth_46, e_Ub_depth_49, e_Ub_depth_51, e_Ub_depth_53, e_Ub_depth_56, e_Ub_depth_57, e_Ub_depth_58, e_Ub_depth_59, e_Ub_depth_62, e_Ub_depth_64, e_Ub_depth_67, e_Ub_depth_68, e_Ub_depth_71, e_Ub_depth_73, e_Ub_depth_76, c_Ub_isSide, evK_i, if_neg h, not_true_eq_false, if_false, c_Ub_refuseApart]
    · rw [c_Md_refusedBelow _ _ (by omega)]
      show ev 196 0 [aR 25 0, aI w, aI k, aI wh, aU, aU, aU, aU, aU] [] (rf4 μ (- -1)) = _
      simp (disch := omega) only [e_Md_depth_0, e_Md_depth_1, e_Md_depth_4, e_Md_depth_7, e_Md_depth_8, e_Md_depth_9, e_Md_depth_12, e_Md_depth_13, e_Md_depth_14, e_Md_depth_15, e_Md_depth_16, e_Md_depth_19, e_Md_depth_22, e_Md_depth_23, e_Md_depth_25, e_Md_depth_28, c_Md_isSide, evK_i, if_neg h, not_true_eq_false, if_false, c_Md_refusedBelow]
