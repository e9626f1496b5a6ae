/-! the auction's trade keeps the relation -/
theorem cross_one {τ σ : aM} {B u p x z C D q : Int} (hS : Sim τ (pt τ σ) (-1) B) (hB : B + 1 < 2147483647) (hx : frs τ 0 = some x) (hz : frs τ 1 = some z) (hu : 1 ≤ u) (hp : 0 ≤ p ∧ p ≤ 999) (hqe : opQ τ u x z = q)
    (hCC : ∀ y, wr (y + C) = wr (y - wr (p * q))) (hDD : ∀ y, wr (y + D) = wr (y + wr (p * q))) :
    Sim (kO1 τ u p x z) (pt (kO1 τ u p x z) (mNt (mPy (mPy (mX σ x z q) (gI τ 8 x 2) q C) (gI τ 8 z 2) (-q) D) x z p q)) (-1) (B + 1) := by
  obtain ⟨hO, hI, hD, hG, hg⟩ := hS
  have hc6 := hO.1.2
  have hxi := frs_in hc6.1 hx
  have hzi := frs_in hc6.1 hz
  have hxz : ¬ x = z := fun y => by rw [y] at hxi; omega
  have hko : ∀ o, (o = x ∨ o = z) → (0 ≤ o ∧ o < gI τ 6 0 2) ∧ gI τ 8 o 5 = 1 ∧ ¬ gI τ 8 o 1 = 3 := fun o ho => by
    rcases ho with ho | ho
    · rw [ho]; exact ⟨⟨hxi.1, hxi.2.1⟩, hxi.2.2.1, hxi.2.2.2.2⟩
    · rw [ho]; exact ⟨⟨hzi.1, hzi.2.1⟩, hzi.2.2.1, hzi.2.2.2.2⟩
  have hli : ∀ o, (o = x ∨ o = z) → 1 ≤ gI τ 8 o 4 ∧ gI τ 8 o 4 ≤ 999 := fun o ho => by
    obtain ⟨k1, k2, k3⟩ := hko o ho
    obtain ⟨ia, ib, ip, idd, is, ir⟩ := IO_p hI k1.1 k1.2
    have := ir k2
    omega
  have lx := hli x (Or.inl rfl)
  have lz := hli z (Or.inr rfl)
  have hq : 1 ≤ q ∧ q ≤ gI τ 8 x 4 ∧ q ≤ gI τ 8 z 4 := by
    rw [← hqe]
    unfold opQ
    split <;> split <;> omega
  have hql : ∀ o, (o = x ∨ o = z) → q ≤ gI τ 8 o 4 := fun o ho => by
    rcases ho with ho | ho
    · rw [ho]; exact hq.2.1
    · rw [ho]; exact hq.2.2
  obtain ⟨E1, E2, E3⟩ := kO1_eff τ u p x z q hxz hqe
  have rL : ∀ o, (o = x ∨ o = z) → gI σ 26 0 (180 + o) = gI τ 8 o 4 ∧ gI σ 26 0 (240 + o) = 1 ∧ gI σ 26 0 (540 + o) = gI τ 8 o 6 := fun o ho => by
    obtain ⟨k1, k2, k3⟩ := hko o ho
    obtain ⟨ra, rb, rt, rv, rc⟩ := RO.p hO k1.1 k1.2
    have rb := rb (by omega)
    rw [pt_k _ _ _ (by omega), pt_k _ _ _ (by omega), pt_k _ _ _ (by omega)] at rb
    exact ⟨rb.1, by rw [rb.2.1]; exact k2, rb.2.2⟩
  obtain ⟨M0, M1, M2⟩ := mX_eff σ x z q (by omega) (by omega) hxz (by omega) (by rw [(rL x (Or.inl rfl)).1]; omega) (by rw [(rL z (Or.inr rfl)).1]; omega)
  have ox := (IO_p hI hxi.1 hxi.2.1).1.2.2
  have oz := (IO_p hI hzi.1 hzi.2.1).1.2.2
  have h606 : gI σ 26 0 606 = gI τ 9 0 3 := by rw [← pt_k τ σ 606 (by omega)]; exact hG.1.2.2.2.2.2
  have hnz : 0 ≤ gI τ 9 0 3 ∧ gI τ 9 0 3 ≤ B := hg.2.2.2.2.1
  generalize mX σ x z q = M at M0 M1 M2 ⊢
  have hGs : GL τ σ := GL_same hG (fun k k1 => (pt_k τ σ k (by omega)).symm) (fun _ _ _ _ => rfl)
  have M6 : ∀ k, 600 ≤ k → gI M 26 0 k = gI σ 26 0 k := fun k k0 => M1 k (fun o ho => by have := (hko o ho).1; omega)
  have e6 : ∀ j, gI (kO1 τ u p x z) 6 0 j = gI τ 6 0 j := fun j => by rw [E1 _ _ _ (by decide), g_kNt6]
  have hGL := GL_trade (τ' := kO1 τ u p x z) (x := x) (z := z) (xn := x) (zn := z) (p := p) (q := q) (w1 := gI τ 8 x 2) (q1 := q) (c1 := C) (w2 := gI τ 8 z 2) (q2 := -q) (c2 := D) (C := C) (D := D) hGs hnz.1 (fun k k0 _ => M6 k k0) (by rw [M6 _ (by omega), e6]; exact hGs.1.2.2.2.2.1) ⟨e6 _, e6 _, e6 _⟩ (fun t i j t8 _ => E1 t i j t8) (hg.2.2.2.2.2.1 x hxi.1 (by omega)) (hg.2.2.2.2.2.1 z hzi.1 (by omega)) ox oz hCC hDD (Or.inl ⟨rfl, rfl, rfl, rfl, rfl, rfl⟩)
  have py : ∀ k, ¬ (607 ≤ k ∧ k < 623) → gI (mPy (mPy M (gI τ 8 x 2) q C) (gI τ 8 z 2) (-q) D) 26 0 k = gI M 26 0 k := fun k hk => by
    rw [g_mPy _ _ _ _ _ oz, if_neg (by omega), if_neg (by omega), g_mPy _ _ _ _ _ ox, if_neg (by omega), if_neg (by omega)]
  have nt : ∀ k, k ≤ 600 → gI (mNt (mPy (mPy M (gI τ 8 x 2) q C) (gI τ 8 z 2) (-q) D) x z p q) 26 0 k = gI M 26 0 k := fun k k7 => by
    rw [← py k (by omega)]
    rcases g_mNt (mPy (mPy M (gI τ 8 x 2) q C) (gI τ 8 z 2) (-q) D) x z p q k (by omega) (by omega) (by omega) with y | y
    · exact y
    · rw [py _ (by omega), M6 _ (by omega), h606] at y; omega
  generalize mNt (mPy (mPy M (gI τ 8 x 2) q C) (gI τ 8 z 2) (-q) D) x z p q = S at hGL nt ⊢
  clear py
  have hGL2 : GL (kO1 τ u p x z) (pt (kO1 τ u p x z) S) := GL_same hGL (fun k k1 => pt_k _ _ k (by omega)) (fun _ _ _ _ => rfl)
  have e9 : gI (kO1 τ u p x z) 9 0 4 = p := by rw [E1 _ _ _ (by decide), g_kNtL]
  have e93 : gI (kO1 τ u p x z) 9 0 3 = gI τ 9 0 3 + 1 := by rw [E1 _ _ _ (by decide), kNt_T, wr_id (by omega) (by omega)]
  have e80 : ∀ i, gI (kO1 τ u p x z) 8 i 0 = gI τ 8 i 0 := fun i => by
    by_cases y : i = x ∨ i = z
    · exact (E3 i y).2.2.2.2 0 (by omega) (by omega) (by omega) (by omega)
    · exact E2 i 0 (fun y2 => y (Or.inl y2)) (fun y2 => y (Or.inr y2))
  have hU := updO (τ' := kO1 τ u p x z) (σ' := pt (kO1 τ u p x z) S) (c' := -1) (f0 := x) (fun o => o = x ∨ o = z) hO hI hD (e6 _) (by rw [e6]; exact Int.le_refl _) (by rw [pt_k _ _ _ (by omega), pt_k _ _ _ (by omega), nt _ (by omega), M6 _ (by omega)]) (fun o o0 o1 hm => ?_) (fun o o0 o1 hm => ?_)
  · refine ⟨hU.1, hU.2.1, hU.2.2, hGL2, ?_⟩
    obtain ⟨g1, g2, g3, g4, g5, g6, g7⟩ := hg
    exact ⟨by rw [e9]; exact hp, by rw [e6]; exact g2, by rw [e6]; exact g3, by rw [e6]; omega, by rw [e93]; omega, fun i i0 i1 => by rw [e80]; exact g6 i i0 i1, by rw [e80]; exact g7⟩
  · have k8 : ∀ j, gI (kO1 τ u p x z) 8 o j = gI τ 8 o j := fun j => E2 o j (fun y => hm (Or.inl y)) (fun y => hm (Or.inr y))
    refine ⟨EqC_of k8, EqS_of o0 (by omega) (fun k k0 k1 k2 => ?_), Iff.rfl⟩
    by_cases y : 420 ≤ k ∧ k < 480
    · rw [show k = 420 + o by omega, pt_s _ _ _ (by omega), pt_s _ _ _ (by omega), k8]
    · rw [pt_k _ _ _ (by omega), pt_k _ _ _ (by omega), nt _ (by omega)]
      refine M1 k (fun o' ho' => ?_)
      have := (hko o' ho').1
      have : ¬ o = o' := fun y => hm (by rw [y]; exact ho')
      omega
  · obtain ⟨q1, q2, q3⟩ := hko o hm
    have ql := hql o hm
    have ll := hli o hm
    obtain ⟨t4, t6, t5, t9, tj⟩ := E3 o hm
    obtain ⟨m4, m6, m5⟩ := M2 o hm
    obtain ⟨r4, r5, r6⟩ := rL o hm
    have w1 : wr (gI τ 8 o 4 - q) = gI τ 8 o 4 - q := wr_id (by omega) (by omega)
    rw [w1] at t4 t5 t9
    rw [r4] at m4 m5
    rw [r5] at m5
    rw [r6] at m6
    rw [q2] at t5
    obtain ⟨ra, rb, rt, rv, rc⟩ := RO.p hO o0 o1
    rw [pt_k _ _ _ (by omega), pt_k _ _ _ (by omega), pt_k _ _ _ (by omega), pt_k _ _ _ (by omega), pt_k _ _ _ (by omega)] at ra
    rw [pt_k _ _ _ (by omega)] at rt
    obtain ⟨ia, ib, ip, idd, is, ir⟩ := IO_p hI o0 o1
    have ir := ir q2
    have mo : ∀ k, (k < 180 ∨ (300 ≤ k ∧ k < 540)) → gI M 26 0 k = gI σ 26 0 k := fun k hk => M1 k (fun o' ho' => by have := (hko o' ho').1; omega)
    have k1 := tj 1 (by omega) (by omega) (by omega) (by omega)
    have k2 := tj 2 (by omega) (by omega) (by omega) (by omega)
    have k3 := tj 3 (by omega) (by omega) (by omega) (by omega)
    have k7 := tj 7 (by omega) (by omega) (by omega) (by omega)
    have k8 := tj 8 (by omega) (by omega) (by omega) (by omega)
    have k10 := tj 10 (by omega) (by omega) (by omega) (by omega)
    have st1 : gI (kO1 τ u p x z) 8 o 5 = 1 → 1 ≤ gI τ 8 o 4 - q := fun y => by
      rw [t5] at y
      by_cases y2 : gI τ 8 o 4 - q = 0
      · rw [if_pos y2] at y; omega
      · omega
    refine ⟨⟨?_, fun _ => ⟨?_, ?_, ?_⟩, fun y => ?_, fun y y2 => ?_, fun y => by omega⟩, ⟨?_, ?_, ?_, ?_, fun _ => ?_, fun y => ⟨?_, ?_, ?_, fun y2 => ?_⟩⟩, fun y => Or.inl ⟨q2, k10⟩⟩
    · rw [pt_k _ _ _ (by omega), pt_k _ _ _ (by omega), pt_k _ _ _ (by omega), pt_k _ _ _ (by omega), pt_k _ _ _ (by omega), nt _ (by omega), nt _ (by omega), nt _ (by omega), nt _ (by omega), nt _ (by omega), mo _ (by omega), mo _ (by omega), mo _ (by omega), mo _ (by omega), mo _ (by omega), k1, k2, k3, k7, k8]
      exact ra
    · rw [pt_k _ _ _ (by omega), nt _ (by omega), m4, t4]
    · rw [pt_k _ _ _ (by omega), nt _ (by omega), m5, t5]
    · rw [pt_k _ _ _ (by omega), nt _ (by omega), m6, t6]
    · rw [pt_k _ _ _ (by omega), nt _ (by omega), mo _ (by omega), k10]
      exact rt q2
    · rw [pt_s _ _ _ (by omega)]
    · rw [k1, k2, k3]; exact ia
    · rw [t4, k7, k8, t6, wr_wr]; exact ⟨by omega, ib.2.1, ib.2.2.1, rfl⟩
    · rw [k1, k7]; exact ip
    · rw [k1, k8]; exact idd
    · rw [t5]
      by_cases y : gI τ 8 o 4 - q = 0
      · rw [if_pos y]; exact ⟨by omega, fun z => by omega⟩
      · rw [if_neg y]; exact ⟨by omega, fun z => by omega⟩
    · rw [k1]; exact ir.1
    · rw [t4]; exact st1 y
    · rw [k10, e6]; exact ir.2.2.1
    · rw [k1] at y2
      have s1 := st1 y
      have dd := idd y2
      rw [t9 y2, t4]
      split <;> omega
