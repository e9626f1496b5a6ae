/-! an order goes in and is settled, on both sides -/
theorem settle {τ σ τ' σ' : aM} {c B v : Int} (hS : Sim τ σ c B) (hc : 0 ≤ c ∧ c < gI τ 6 0 2) (hL : gI σ 26 0 (180 + c) = gI τ 8 c 4) (hT : gI σ 26 0 (540 + c) = gI τ 8 c 6) (hv : v = 2 ∨ v = 3 ∨ (v = 0 ∧ gI τ 8 c 1 = 4 ∧ 1 ≤ gI τ 8 c 4))
    (t5 : gI τ' 8 c 5 = v) (tt : ∀ t i j, ¬ (t = 8 ∧ i = c ∧ j = 5) → gI τ' t i j = gI τ t i j) (s5 : gI σ' 26 0 (240 + c) = v) (ss : ∀ k, ¬ k = 240 + c → gI σ' 26 0 k = gI σ 26 0 k) : Sim τ' σ' (-1) B := by
  obtain ⟨hO, hI, hD, hG, hg⟩ := hS
  have hc6 := hO.1.2
  obtain ⟨ra, rb, rt, rv, rc⟩ := RO.p hO hc.1 hc.2
  obtain ⟨ia, ib, ip, idd, is, ir⟩ := IO_p hI hc.1 hc.2
  have kj : ∀ j, ¬ j = 5 → gI τ' 8 c j = gI τ 8 c j := fun j z => tt _ _ _ (fun y => z y.2.2)
  have n1 : ¬ gI τ' 8 c 5 = 1 := by rw [t5]; omega
  have hU := updO (τ' := τ') (σ' := σ') (c' := -1) (f0 := c) (fun o => o = c) hO hI hD (tt _ _ _ (by omega)) (by rw [tt _ _ _ (by omega)]; exact Int.le_refl _) (ss _ (by omega)) (fun o o0 o1 hm => ⟨EqC_of (fun j => tt _ _ _ (fun z => hm z.2.1)), EqS_of o0 (by omega) (fun k _ _ _ => ss k (by omega)), by omega⟩) (fun o o0 o1 hm => ?_)
  · exact ⟨hU.1, hU.2.1, hU.2.2, GL_same hG (fun k _ => ss k (by omega)) (fun t i j z => tt _ _ _ (fun y => z y.1)), IG_same hg (fun t i j z => tt _ _ _ (fun y => z y.1)) (fun i => tt _ _ _ (by omega))⟩
  · subst hm
    refine ⟨⟨?_, fun _ => ⟨?_, ?_, ?_⟩, fun z => absurd z n1, fun z => absurd z n1, fun z => by omega⟩, ⟨?_, ?_, ?_, ?_, fun _ => ?_, fun z => absurd z n1⟩, fun z => absurd z n1⟩
    · rw [ss _ (by omega), ss _ (by omega), ss _ (by omega), ss _ (by omega), ss _ (by omega), kj 1 (by omega), kj 2 (by omega), kj 3 (by omega), kj 7 (by omega), kj 8 (by omega)]; exact ra
    · rw [ss _ (by omega), kj 4 (by omega), hL]
    · rw [s5, t5]
    · rw [ss _ (by omega), kj 6 (by omega), hT]
    · rw [kj 1 (by omega), kj 2 (by omega), kj 3 (by omega)]; exact ia
    · rw [kj 4 (by omega), kj 7 (by omega), kj 8 (by omega), kj 6 (by omega)]; exact ib
    · rw [kj 1 (by omega), kj 7 (by omega)]; exact ip
    · rw [kj 1 (by omega), kj 8 (by omega)]; exact idd
    · rw [t5, kj 1 (by omega), kj 4 (by omega)]; exact ⟨by omega, fun z => by omega⟩
/-- what the reference notes of one that came -/
theorem Sim_note {τ σ σ' : aM} {c B : Int} (hS : Sim τ σ c B) (hc : 0 ≤ c ∧ c < gI τ 6 0 2) (ss : ∀ k, ¬ k = 180 + c → ¬ k = 540 + c → gI σ' 26 0 k = gI σ 26 0 k) : Sim τ σ' c B := by
  obtain ⟨hO, hI, hD, hG, hg⟩ := hS
  have hc6 := hO.1.2
  obtain ⟨ra, rb, rt, rv, rc⟩ := RO.p hO hc.1 hc.2
  have rc := rc rfl
  have hU := updO (τ' := τ) (σ' := σ') (c' := c) (f0 := c) (fun o => o = c) hO hI hD rfl (Int.le_refl _) (ss _ (by omega) (by omega)) (fun o o0 o1 hm => ⟨EqC_of (fun j => rfl), EqS_of o0 (by omega) (fun k _ _ _ => ss k (by omega) (by omega)), Iff.rfl⟩) (fun o o0 o1 hm => ?_)
  · exact ⟨hU.1, hU.2.1, hU.2.2, GL_same hG (fun k _ => ss k (by omega) (by omega)) (fun t i j z => rfl), hg⟩
  · subst hm
    refine ⟨⟨?_, fun z => absurd rfl z, fun z => absurd z rc.2, fun z => absurd z rc.2, fun _ => ⟨?_, rc.2⟩⟩, IO_p hI o0 o1, fun z => absurd z rc.2⟩
    · rw [ss _ (by omega) (by omega), ss _ (by omega) (by omega), ss _ (by omega) (by omega), ss _ (by omega) (by omega), ss _ (by omega) (by omega)]; exact ra
    · rw [ss _ (by omega) (by omega)]; exact rc.1
