/-! what is made: the run -/
theorem made_ok : bchk (brun 1000 213 (0, [aU, aU, aU, aU], [], ([], 0))) = true := by decide +kernel
theorem made : ∃ w : bD, brun 1000 213 (0, [aU, aU, aU, aU], [], ([], 0)) = some (18, [aU, aR 0 0, aR 165 0, aI 0], [], w) ∧ w.1.length = 174 ∧ w.2 ≤ 20000 ∧ ∀ q ∈ allTI, w.1[bP q.1 q.2]? = some (bX q.1 q.2) := by
  have h := made_ok
  cases hg : brun 1000 213 (0, [aU, aU, aU, aU], [], ([], 0)) with
  | none => rw [hg] at h; cases h
  | some g =>
    obtain ⟨pc, L, st, w⟩ := g
    rw [hg] at h
    have h : ((pc == 18 && (st.isEmpty && decide (L = [aU, aR 0 0, aR 165 0, aI 0]))) && ((decide (w.1.length = 174) && decide (w.2 ≤ 20000)) && allTI.all (fun q => bEq w.1[bP q.1 q.2]? (bX q.1 q.2)))) = true := h
    simp only [Bool.and_eq_true, decide_eq_true_eq, List.all_eq_true, beq_iff_eq, List.isEmpty_iff] at h
    obtain ⟨⟨h1, h2, h3⟩, ⟨h4, h5⟩, h6⟩ := h
    exact ⟨w, by rw [h1, h2, h3], h4, h5, fun q hq => bEq_ok (h6 q hq)⟩
