/-! stops that are reached -/
theorem c_Md_isReached {τ σ : aM} {B : Int} (o : Int) (hS : Sim τ σ (-1) B) (h0 : 0 ≤ o) (h1 : o < gI τ 6 0 2) : ev 158 0 [aR 25 0, aI o, aU] [] σ = some (some (aI (if rcS τ o then 1 else 0)), σ) := by
  have hc6 := hS.1.1.2
  obtain ⟨ra, rb, rt, rv, rc⟩ := RO.p hS.1 h0 h1
  have rb := rb (by omega)
  have hl := hS.2.2.2.1.1.2.2.1
  have k1 := ra.1
  have k3 := ra.2.2.1
  have k7 := ra.2.2.2.1
  have k5 := rb.2.1
  have s1 : ev 158 0 [aR 25 0, aI o, aU] [] σ = ev 158 42 [aR 25 0, aI o, aI (if gI τ 8 o 1 = 4 ∧ gI τ 8 o 5 = 0 ∧ ¬ gI τ 9 0 4 = 0 then 1 else 0)] [] σ := by
    by_cases q1 : gI τ 8 o 1 = 4
    · by_cases q2 : gI τ 8 o 5 = 0
      · by_cases q3 : gI τ 9 0 4 = 0
        · rw [if_neg (fun z => z.2.2 q3)]
          simp (disch := omega) only [e_Md_isReached_0, e_Md_isReached_1, e_Md_isReached_4, e_Md_isReached_5, e_Md_isReached_6, e_Md_isReached_7, e_Md_isReached_8, e_Md_isReached_9, e_Md_isReached_12, e_Md_isReached_13, e_Md_isReached_16, e_Md_isReached_19, e_Md_isReached_20, e_Md_isReached_21, e_Md_isReached_22, e_Md_isReached_25, e_Md_isReached_26, e_Md_isReached_29, e_Md_isReached_32, e_Md_isReached_33, e_Md_isReached_36, e_Md_isReached_37, e_Md_isReached_40, e_Md_isReached_41, wr_id, Int.zero_add, k1, k5, hl, q1, q2, q3, not_true_eq_false, if_false, if_true]
        · rw [if_pos ⟨q1, q2, q3⟩]
          simp (disch := omega) only [e_Md_isReached_0, e_Md_isReached_1, e_Md_isReached_4, e_Md_isReached_5, e_Md_isReached_6, e_Md_isReached_7, e_Md_isReached_8, e_Md_isReached_9, e_Md_isReached_12, e_Md_isReached_13, e_Md_isReached_16, e_Md_isReached_19, e_Md_isReached_20, e_Md_isReached_21, e_Md_isReached_22, e_Md_isReached_25, e_Md_isReached_26, e_Md_isReached_29, e_Md_isReached_32, e_Md_isReached_33, e_Md_isReached_36, e_Md_isReached_37, e_Md_isReached_40, e_Md_isReached_41, wr_id, Int.zero_add, k1, k5, hl, q1, q2, q3, not_true_eq_false, if_false, if_true]
      · rw [if_neg (fun z => q2 z.2.1)]
        simp (disch := omega) only [e_Md_isReached_0, e_Md_isReached_1, e_Md_isReached_4, e_Md_isReached_5, e_Md_isReached_6, e_Md_isReached_7, e_Md_isReached_8, e_Md_isReached_9, e_Md_isReached_12, e_Md_isReached_13, e_Md_isReached_16, e_Md_isReached_19, e_Md_isReached_20, e_Md_isReached_21, e_Md_isReached_22, e_Md_isReached_25, e_Md_isReached_26, e_Md_isReached_29, e_Md_isReached_32, e_Md_isReached_33, e_Md_isReached_36, e_Md_isReached_37, e_Md_isReached_40, e_Md_isReached_41, wr_id, Int.zero_add, k1, k5, q1, q2, not_true_eq_false, not_false_eq_true, if_false, if_true]
    · rw [if_neg (fun z => q1 z.1)]
      simp (disch := omega) only [e_Md_isReached_0, e_Md_isReached_1, e_Md_isReached_4, e_Md_isReached_5, e_Md_isReached_6, e_Md_isReached_7, e_Md_isReached_8, e_Md_isReached_9, e_Md_isReached_12, e_Md_isReached_13, e_Md_isReached_16, e_Md_isReached_19, e_Md_isReached_20, e_Md_isReached_21, e_Md_isReached_22, e_Md_isReached_25, e_Md_isReached_26, e_Md_isReached_29, e_Md_isReached_32, e_Md_isReached_33, e_Md_isReached_36, e_Md_isReached_37, e_Md_isReached_40, e_Md_isReached_41, wr_id, Int.zero_add, k1, q1, not_false_eq_true, if_true]
  rw [s1]
  by_cases q0 : gI τ 8 o 1 = 4 ∧ gI τ 8 o 5 = 0 ∧ ¬ gI τ 9 0 4 = 0
  · rw [if_pos q0]
    by_cases q3 : gI τ 8 o 3 = 0
    · by_cases q4 : gI τ 8 o 7 ≤ gI τ 9 0 4
      · rw [if_pos (show rcS τ o from ⟨q0.1, q0.2.1, q0.2.2, Or.inl ⟨q3, q4⟩⟩)]
        simp (disch := omega) only [e_Md_isReached_42, e_Md_isReached_43, e_Md_isReached_46, e_Md_isReached_47, e_Md_isReached_50, e_Md_isReached_52, e_Md_isReached_53, e_Md_isReached_54, e_Md_isReached_55, e_Md_isReached_58, e_Md_isReached_59, e_Md_isReached_62, e_Md_isReached_65, e_Md_isReached_66, e_Md_isReached_67, e_Md_isReached_70, e_Md_isReached_73, e_Md_isReached_74, e_Md_isReached_75, e_Md_isReached_76, e_Md_isReached_79, e_Md_isReached_82, e_Md_isReached_83, e_Md_isReached_86, e_Md_isReached_89, e_Md_isReached_90, e_Md_isReached_91, e_Md_isReached_94, e_Md_isReached_97, e_Md_isReached_98, e_Md_isReached_99, e_Md_isReached_100, e_Md_isReached_103, e_Md_isReached_104, e_Md_isReached_107, e_Md_isReached_108, wr_id, k3, k7, hl, one_ne, q3, not_true_eq_false, if_false, if_neg (show ¬ gI τ 9 0 4 < gI τ 8 o 7 by omega)]
      · rw [if_neg (show ¬ rcS τ o from fun z => z.2.2.2.elim (fun y => q4 y.2) (fun y => y.1 q3))]
        simp (disch := omega) only [e_Md_isReached_42, e_Md_isReached_43, e_Md_isReached_46, e_Md_isReached_47, e_Md_isReached_50, e_Md_isReached_52, e_Md_isReached_53, e_Md_isReached_54, e_Md_isReached_55, e_Md_isReached_58, e_Md_isReached_59, e_Md_isReached_62, e_Md_isReached_65, e_Md_isReached_66, e_Md_isReached_67, e_Md_isReached_70, e_Md_isReached_73, e_Md_isReached_74, e_Md_isReached_75, e_Md_isReached_76, e_Md_isReached_79, e_Md_isReached_82, e_Md_isReached_83, e_Md_isReached_86, e_Md_isReached_89, e_Md_isReached_90, e_Md_isReached_91, e_Md_isReached_94, e_Md_isReached_97, e_Md_isReached_98, e_Md_isReached_99, e_Md_isReached_100, e_Md_isReached_103, e_Md_isReached_104, e_Md_isReached_107, e_Md_isReached_108, wr_id, k3, k7, hl, one_ne, q3, not_true_eq_false, if_false, if_pos (show gI τ 9 0 4 < gI τ 8 o 7 by omega)]
    · by_cases q4 : gI τ 9 0 4 ≤ gI τ 8 o 7
      · rw [if_pos (show rcS τ o from ⟨q0.1, q0.2.1, q0.2.2, Or.inr ⟨q3, q4⟩⟩)]
        simp (disch := omega) only [e_Md_isReached_42, e_Md_isReached_43, e_Md_isReached_46, e_Md_isReached_47, e_Md_isReached_50, e_Md_isReached_52, e_Md_isReached_53, e_Md_isReached_54, e_Md_isReached_55, e_Md_isReached_58, e_Md_isReached_59, e_Md_isReached_62, e_Md_isReached_65, e_Md_isReached_66, e_Md_isReached_67, e_Md_isReached_70, e_Md_isReached_73, e_Md_isReached_74, e_Md_isReached_75, e_Md_isReached_76, e_Md_isReached_79, e_Md_isReached_82, e_Md_isReached_83, e_Md_isReached_86, e_Md_isReached_89, e_Md_isReached_90, e_Md_isReached_91, e_Md_isReached_94, e_Md_isReached_97, e_Md_isReached_98, e_Md_isReached_99, e_Md_isReached_100, e_Md_isReached_103, e_Md_isReached_104, e_Md_isReached_107, e_Md_isReached_108, wr_id, k3, k7, hl, one_ne, q3, not_false_eq_true, if_true, if_false, if_neg (show ¬ gI τ 8 o 7 < gI τ 9 0 4 by omega)]
      · rw [if_neg (show ¬ rcS τ o from fun z => z.2.2.2.elim (fun y => q3 y.1) (fun y => q4 y.2))]
        simp (disch := omega) only [e_Md_isReached_42, e_Md_isReached_43, e_Md_isReached_46, e_Md_isReached_47, e_Md_isReached_50, e_Md_isReached_52, e_Md_isReached_53, e_Md_isReached_54, e_Md_isReached_55, e_Md_isReached_58, e_Md_isReached_59, e_Md_isReached_62, e_Md_isReached_65, e_Md_isReached_66, e_Md_isReached_67, e_Md_isReached_70, e_Md_isReached_73, e_Md_isReached_74, e_Md_isReached_75, e_Md_isReached_76, e_Md_isReached_79, e_Md_isReached_82, e_Md_isReached_83, e_Md_isReached_86, e_Md_isReached_89, e_Md_isReached_90, e_Md_isReached_91, e_Md_isReached_94, e_Md_isReached_97, e_Md_isReached_98, e_Md_isReached_99, e_Md_isReached_100, e_Md_isReached_103, e_Md_isReached_104, e_Md_isReached_107, e_Md_isReached_108, wr_id, k3, k7, hl, one_ne, q3, not_false_eq_true, if_true, if_false, if_pos (show gI τ 8 o 7 < gI τ 9 0 4 by omega)]
  · rw [if_neg q0, if_neg (show ¬ rcS τ o from fun z => q0 ⟨z.1, z.2.1, z.2.2.1⟩)]
    simp (disch := omega) only [e_Md_isReached_42, e_Md_isReached_43, e_Md_isReached_46, e_Md_isReached_47, e_Md_isReached_50, e_Md_isReached_52, e_Md_isReached_53, e_Md_isReached_54, e_Md_isReached_55, e_Md_isReached_58, e_Md_isReached_59, e_Md_isReached_62, e_Md_isReached_65, e_Md_isReached_66, e_Md_isReached_67, e_Md_isReached_70, e_Md_isReached_73, e_Md_isReached_74, e_Md_isReached_75, e_Md_isReached_76, e_Md_isReached_79, e_Md_isReached_82, e_Md_isReached_83, e_Md_isReached_86, e_Md_isReached_89, e_Md_isReached_90, e_Md_isReached_91, e_Md_isReached_94, e_Md_isReached_97, e_Md_isReached_98, e_Md_isReached_99, e_Md_isReached_100, e_Md_isReached_103, e_Md_isReached_104, e_Md_isReached_107, e_Md_isReached_108, if_true]
theorem l_stops_find {τ σ : aM} {B : Int} (hS : Sim τ σ (-1) B) : ∀ (n : Nat) (i : Int), 0 ≤ i → i + n = gI τ 6 0 2 → ev 159 39 [aR 25 0, aI i] [] σ = ev 159 65 [aR 25 0, aI (match rcF τ n i with | none => gI τ 6 0 2 | some j => j)] [] σ := by
  intro n
  have hc6 := hS.1.1
  induction n with
  | zero =>
    intro i h0 h1
    rw [e_Md_stops_39]
    simp (disch := omega) only [e_Md_stops_40, e_Md_stops_41, e_Md_stops_44, e_Md_stops_47, e_Md_stops_48, e_Md_stops_51, e_Md_stops_52, e_Md_stops_53, e_Md_stops_56, e_Md_stops_59, e_Md_stops_62, hc6.1, if_pos (show gI τ 6 0 2 ≤ i by omega), rcF]
    rw [show i = gI τ 6 0 2 by omega]
  | succ n ih =>
    intro i h0 h1
    have hr := c_Md_isReached i hS h0 (by omega)
    have ih' := ih (i + 1) (by omega) (by omega)
    rw [e_Md_stops_39, rcF]
    by_cases q : rcS τ i
    · rw [if_pos q] at hr ⊢
      simp (disch := omega) only [e_Md_stops_40, e_Md_stops_41, e_Md_stops_44, e_Md_stops_47, e_Md_stops_48, e_Md_stops_51, e_Md_stops_52, e_Md_stops_53, e_Md_stops_56, e_Md_stops_59, e_Md_stops_62, hc6.1, if_neg (show ¬ gI τ 6 0 2 ≤ i by omega), hr, evK_i, one_ne, not_false_eq_true, if_true]
    · rw [if_neg q] at hr ⊢
      simp (disch := omega) only [e_Md_stops_40, e_Md_stops_41, e_Md_stops_44, e_Md_stops_47, e_Md_stops_48, e_Md_stops_51, e_Md_stops_52, e_Md_stops_53, e_Md_stops_56, e_Md_stops_59, e_Md_stops_62, hc6.1, if_neg (show ¬ gI τ 6 0 2 ≤ i by omega), hr, evK_i, not_true_eq_false, if_false, wr_id, ih']
