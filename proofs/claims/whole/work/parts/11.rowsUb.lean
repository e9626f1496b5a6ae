theorem f_Ub_row_0 : fetch 78 0 = some (.iload_n 1) := by decide +kernel
theorem e_Ub_row_0 (a0 a2 a3 : AV) (σ : aM) (l1 : Int) (r : List AV)  : ev 78 0 [a0, aI l1, a2, a3] (r) σ = ev 78 1 [a0, aI l1, a2, a3] (aI l1 :: r) σ := ev_go f_Ub_row_0 rfl
theorem f_Ub_row_1 : fetch 78 1 = some (.invokestatic 67) := by decide +kernel
theorem e_Ub_row_1 (a0 a1 a2 a3 : AV) (σ : aM) (s0 : Int) : ev 78 1 [a0, a1, a2, a3] [aI s0] σ = evK 78 4 [a0, a1, a2, a3] [] (ev 117 0 [aI s0] [] σ) := ev_call f_Ub_row_1 rfl rfl
theorem f_Ub_row_4 : fetch 78 4 = some (.ifCond .ne 9) := by decide +kernel
theorem e_Ub_row_4 (a0 a1 a2 a3 : AV) (σ : aM) (x : Int) (r : List AV) : ev 78 4 [a0, a1, a2, a3] (aI x :: r) σ = if ¬ x = 0 then ev 78 13 [a0, a1, a2, a3] r σ else ev 78 7 [a0, a1, a2, a3] r σ := ev_br f_Ub_row_4 rfl bc_ne
theorem f_Ub_row_7 : fetch 78 7 = some (.aload_n 0) := by decide +kernel
theorem e_Ub_row_7 (a1 a2 a3 : AV) (σ : aM) (l0 : Option (Nat × Int)) (r : List AV)  : ev 78 7 [aQ l0, a1, a2, a3] (r) σ = ev 78 8 [aQ l0, a1, a2, a3] (aQ l0 :: r) σ := ev_go f_Ub_row_7 rfl
theorem f_Ub_row_8 : fetch 78 8 = some (.iconst (-1)) := by decide +kernel
theorem e_Ub_row_8 (a0 a1 a2 a3 : AV) (σ : aM) (r : List AV)  : ev 78 8 [a0, a1, a2, a3] (r) σ = ev 78 9 [a0, a1, a2, a3] (aI (-1) :: r) σ := ev_go f_Ub_row_8 rfl
theorem f_Ub_row_9 : fetch 78 9 = some (.invokevirtual 71) := by decide +kernel
theorem e_Ub_row_9 (a0 a1 a2 a3 : AV) (σ : aM) (s0 : Int) (s1 : Int) : ev 78 9 [a0, a1, a2, a3] [aI s1, aR 0 s0] σ = evK 78 12 [a0, a1, a2, a3] [] (ev 113 0 [aR 0 s0, aI s1] [] σ) := ev_call f_Ub_row_9 rfl rfl
theorem f_Ub_row_12 : fetch 78 12 = some (.ireturn) := by decide +kernel
theorem e_Ub_row_12 (a0 a1 a2 a3 : AV) (σ : aM) (x : Int) : ev 78 12 [a0, a1, a2, a3] [aI x] σ = some ((some (aI x)), σ) := ev_ret f_Ub_row_12 rfl
theorem f_Ub_row_13 : fetch 78 13 = some (.iload_n 3) := by decide +kernel
theorem e_Ub_row_13 (a0 a1 a2 : AV) (σ : aM) (l3 : Int) (r : List AV)  : ev 78 13 [a0, a1, a2, aI l3] (r) σ = ev 78 14 [a0, a1, a2, aI l3] (aI l3 :: r) σ := ev_go f_Ub_row_13 rfl
theorem f_Ub_row_14 : fetch 78 14 = some (.ifCond .ge 10) := by decide +kernel
theorem e_Ub_row_14 (a0 a1 a2 a3 : AV) (σ : aM) (x : Int) (r : List AV) : ev 78 14 [a0, a1, a2, a3] (aI x :: r) σ = if 0 ≤ x then ev 78 24 [a0, a1, a2, a3] r σ else ev 78 17 [a0, a1, a2, a3] r σ := ev_br f_Ub_row_14 rfl bc_ge
theorem f_Ub_row_17 : fetch 78 17 = some (.aload_n 0) := by decide +kernel
theorem e_Ub_row_17 (a1 a2 a3 : AV) (σ : aM) (l0 : Option (Nat × Int)) (r : List AV)  : ev 78 17 [aQ l0, a1, a2, a3] (r) σ = ev 78 18 [aQ l0, a1, a2, a3] (aQ l0 :: r) σ := ev_go f_Ub_row_17 rfl
theorem f_Ub_row_18 : fetch 78 18 = some (.bipush (-4)) := by decide +kernel
theorem e_Ub_row_18 (a0 a1 a2 a3 : AV) (σ : aM) (r : List AV)  : ev 78 18 [a0, a1, a2, a3] (r) σ = ev 78 20 [a0, a1, a2, a3] (aI (-4) :: r) σ := ev_go f_Ub_row_18 rfl
theorem f_Ub_row_20 : fetch 78 20 = some (.invokevirtual 71) := by decide +kernel
theorem e_Ub_row_20 (a0 a1 a2 a3 : AV) (σ : aM) (s0 : Int) (s1 : Int) : ev 78 20 [a0, a1, a2, a3] [aI s1, aR 0 s0] σ = evK 78 23 [a0, a1, a2, a3] [] (ev 113 0 [aR 0 s0, aI s1] [] σ) := ev_call f_Ub_row_20 rfl rfl
theorem f_Ub_row_23 : fetch 78 23 = some (.ireturn) := by decide +kernel
theorem e_Ub_row_23 (a0 a1 a2 a3 : AV) (σ : aM) (x : Int) : ev 78 23 [a0, a1, a2, a3] [aI x] σ = some ((some (aI x)), σ) := ev_ret f_Ub_row_23 rfl
theorem f_Ub_row_24 : fetch 78 24 = some (.iload_n 2) := by decide +kernel
theorem e_Ub_row_24 (a0 a1 a3 : AV) (σ : aM) (l2 : Int) (r : List AV)  : ev 78 24 [a0, a1, aI l2, a3] (r) σ = ev 78 25 [a0, a1, aI l2, a3] (aI l2 :: r) σ := ev_go f_Ub_row_24 rfl
theorem f_Ub_row_25 : fetch 78 25 = some (.ifCond .lt 8) := by decide +kernel
theorem e_Ub_row_25 (a0 a1 a2 a3 : AV) (σ : aM) (x : Int) (r : List AV) : ev 78 25 [a0, a1, a2, a3] (aI x :: r) σ = if x < 0 then ev 78 33 [a0, a1, a2, a3] r σ else ev 78 28 [a0, a1, a2, a3] r σ := ev_br f_Ub_row_25 rfl bc_lt
theorem f_Ub_row_28 : fetch 78 28 = some (.iload_n 2) := by decide +kernel
theorem e_Ub_row_28 (a0 a1 a3 : AV) (σ : aM) (l2 : Int) (r : List AV)  : ev 78 28 [a0, a1, aI l2, a3] (r) σ = ev 78 29 [a0, a1, aI l2, a3] (aI l2 :: r) σ := ev_go f_Ub_row_28 rfl
theorem f_Ub_row_29 : fetch 78 29 = some (.iconst 3) := by decide +kernel
theorem e_Ub_row_29 (a0 a1 a2 a3 : AV) (σ : aM) (r : List AV)  : ev 78 29 [a0, a1, a2, a3] (r) σ = ev 78 30 [a0, a1, a2, a3] (aI 3 :: r) σ := ev_go f_Ub_row_29 rfl
theorem f_Ub_row_30 : fetch 78 30 = some (.if_icmp .le 10) := by decide +kernel
theorem e_Ub_row_30 (a0 a1 a2 a3 : AV) (σ : aM) (x z : Int) (r : List AV) : ev 78 30 [a0, a1, a2, a3] (aI z :: aI x :: r) σ = if x ≤ z then ev 78 40 [a0, a1, a2, a3] r σ else ev 78 33 [a0, a1, a2, a3] r σ := ev_br f_Ub_row_30 rfl bc_le
theorem f_Ub_row_33 : fetch 78 33 = some (.aload_n 0) := by decide +kernel
theorem e_Ub_row_33 (a1 a2 a3 : AV) (σ : aM) (l0 : Option (Nat × Int)) (r : List AV)  : ev 78 33 [aQ l0, a1, a2, a3] (r) σ = ev 78 34 [aQ l0, a1, a2, a3] (aQ l0 :: r) σ := ev_go f_Ub_row_33 rfl
theorem f_Ub_row_34 : fetch 78 34 = some (.bipush (-6)) := by decide +kernel
theorem e_Ub_row_34 (a0 a1 a2 a3 : AV) (σ : aM) (r : List AV)  : ev 78 34 [a0, a1, a2, a3] (r) σ = ev 78 36 [a0, a1, a2, a3] (aI (-6) :: r) σ := ev_go f_Ub_row_34 rfl
theorem f_Ub_row_36 : fetch 78 36 = some (.invokevirtual 71) := by decide +kernel
theorem e_Ub_row_36 (a0 a1 a2 a3 : AV) (σ : aM) (s0 : Int) (s1 : Int) : ev 78 36 [a0, a1, a2, a3] [aI s1, aR 0 s0] σ = evK 78 39 [a0, a1, a2, a3] [] (ev 113 0 [aR 0 s0, aI s1] [] σ) := ev_call f_Ub_row_36 rfl rfl
theorem f_Ub_row_39 : fetch 78 39 = some (.ireturn) := by decide +kernel
theorem e_Ub_row_39 (a0 a1 a2 a3 : AV) (σ : aM) (x : Int) : ev 78 39 [a0, a1, a2, a3] [aI x] σ = some ((some (aI x)), σ) := ev_ret f_Ub_row_39 rfl
theorem f_Ub_row_40 : fetch 78 40 = some (.iload_n 3) := by decide +kernel
theorem e_Ub_row_40 (a0 a1 a2 : AV) (σ : aM) (l3 : Int) (r : List AV)  : ev 78 40 [a0, a1, a2, aI l3] (r) σ = ev 78 41 [a0, a1, a2, aI l3] (aI l3 :: r) σ := ev_go f_Ub_row_40 rfl
theorem f_Ub_row_41 : fetch 78 41 = some (.sipush 160) := by decide +kernel
theorem e_Ub_row_41 (a0 a1 a2 a3 : AV) (σ : aM) (r : List AV)  : ev 78 41 [a0, a1, a2, a3] (r) σ = ev 78 44 [a0, a1, a2, a3] (aI 160 :: r) σ := ev_go f_Ub_row_41 rfl
theorem f_Ub_row_44 : fetch 78 44 = some (.if_icmp .le 10) := by decide +kernel
theorem e_Ub_row_44 (a0 a1 a2 a3 : AV) (σ : aM) (x z : Int) (r : List AV) : ev 78 44 [a0, a1, a2, a3] (aI z :: aI x :: r) σ = if x ≤ z then ev 78 54 [a0, a1, a2, a3] r σ else ev 78 47 [a0, a1, a2, a3] r σ := ev_br f_Ub_row_44 rfl bc_le
theorem f_Ub_row_47 : fetch 78 47 = some (.aload_n 0) := by decide +kernel
theorem e_Ub_row_47 (a1 a2 a3 : AV) (σ : aM) (l0 : Option (Nat × Int)) (r : List AV)  : ev 78 47 [aQ l0, a1, a2, a3] (r) σ = ev 78 48 [aQ l0, a1, a2, a3] (aQ l0 :: r) σ := ev_go f_Ub_row_47 rfl
theorem f_Ub_row_48 : fetch 78 48 = some (.bipush (-7)) := by decide +kernel
theorem e_Ub_row_48 (a0 a1 a2 a3 : AV) (σ : aM) (r : List AV)  : ev 78 48 [a0, a1, a2, a3] (r) σ = ev 78 50 [a0, a1, a2, a3] (aI (-7) :: r) σ := ev_go f_Ub_row_48 rfl
theorem f_Ub_row_50 : fetch 78 50 = some (.invokevirtual 71) := by decide +kernel
theorem e_Ub_row_50 (a0 a1 a2 a3 : AV) (σ : aM) (s0 : Int) (s1 : Int) : ev 78 50 [a0, a1, a2, a3] [aI s1, aR 0 s0] σ = evK 78 53 [a0, a1, a2, a3] [] (ev 113 0 [aR 0 s0, aI s1] [] σ) := ev_call f_Ub_row_50 rfl rfl
theorem f_Ub_row_53 : fetch 78 53 = some (.ireturn) := by decide +kernel
theorem e_Ub_row_53 (a0 a1 a2 a3 : AV) (σ : aM) (x : Int) : ev 78 53 [a0, a1, a2, a3] [aI x] σ = some ((some (aI x)), σ) := ev_ret f_Ub_row_53 rfl
theorem f_Ub_row_54 : fetch 78 54 = some (.aload_n 0) := by decide +kernel
theorem e_Ub_row_54 (a1 a2 a3 : AV) (σ : aM) (l0 : Option (Nat × Int)) (r : List AV)  : ev 78 54 [aQ l0, a1, a2, a3] (r) σ = ev 78 55 [aQ l0, a1, a2, a3] (aQ l0 :: r) σ := ev_go f_Ub_row_54 rfl
theorem f_Ub_row_55 : fetch 78 55 = some (.getfield 11) := by decide +kernel
theorem e_Ub_row_55 (a0 a1 a2 a3 : AV) (σ : aM) (i : Int) (r : List AV)  : ev 78 55 [a0, a1, a2, a3] (aR 0 i :: r) σ = ev 78 58 [a0, a1, a2, a3] (aR 1 0 :: r) σ := ev_go f_Ub_row_55 rfl
theorem f_Ub_row_58 : fetch 78 58 = some (.iload_n 1) := by decide +kernel
theorem e_Ub_row_58 (a0 a2 a3 : AV) (σ : aM) (l1 : Int) (r : List AV)  : ev 78 58 [a0, aI l1, a2, a3] (r) σ = ev 78 59 [a0, aI l1, a2, a3] (aI l1 :: r) σ := ev_go f_Ub_row_58 rfl
theorem f_Ub_row_59 : fetch 78 59 = some (.aaload) := by decide +kernel
theorem e_Ub_row_59 (a0 a1 a2 a3 : AV) (σ : aM) (x : Int) (i : Int) (r : List AV) (h : 0 ≤ x ∧ x < 8) : ev 78 59 [a0, a1, a2, a3] (aI x :: aR 1 i :: r) σ = ev 78 60 [a0, a1, a2, a3] (aR 2 x :: r) σ := ev_cd f_Ub_row_59 rfl ⟨by decide, by decide, h.1, by rw [aLen_n (by decide) rfl]; exact h.2⟩
theorem f_Ub_row_60 : fetch 78 60 = some (.iload_n 2) := by decide +kernel
theorem e_Ub_row_60 (a0 a1 a3 : AV) (σ : aM) (l2 : Int) (r : List AV)  : ev 78 60 [a0, a1, aI l2, a3] (r) σ = ev 78 61 [a0, a1, aI l2, a3] (aI l2 :: r) σ := ev_go f_Ub_row_60 rfl
theorem f_Ub_row_61 : fetch 78 61 = some (.iload_n 3) := by decide +kernel
theorem e_Ub_row_61 (a0 a1 a2 : AV) (σ : aM) (l3 : Int) (r : List AV)  : ev 78 61 [a0, a1, a2, aI l3] (r) σ = ev 78 62 [a0, a1, a2, aI l3] (aI l3 :: r) σ := ev_go f_Ub_row_61 rfl
theorem f_Ub_row_62 : fetch 78 62 = some (.invokevirtual 75) := by decide +kernel
theorem e_Ub_row_62 (a0 a1 a2 a3 : AV) (σ : aM) (s0 : Int) (s1 : Int) (s2 : Int) : ev 78 62 [a0, a1, a2, a3] [aI s2, aI s1, aR 2 s0] σ = evK 78 65 [a0, a1, a2, a3] [] (ev 56 0 [aR 2 s0, aI s1, aI s2] [] σ) := ev_call f_Ub_row_62 rfl rfl
theorem f_Ub_row_65 : fetch 78 65 = some (.iconst 1) := by decide +kernel
theorem e_Ub_row_65 (a0 a1 a2 a3 : AV) (σ : aM) (r : List AV)  : ev 78 65 [a0, a1, a2, a3] (r) σ = ev 78 66 [a0, a1, a2, a3] (aI 1 :: r) σ := ev_go f_Ub_row_65 rfl
theorem f_Ub_row_66 : fetch 78 66 = some (.ireturn) := by decide +kernel
theorem e_Ub_row_66 (a0 a1 a2 a3 : AV) (σ : aM) (x : Int) : ev 78 66 [a0, a1, a2, a3] [aI x] σ = some ((some (aI x)), σ) := ev_ret f_Ub_row_66 rfl
theorem f_Ub_set_0 : fetch 79 0 = some (.aload_n 0) := by decide +kernel
theorem e_Ub_set_0 (a1 a2 a3 a4 a5 : AV) (σ : aM) (l0 : Option (Nat × Int)) (r : List AV)  : ev 79 0 [aQ l0, a1, a2, a3, a4, a5] (r) σ = ev 79 1 [aQ l0, a1, a2, a3, a4, a5] (aQ l0 :: r) σ := ev_go f_Ub_set_0 rfl
theorem f_Ub_set_1 : fetch 79 1 = some (.iload_n 1) := by decide +kernel
theorem e_Ub_set_1 (a0 a2 a3 a4 a5 : AV) (σ : aM) (l1 : Int) (r : List AV)  : ev 79 1 [a0, aI l1, a2, a3, a4, a5] (r) σ = ev 79 2 [a0, aI l1, a2, a3, a4, a5] (aI l1 :: r) σ := ev_go f_Ub_set_1 rfl
theorem f_Ub_set_2 : fetch 79 2 = some (.invokevirtual 79) := by decide +kernel
theorem e_Ub_set_2 (a0 a1 a2 a3 a4 a5 : AV) (σ : aM) (s0 : Int) (s1 : Int) : ev 79 2 [a0, a1, a2, a3, a4, a5] [aI s1, aR 0 s0] σ = evK 79 5 [a0, a1, a2, a3, a4, a5] [] (ev 115 0 [aR 0 s0, aI s1] [] σ) := ev_call f_Ub_set_2 rfl rfl
theorem f_Ub_set_5 : fetch 79 5 = some (.istore 5) := by decide +kernel
theorem e_Ub_set_5 (a0 a1 a2 a3 a5 : AV) (σ : aM) (x : Int) (r : List AV)  : ev 79 5 [a0, a1, a2, a3, aU, a5] (aI x :: r) σ = ev 79 7 [a0, a1, a2, a3, aU, aI x] (r) σ := ev_go f_Ub_set_5 rfl
theorem f_Ub_set_7 : fetch 79 7 = some (.iload 5) := by decide +kernel
theorem e_Ub_set_7 (a0 a1 a2 a3 a4 : AV) (σ : aM) (l5 : Int) (r : List AV)  : ev 79 7 [a0, a1, a2, a3, a4, aI l5] (r) σ = ev 79 9 [a0, a1, a2, a3, a4, aI l5] (aI l5 :: r) σ := ev_go f_Ub_set_7 rfl
theorem f_Ub_set_9 : fetch 79 9 = some (.ifCond .eq 10) := by decide +kernel
theorem e_Ub_set_9 (a0 a1 a2 a3 a4 a5 : AV) (σ : aM) (x : Int) (r : List AV) : ev 79 9 [a0, a1, a2, a3, a4, a5] (aI x :: r) σ = if x = 0 then ev 79 19 [a0, a1, a2, a3, a4, a5] r σ else ev 79 12 [a0, a1, a2, a3, a4, a5] r σ := ev_br f_Ub_set_9 rfl bc_eq
theorem f_Ub_set_12 : fetch 79 12 = some (.aload_n 0) := by decide +kernel
theorem e_Ub_set_12 (a1 a2 a3 a4 a5 : AV) (σ : aM) (l0 : Option (Nat × Int)) (r : List AV)  : ev 79 12 [aQ l0, a1, a2, a3, a4, a5] (r) σ = ev 79 13 [aQ l0, a1, a2, a3, a4, a5] (aQ l0 :: r) σ := ev_go f_Ub_set_12 rfl
theorem f_Ub_set_13 : fetch 79 13 = some (.iload 5) := by decide +kernel
theorem e_Ub_set_13 (a0 a1 a2 a3 a4 : AV) (σ : aM) (l5 : Int) (r : List AV)  : ev 79 13 [a0, a1, a2, a3, a4, aI l5] (r) σ = ev 79 15 [a0, a1, a2, a3, a4, aI l5] (aI l5 :: r) σ := ev_go f_Ub_set_13 rfl
theorem f_Ub_set_15 : fetch 79 15 = some (.invokevirtual 71) := by decide +kernel
theorem e_Ub_set_15 (a0 a1 a2 a3 a4 a5 : AV) (σ : aM) (s0 : Int) (s1 : Int) : ev 79 15 [a0, a1, a2, a3, a4, a5] [aI s1, aR 0 s0] σ = evK 79 18 [a0, a1, a2, a3, a4, a5] [] (ev 113 0 [aR 0 s0, aI s1] [] σ) := ev_call f_Ub_set_15 rfl rfl
theorem f_Ub_set_18 : fetch 79 18 = some (.ireturn) := by decide +kernel
theorem e_Ub_set_18 (a0 a1 a2 a3 a4 a5 : AV) (σ : aM) (x : Int) : ev 79 18 [a0, a1, a2, a3, a4, a5] [aI x] σ = some ((some (aI x)), σ) := ev_ret f_Ub_set_18 rfl
theorem f_Ub_set_19 : fetch 79 19 = some (.aload_n 0) := by decide +kernel
theorem e_Ub_set_19 (a1 a2 a3 a4 a5 : AV) (σ : aM) (l0 : Option (Nat × Int)) (r : List AV)  : ev 79 19 [aQ l0, a1, a2, a3, a4, a5] (r) σ = ev 79 20 [aQ l0, a1, a2, a3, a4, a5] (aQ l0 :: r) σ := ev_go f_Ub_set_19 rfl
theorem f_Ub_set_20 : fetch 79 20 = some (.getfield 11) := by decide +kernel
theorem e_Ub_set_20 (a0 a1 a2 a3 a4 a5 : AV) (σ : aM) (i : Int) (r : List AV)  : ev 79 20 [a0, a1, a2, a3, a4, a5] (aR 0 i :: r) σ = ev 79 23 [a0, a1, a2, a3, a4, a5] (aR 1 0 :: r) σ := ev_go f_Ub_set_20 rfl
theorem f_Ub_set_23 : fetch 79 23 = some (.iload_n 1) := by decide +kernel
theorem e_Ub_set_23 (a0 a2 a3 a4 a5 : AV) (σ : aM) (l1 : Int) (r : List AV)  : ev 79 23 [a0, aI l1, a2, a3, a4, a5] (r) σ = ev 79 24 [a0, aI l1, a2, a3, a4, a5] (aI l1 :: r) σ := ev_go f_Ub_set_23 rfl
theorem f_Ub_set_24 : fetch 79 24 = some (.aaload) := by decide +kernel
theorem e_Ub_set_24 (a0 a1 a2 a3 a4 a5 : AV) (σ : aM) (x : Int) (i : Int) (r : List AV) (h : 0 ≤ x ∧ x < 8) : ev 79 24 [a0, a1, a2, a3, a4, a5] (aI x :: aR 1 i :: r) σ = ev 79 25 [a0, a1, a2, a3, a4, a5] (aR 2 x :: r) σ := ev_cd f_Ub_set_24 rfl ⟨by decide, by decide, h.1, by rw [aLen_n (by decide) rfl]; exact h.2⟩
theorem f_Ub_set_25 : fetch 79 25 = some (.iload_n 2) := by decide +kernel
theorem e_Ub_set_25 (a0 a1 a3 a4 a5 : AV) (σ : aM) (l2 : Int) (r : List AV)  : ev 79 25 [a0, a1, aI l2, a3, a4, a5] (r) σ = ev 79 26 [a0, a1, aI l2, a3, a4, a5] (aI l2 :: r) σ := ev_go f_Ub_set_25 rfl
theorem f_Ub_set_26 : fetch 79 26 = some (.invokevirtual 82) := by decide +kernel
theorem e_Ub_set_26 (a0 a1 a2 a3 a4 a5 : AV) (σ : aM) (s0 : Int) (s1 : Int) : ev 79 26 [a0, a1, a2, a3, a4, a5] [aI s1, aR 2 s0] σ = evK 79 29 [a0, a1, a2, a3, a4, a5] [] (ev 59 0 [aR 2 s0, aI s1] [] σ) := ev_call f_Ub_set_26 rfl rfl
theorem f_Ub_set_29 : fetch 79 29 = some (.ifCond .ne 10) := by decide +kernel
theorem e_Ub_set_29 (a0 a1 a2 a3 a4 a5 : AV) (σ : aM) (x : Int) (r : List AV) : ev 79 29 [a0, a1, a2, a3, a4, a5] (aI x :: r) σ = if ¬ x = 0 then ev 79 39 [a0, a1, a2, a3, a4, a5] r σ else ev 79 32 [a0, a1, a2, a3, a4, a5] r σ := ev_br f_Ub_set_29 rfl bc_ne
theorem f_Ub_set_32 : fetch 79 32 = some (.aload_n 0) := by decide +kernel
theorem e_Ub_set_32 (a1 a2 a3 a4 a5 : AV) (σ : aM) (l0 : Option (Nat × Int)) (r : List AV)  : ev 79 32 [aQ l0, a1, a2, a3, a4, a5] (r) σ = ev 79 33 [aQ l0, a1, a2, a3, a4, a5] (aQ l0 :: r) σ := ev_go f_Ub_set_32 rfl
theorem f_Ub_set_33 : fetch 79 33 = some (.bipush (-5)) := by decide +kernel
theorem e_Ub_set_33 (a0 a1 a2 a3 a4 a5 : AV) (σ : aM) (r : List AV)  : ev 79 33 [a0, a1, a2, a3, a4, a5] (r) σ = ev 79 35 [a0, a1, a2, a3, a4, a5] (aI (-5) :: r) σ := ev_go f_Ub_set_33 rfl
theorem f_Ub_set_35 : fetch 79 35 = some (.invokevirtual 71) := by decide +kernel
theorem e_Ub_set_35 (a0 a1 a2 a3 a4 a5 : AV) (σ : aM) (s0 : Int) (s1 : Int) : ev 79 35 [a0, a1, a2, a3, a4, a5] [aI s1, aR 0 s0] σ = evK 79 38 [a0, a1, a2, a3, a4, a5] [] (ev 113 0 [aR 0 s0, aI s1] [] σ) := ev_call f_Ub_set_35 rfl rfl
theorem f_Ub_set_38 : fetch 79 38 = some (.ireturn) := by decide +kernel
theorem e_Ub_set_38 (a0 a1 a2 a3 a4 a5 : AV) (σ : aM) (x : Int) : ev 79 38 [a0, a1, a2, a3, a4, a5] [aI x] σ = some ((some (aI x)), σ) := ev_ret f_Ub_set_38 rfl
theorem f_Ub_set_39 : fetch 79 39 = some (.aload_n 0) := by decide +kernel
theorem e_Ub_set_39 (a1 a2 a3 a4 a5 : AV) (σ : aM) (l0 : Option (Nat × Int)) (r : List AV)  : ev 79 39 [aQ l0, a1, a2, a3, a4, a5] (r) σ = ev 79 40 [aQ l0, a1, a2, a3, a4, a5] (aQ l0 :: r) σ := ev_go f_Ub_set_39 rfl
theorem f_Ub_set_40 : fetch 79 40 = some (.getfield 11) := by decide +kernel
theorem e_Ub_set_40 (a0 a1 a2 a3 a4 a5 : AV) (σ : aM) (i : Int) (r : List AV)  : ev 79 40 [a0, a1, a2, a3, a4, a5] (aR 0 i :: r) σ = ev 79 43 [a0, a1, a2, a3, a4, a5] (aR 1 0 :: r) σ := ev_go f_Ub_set_40 rfl
theorem f_Ub_set_43 : fetch 79 43 = some (.iload_n 1) := by decide +kernel
theorem e_Ub_set_43 (a0 a2 a3 a4 a5 : AV) (σ : aM) (l1 : Int) (r : List AV)  : ev 79 43 [a0, aI l1, a2, a3, a4, a5] (r) σ = ev 79 44 [a0, aI l1, a2, a3, a4, a5] (aI l1 :: r) σ := ev_go f_Ub_set_43 rfl
theorem f_Ub_set_44 : fetch 79 44 = some (.aaload) := by decide +kernel
theorem e_Ub_set_44 (a0 a1 a2 a3 a4 a5 : AV) (σ : aM) (x : Int) (i : Int) (r : List AV) (h : 0 ≤ x ∧ x < 8) : ev 79 44 [a0, a1, a2, a3, a4, a5] (aI x :: aR 1 i :: r) σ = ev 79 45 [a0, a1, a2, a3, a4, a5] (aR 2 x :: r) σ := ev_cd f_Ub_set_44 rfl ⟨by decide, by decide, h.1, by rw [aLen_n (by decide) rfl]; exact h.2⟩
theorem f_Ub_set_45 : fetch 79 45 = some (.iload_n 2) := by decide +kernel
theorem e_Ub_set_45 (a0 a1 a3 a4 a5 : AV) (σ : aM) (l2 : Int) (r : List AV)  : ev 79 45 [a0, a1, aI l2, a3, a4, a5] (r) σ = ev 79 46 [a0, a1, aI l2, a3, a4, a5] (aI l2 :: r) σ := ev_go f_Ub_set_45 rfl
theorem f_Ub_set_46 : fetch 79 46 = some (.lload_n 3) := by decide +kernel
theorem e_Ub_set_46 (a0 a1 a2 a4 a5 : AV) (σ : aM) (l3 : Int64) (r : List AV)  : ev 79 46 [a0, a1, a2, aJ l3, a4, a5] (r) σ = ev 79 47 [a0, a1, a2, aJ l3, a4, a5] (aJ l3 :: r) σ := ev_go f_Ub_set_46 rfl
theorem f_Ub_set_47 : fetch 79 47 = some (.invokevirtual 85) := by decide +kernel
theorem e_Ub_set_47 (a0 a1 a2 a3 a4 a5 : AV) (σ : aM) (s0 : Int) (s1 : Int) (s2 : Int64) : ev 79 47 [a0, a1, a2, a3, a4, a5] [aJ s2, aI s1, aR 2 s0] σ = evK 79 50 [a0, a1, a2, a3, a4, a5] [] (ev 61 0 [aR 2 s0, aI s1, aJ s2, aU] [] σ) := ev_call f_Ub_set_47 rfl rfl
theorem f_Ub_set_50 : fetch 79 50 = some (.iconst 1) := by decide +kernel
theorem e_Ub_set_50 (a0 a1 a2 a3 a4 a5 : AV) (σ : aM) (r : List AV)  : ev 79 50 [a0, a1, a2, a3, a4, a5] (r) σ = ev 79 51 [a0, a1, a2, a3, a4, a5] (aI 1 :: r) σ := ev_go f_Ub_set_50 rfl
theorem f_Ub_set_51 : fetch 79 51 = some (.ireturn) := by decide +kernel
theorem e_Ub_set_51 (a0 a1 a2 a3 a4 a5 : AV) (σ : aM) (x : Int) : ev 79 51 [a0, a1, a2, a3, a4, a5] [aI x] σ = some ((some (aI x)), σ) := ev_ret f_Ub_set_51 rfl
theorem f_Ub_copy_0 : fetch 80 0 = some (.iload_n 1) := by decide +kernel
theorem e_Ub_copy_0 (a0 a2 a3 a4 a5 a6 a7 : AV) (σ : aM) (l1 : Int) (r : List AV)  : ev 80 0 [a0, aI l1, a2, a3, a4, a5, a6, a7] (r) σ = ev 80 1 [a0, aI l1, a2, a3, a4, a5, a6, a7] (aI l1 :: r) σ := ev_go f_Ub_copy_0 rfl
theorem f_Ub_copy_1 : fetch 80 1 = some (.invokestatic 67) := by decide +kernel
theorem e_Ub_copy_1 (a0 a1 a2 a3 a4 a5 a6 a7 : AV) (σ : aM) (s0 : Int) : ev 80 1 [a0, a1, a2, a3, a4, a5, a6, a7] [aI s0] σ = evK 80 4 [a0, a1, a2, a3, a4, a5, a6, a7] [] (ev 117 0 [aI s0] [] σ) := ev_call f_Ub_copy_1 rfl rfl
theorem f_Ub_copy_4 : fetch 80 4 = some (.ifCond .eq 10) := by decide +kernel
theorem e_Ub_copy_4 (a0 a1 a2 a3 a4 a5 a6 a7 : AV) (σ : aM) (x : Int) (r : List AV) : ev 80 4 [a0, a1, a2, a3, a4, a5, a6, a7] (aI x :: r) σ = if x = 0 then ev 80 14 [a0, a1, a2, a3, a4, a5, a6, a7] r σ else ev 80 7 [a0, a1, a2, a3, a4, a5, a6, a7] r σ := ev_br f_Ub_copy_4 rfl bc_eq
theorem f_Ub_copy_7 : fetch 80 7 = some (.iload_n 2) := by decide +kernel
theorem e_Ub_copy_7 (a0 a1 a3 a4 a5 a6 a7 : AV) (σ : aM) (l2 : Int) (r : List AV)  : ev 80 7 [a0, a1, aI l2, a3, a4, a5, a6, a7] (r) σ = ev 80 8 [a0, a1, aI l2, a3, a4, a5, a6, a7] (aI l2 :: r) σ := ev_go f_Ub_copy_7 rfl
theorem f_Ub_copy_8 : fetch 80 8 = some (.invokestatic 67) := by decide +kernel
theorem e_Ub_copy_8 (a0 a1 a2 a3 a4 a5 a6 a7 : AV) (σ : aM) (s0 : Int) : ev 80 8 [a0, a1, a2, a3, a4, a5, a6, a7] [aI s0] σ = evK 80 11 [a0, a1, a2, a3, a4, a5, a6, a7] [] (ev 117 0 [aI s0] [] σ) := ev_call f_Ub_copy_8 rfl rfl
theorem f_Ub_copy_11 : fetch 80 11 = some (.ifCond .ne 9) := by decide +kernel
theorem e_Ub_copy_11 (a0 a1 a2 a3 a4 a5 a6 a7 : AV) (σ : aM) (x : Int) (r : List AV) : ev 80 11 [a0, a1, a2, a3, a4, a5, a6, a7] (aI x :: r) σ = if ¬ x = 0 then ev 80 20 [a0, a1, a2, a3, a4, a5, a6, a7] r σ else ev 80 14 [a0, a1, a2, a3, a4, a5, a6, a7] r σ := ev_br f_Ub_copy_11 rfl bc_ne
theorem f_Ub_copy_14 : fetch 80 14 = some (.aload_n 0) := by decide +kernel
theorem e_Ub_copy_14 (a1 a2 a3 a4 a5 a6 a7 : AV) (σ : aM) (l0 : Option (Nat × Int)) (r : List AV)  : ev 80 14 [aQ l0, a1, a2, a3, a4, a5, a6, a7] (r) σ = ev 80 15 [aQ l0, a1, a2, a3, a4, a5, a6, a7] (aQ l0 :: r) σ := ev_go f_Ub_copy_14 rfl
theorem f_Ub_copy_15 : fetch 80 15 = some (.iconst (-1)) := by decide +kernel
theorem e_Ub_copy_15 (a0 a1 a2 a3 a4 a5 a6 a7 : AV) (σ : aM) (r : List AV)  : ev 80 15 [a0, a1, a2, a3, a4, a5, a6, a7] (r) σ = ev 80 16 [a0, a1, a2, a3, a4, a5, a6, a7] (aI (-1) :: r) σ := ev_go f_Ub_copy_15 rfl
theorem f_Ub_copy_16 : fetch 80 16 = some (.invokevirtual 71) := by decide +kernel
theorem e_Ub_copy_16 (a0 a1 a2 a3 a4 a5 a6 a7 : AV) (σ : aM) (s0 : Int) (s1 : Int) : ev 80 16 [a0, a1, a2, a3, a4, a5, a6, a7] [aI s1, aR 0 s0] σ = evK 80 19 [a0, a1, a2, a3, a4, a5, a6, a7] [] (ev 113 0 [aR 0 s0, aI s1] [] σ) := ev_call f_Ub_copy_16 rfl rfl
theorem f_Ub_copy_19 : fetch 80 19 = some (.ireturn) := by decide +kernel
theorem e_Ub_copy_19 (a0 a1 a2 a3 a4 a5 a6 a7 : AV) (σ : aM) (x : Int) : ev 80 19 [a0, a1, a2, a3, a4, a5, a6, a7] [aI x] σ = some ((some (aI x)), σ) := ev_ret f_Ub_copy_19 rfl
theorem f_Ub_copy_20 : fetch 80 20 = some (.aload_n 0) := by decide +kernel
theorem e_Ub_copy_20 (a1 a2 a3 a4 a5 a6 a7 : AV) (σ : aM) (l0 : Option (Nat × Int)) (r : List AV)  : ev 80 20 [aQ l0, a1, a2, a3, a4, a5, a6, a7] (r) σ = ev 80 21 [aQ l0, a1, a2, a3, a4, a5, a6, a7] (aQ l0 :: r) σ := ev_go f_Ub_copy_20 rfl
theorem f_Ub_copy_21 : fetch 80 21 = some (.getfield 11) := by decide +kernel
theorem e_Ub_copy_21 (a0 a1 a2 a3 a4 a5 a6 a7 : AV) (σ : aM) (i : Int) (r : List AV)  : ev 80 21 [a0, a1, a2, a3, a4, a5, a6, a7] (aR 0 i :: r) σ = ev 80 24 [a0, a1, a2, a3, a4, a5, a6, a7] (aR 1 0 :: r) σ := ev_go f_Ub_copy_21 rfl
theorem f_Ub_copy_24 : fetch 80 24 = some (.iload_n 1) := by decide +kernel
theorem e_Ub_copy_24 (a0 a2 a3 a4 a5 a6 a7 : AV) (σ : aM) (l1 : Int) (r : List AV)  : ev 80 24 [a0, aI l1, a2, a3, a4, a5, a6, a7] (r) σ = ev 80 25 [a0, aI l1, a2, a3, a4, a5, a6, a7] (aI l1 :: r) σ := ev_go f_Ub_copy_24 rfl
theorem f_Ub_copy_25 : fetch 80 25 = some (.aaload) := by decide +kernel
theorem e_Ub_copy_25 (a0 a1 a2 a3 a4 a5 a6 a7 : AV) (σ : aM) (x : Int) (i : Int) (r : List AV) (h : 0 ≤ x ∧ x < 8) : ev 80 25 [a0, a1, a2, a3, a4, a5, a6, a7] (aI x :: aR 1 i :: r) σ = ev 80 26 [a0, a1, a2, a3, a4, a5, a6, a7] (aR 2 x :: r) σ := ev_cd f_Ub_copy_25 rfl ⟨by decide, by decide, h.1, by rw [aLen_n (by decide) rfl]; exact h.2⟩
theorem f_Ub_copy_26 : fetch 80 26 = some (.astore 6) := by decide +kernel
theorem e_Ub_copy_26 (a0 a1 a2 a3 a4 a6 a7 : AV) (σ : aM) (q : Option (Nat × Int)) (l5 : Int) (r : List AV)  : ev 80 26 [a0, a1, a2, a3, a4, aI l5, a6, a7] (aQ q :: r) σ = ev 80 28 [a0, a1, a2, a3, a4, aI l5, aQ q, a7] (r) σ := ev_go f_Ub_copy_26 rfl
theorem f_Ub_copy_28 : fetch 80 28 = some (.aload_n 0) := by decide +kernel
theorem e_Ub_copy_28 (a1 a2 a3 a4 a5 a6 a7 : AV) (σ : aM) (l0 : Option (Nat × Int)) (r : List AV)  : ev 80 28 [aQ l0, a1, a2, a3, a4, a5, a6, a7] (r) σ = ev 80 29 [aQ l0, a1, a2, a3, a4, a5, a6, a7] (aQ l0 :: r) σ := ev_go f_Ub_copy_28 rfl
theorem f_Ub_copy_29 : fetch 80 29 = some (.getfield 11) := by decide +kernel
theorem e_Ub_copy_29 (a0 a1 a2 a3 a4 a5 a6 a7 : AV) (σ : aM) (i : Int) (r : List AV)  : ev 80 29 [a0, a1, a2, a3, a4, a5, a6, a7] (aR 0 i :: r) σ = ev 80 32 [a0, a1, a2, a3, a4, a5, a6, a7] (aR 1 0 :: r) σ := ev_go f_Ub_copy_29 rfl
theorem f_Ub_copy_32 : fetch 80 32 = some (.iload_n 2) := by decide +kernel
theorem e_Ub_copy_32 (a0 a1 a3 a4 a5 a6 a7 : AV) (σ : aM) (l2 : Int) (r : List AV)  : ev 80 32 [a0, a1, aI l2, a3, a4, a5, a6, a7] (r) σ = ev 80 33 [a0, a1, aI l2, a3, a4, a5, a6, a7] (aI l2 :: r) σ := ev_go f_Ub_copy_32 rfl
theorem f_Ub_copy_33 : fetch 80 33 = some (.aaload) := by decide +kernel
theorem e_Ub_copy_33 (a0 a1 a2 a3 a4 a5 a6 a7 : AV) (σ : aM) (x : Int) (i : Int) (r : List AV) (h : 0 ≤ x ∧ x < 8) : ev 80 33 [a0, a1, a2, a3, a4, a5, a6, a7] (aI x :: aR 1 i :: r) σ = ev 80 34 [a0, a1, a2, a3, a4, a5, a6, a7] (aR 2 x :: r) σ := ev_cd f_Ub_copy_33 rfl ⟨by decide, by decide, h.1, by rw [aLen_n (by decide) rfl]; exact h.2⟩
theorem f_Ub_copy_34 : fetch 80 34 = some (.astore 7) := by decide +kernel
theorem e_Ub_copy_34 (a0 a1 a2 a3 a4 a5 a7 : AV) (σ : aM) (q : Option (Nat × Int)) (l6 : Option (Nat × Int)) (r : List AV)  : ev 80 34 [a0, a1, a2, a3, a4, a5, aQ l6, a7] (aQ q :: r) σ = ev 80 36 [a0, a1, a2, a3, a4, a5, aQ l6, aQ q] (r) σ := ev_go f_Ub_copy_34 rfl
theorem f_Ub_copy_36 : fetch 80 36 = some (.aload 6) := by decide +kernel
theorem e_Ub_copy_36 (a0 a1 a2 a3 a4 a5 a7 : AV) (σ : aM) (l6 : Option (Nat × Int)) (r : List AV)  : ev 80 36 [a0, a1, a2, a3, a4, a5, aQ l6, a7] (r) σ = ev 80 38 [a0, a1, a2, a3, a4, a5, aQ l6, a7] (aQ l6 :: r) σ := ev_go f_Ub_copy_36 rfl
theorem f_Ub_copy_38 : fetch 80 38 = some (.invokevirtual 89) := by decide +kernel
theorem e_Ub_copy_38 (a0 a1 a2 a3 a4 a5 a6 a7 : AV) (σ : aM) (s0 : Int) : ev 80 38 [a0, a1, a2, a3, a4, a5, a6, a7] [aR 2 s0] σ = evK 80 41 [a0, a1, a2, a3, a4, a5, a6, a7] [] (ev 58 0 [aR 2 s0] [] σ) := ev_call f_Ub_copy_38 rfl rfl
theorem f_Ub_copy_41 : fetch 80 41 = some (.ifCond .ne 11) := by decide +kernel
theorem e_Ub_copy_41 (a0 a1 a2 a3 a4 a5 a6 a7 : AV) (σ : aM) (x : Int) (r : List AV) : ev 80 41 [a0, a1, a2, a3, a4, a5, a6, a7] (aI x :: r) σ = if ¬ x = 0 then ev 80 52 [a0, a1, a2, a3, a4, a5, a6, a7] r σ else ev 80 44 [a0, a1, a2, a3, a4, a5, a6, a7] r σ := ev_br f_Ub_copy_41 rfl bc_ne
theorem f_Ub_copy_44 : fetch 80 44 = some (.aload 7) := by decide +kernel
theorem e_Ub_copy_44 (a0 a1 a2 a3 a4 a5 a6 : AV) (σ : aM) (l7 : Option (Nat × Int)) (r : List AV)  : ev 80 44 [a0, a1, a2, a3, a4, a5, a6, aQ l7] (r) σ = ev 80 46 [a0, a1, a2, a3, a4, a5, a6, aQ l7] (aQ l7 :: r) σ := ev_go f_Ub_copy_44 rfl
theorem f_Ub_copy_46 : fetch 80 46 = some (.invokevirtual 89) := by decide +kernel
theorem e_Ub_copy_46 (a0 a1 a2 a3 a4 a5 a6 a7 : AV) (σ : aM) (s0 : Int) : ev 80 46 [a0, a1, a2, a3, a4, a5, a6, a7] [aR 2 s0] σ = evK 80 49 [a0, a1, a2, a3, a4, a5, a6, a7] [] (ev 58 0 [aR 2 s0] [] σ) := ev_call f_Ub_copy_46 rfl rfl
theorem f_Ub_copy_49 : fetch 80 49 = some (.ifCond .eq 10) := by decide +kernel
theorem e_Ub_copy_49 (a0 a1 a2 a3 a4 a5 a6 a7 : AV) (σ : aM) (x : Int) (r : List AV) : ev 80 49 [a0, a1, a2, a3, a4, a5, a6, a7] (aI x :: r) σ = if x = 0 then ev 80 59 [a0, a1, a2, a3, a4, a5, a6, a7] r σ else ev 80 52 [a0, a1, a2, a3, a4, a5, a6, a7] r σ := ev_br f_Ub_copy_49 rfl bc_eq
theorem f_Ub_copy_52 : fetch 80 52 = some (.aload_n 0) := by decide +kernel
theorem e_Ub_copy_52 (a1 a2 a3 a4 a5 a6 a7 : AV) (σ : aM) (l0 : Option (Nat × Int)) (r : List AV)  : ev 80 52 [aQ l0, a1, a2, a3, a4, a5, a6, a7] (r) σ = ev 80 53 [aQ l0, a1, a2, a3, a4, a5, a6, a7] (aQ l0 :: r) σ := ev_go f_Ub_copy_52 rfl
theorem f_Ub_copy_53 : fetch 80 53 = some (.bipush (-2)) := by decide +kernel
theorem e_Ub_copy_53 (a0 a1 a2 a3 a4 a5 a6 a7 : AV) (σ : aM) (r : List AV)  : ev 80 53 [a0, a1, a2, a3, a4, a5, a6, a7] (r) σ = ev 80 55 [a0, a1, a2, a3, a4, a5, a6, a7] (aI (-2) :: r) σ := ev_go f_Ub_copy_53 rfl
theorem f_Ub_copy_55 : fetch 80 55 = some (.invokevirtual 71) := by decide +kernel
theorem e_Ub_copy_55 (a0 a1 a2 a3 a4 a5 a6 a7 : AV) (σ : aM) (s0 : Int) (s1 : Int) : ev 80 55 [a0, a1, a2, a3, a4, a5, a6, a7] [aI s1, aR 0 s0] σ = evK 80 58 [a0, a1, a2, a3, a4, a5, a6, a7] [] (ev 113 0 [aR 0 s0, aI s1] [] σ) := ev_call f_Ub_copy_55 rfl rfl
theorem f_Ub_copy_58 : fetch 80 58 = some (.ireturn) := by decide +kernel
theorem e_Ub_copy_58 (a0 a1 a2 a3 a4 a5 a6 a7 : AV) (σ : aM) (x : Int) : ev 80 58 [a0, a1, a2, a3, a4, a5, a6, a7] [aI x] σ = some ((some (aI x)), σ) := ev_ret f_Ub_copy_58 rfl
theorem f_Ub_copy_59 : fetch 80 59 = some (.aload 6) := by decide +kernel
theorem e_Ub_copy_59 (a0 a1 a2 a3 a4 a5 a7 : AV) (σ : aM) (l6 : Option (Nat × Int)) (r : List AV)  : ev 80 59 [a0, a1, a2, a3, a4, a5, aQ l6, a7] (r) σ = ev 80 61 [a0, a1, a2, a3, a4, a5, aQ l6, a7] (aQ l6 :: r) σ := ev_go f_Ub_copy_59 rfl
theorem f_Ub_copy_61 : fetch 80 61 = some (.invokevirtual 93) := by decide +kernel
theorem e_Ub_copy_61 (a0 a1 a2 a3 a4 a5 a6 a7 : AV) (σ : aM) (s0 : Int) : ev 80 61 [a0, a1, a2, a3, a4, a5, a6, a7] [aR 2 s0] σ = evK 80 64 [a0, a1, a2, a3, a4, a5, a6, a7] [] (ev 57 0 [aR 2 s0] [] σ) := ev_call f_Ub_copy_61 rfl rfl
theorem f_Ub_copy_64 : fetch 80 64 = some (.ifCond .eq 31) := by decide +kernel
theorem e_Ub_copy_64 (a0 a1 a2 a3 a4 a5 a6 a7 : AV) (σ : aM) (x : Int) (r : List AV) : ev 80 64 [a0, a1, a2, a3, a4, a5, a6, a7] (aI x :: r) σ = if x = 0 then ev 80 95 [a0, a1, a2, a3, a4, a5, a6, a7] r σ else ev 80 67 [a0, a1, a2, a3, a4, a5, a6, a7] r σ := ev_br f_Ub_copy_64 rfl bc_eq
theorem f_Ub_copy_67 : fetch 80 67 = some (.aload 7) := by decide +kernel
theorem e_Ub_copy_67 (a0 a1 a2 a3 a4 a5 a6 : AV) (σ : aM) (l7 : Option (Nat × Int)) (r : List AV)  : ev 80 67 [a0, a1, a2, a3, a4, a5, a6, aQ l7] (r) σ = ev 80 69 [a0, a1, a2, a3, a4, a5, a6, aQ l7] (aQ l7 :: r) σ := ev_go f_Ub_copy_67 rfl
theorem f_Ub_copy_69 : fetch 80 69 = some (.invokevirtual 93) := by decide +kernel
theorem e_Ub_copy_69 (a0 a1 a2 a3 a4 a5 a6 a7 : AV) (σ : aM) (s0 : Int) : ev 80 69 [a0, a1, a2, a3, a4, a5, a6, a7] [aR 2 s0] σ = evK 80 72 [a0, a1, a2, a3, a4, a5, a6, a7] [] (ev 57 0 [aR 2 s0] [] σ) := ev_call f_Ub_copy_69 rfl rfl
theorem f_Ub_copy_72 : fetch 80 72 = some (.ifCond .eq 23) := by decide +kernel
theorem e_Ub_copy_72 (a0 a1 a2 a3 a4 a5 a6 a7 : AV) (σ : aM) (x : Int) (r : List AV) : ev 80 72 [a0, a1, a2, a3, a4, a5, a6, a7] (aI x :: r) σ = if x = 0 then ev 80 95 [a0, a1, a2, a3, a4, a5, a6, a7] r σ else ev 80 75 [a0, a1, a2, a3, a4, a5, a6, a7] r σ := ev_br f_Ub_copy_72 rfl bc_eq
theorem f_Ub_copy_75 : fetch 80 75 = some (.aload 6) := by decide +kernel
theorem e_Ub_copy_75 (a0 a1 a2 a3 a4 a5 a7 : AV) (σ : aM) (l6 : Option (Nat × Int)) (r : List AV)  : ev 80 75 [a0, a1, a2, a3, a4, a5, aQ l6, a7] (r) σ = ev 80 77 [a0, a1, a2, a3, a4, a5, aQ l6, a7] (aQ l6 :: r) σ := ev_go f_Ub_copy_75 rfl
theorem f_Ub_copy_77 : fetch 80 77 = some (.getfield 96) := by decide +kernel
theorem e_Ub_copy_77 (a0 a1 a2 a3 a4 a5 a6 a7 : AV) (σ : aM) (i : Int) (r : List AV)  : ev 80 77 [a0, a1, a2, a3, a4, a5, a6, a7] (aR 2 i :: r) σ = ev 80 80 [a0, a1, a2, a3, a4, a5, a6, a7] (aI (gI σ 2 i 2) :: r) σ := ev_go f_Ub_copy_77 rfl
theorem f_Ub_copy_80 : fetch 80 80 = some (.aload 7) := by decide +kernel
theorem e_Ub_copy_80 (a0 a1 a2 a3 a4 a5 a6 : AV) (σ : aM) (l7 : Option (Nat × Int)) (r : List AV)  : ev 80 80 [a0, a1, a2, a3, a4, a5, a6, aQ l7] (r) σ = ev 80 82 [a0, a1, a2, a3, a4, a5, a6, aQ l7] (aQ l7 :: r) σ := ev_go f_Ub_copy_80 rfl
theorem f_Ub_copy_82 : fetch 80 82 = some (.getfield 96) := by decide +kernel
theorem e_Ub_copy_82 (a0 a1 a2 a3 a4 a5 a6 a7 : AV) (σ : aM) (i : Int) (r : List AV)  : ev 80 82 [a0, a1, a2, a3, a4, a5, a6, a7] (aR 2 i :: r) σ = ev 80 85 [a0, a1, a2, a3, a4, a5, a6, a7] (aI (gI σ 2 i 2) :: r) σ := ev_go f_Ub_copy_82 rfl
theorem f_Ub_copy_85 : fetch 80 85 = some (.if_icmp .eq 10) := by decide +kernel
theorem e_Ub_copy_85 (a0 a1 a2 a3 a4 a5 a6 a7 : AV) (σ : aM) (x z : Int) (r : List AV) : ev 80 85 [a0, a1, a2, a3, a4, a5, a6, a7] (aI z :: aI x :: r) σ = if x = z then ev 80 95 [a0, a1, a2, a3, a4, a5, a6, a7] r σ else ev 80 88 [a0, a1, a2, a3, a4, a5, a6, a7] r σ := ev_br f_Ub_copy_85 rfl bc_eq
theorem f_Ub_copy_88 : fetch 80 88 = some (.aload_n 0) := by decide +kernel
theorem e_Ub_copy_88 (a1 a2 a3 a4 a5 a6 a7 : AV) (σ : aM) (l0 : Option (Nat × Int)) (r : List AV)  : ev 80 88 [aQ l0, a1, a2, a3, a4, a5, a6, a7] (r) σ = ev 80 89 [aQ l0, a1, a2, a3, a4, a5, a6, a7] (aQ l0 :: r) σ := ev_go f_Ub_copy_88 rfl
theorem f_Ub_copy_89 : fetch 80 89 = some (.bipush (-2)) := by decide +kernel
theorem e_Ub_copy_89 (a0 a1 a2 a3 a4 a5 a6 a7 : AV) (σ : aM) (r : List AV)  : ev 80 89 [a0, a1, a2, a3, a4, a5, a6, a7] (r) σ = ev 80 91 [a0, a1, a2, a3, a4, a5, a6, a7] (aI (-2) :: r) σ := ev_go f_Ub_copy_89 rfl
theorem f_Ub_copy_91 : fetch 80 91 = some (.invokevirtual 71) := by decide +kernel
theorem e_Ub_copy_91 (a0 a1 a2 a3 a4 a5 a6 a7 : AV) (σ : aM) (s0 : Int) (s1 : Int) : ev 80 91 [a0, a1, a2, a3, a4, a5, a6, a7] [aI s1, aR 0 s0] σ = evK 80 94 [a0, a1, a2, a3, a4, a5, a6, a7] [] (ev 113 0 [aR 0 s0, aI s1] [] σ) := ev_call f_Ub_copy_91 rfl rfl
theorem f_Ub_copy_94 : fetch 80 94 = some (.ireturn) := by decide +kernel
theorem e_Ub_copy_94 (a0 a1 a2 a3 a4 a5 a6 a7 : AV) (σ : aM) (x : Int) : ev 80 94 [a0, a1, a2, a3, a4, a5, a6, a7] [aI x] σ = some ((some (aI x)), σ) := ev_ret f_Ub_copy_94 rfl
theorem f_Ub_copy_95 : fetch 80 95 = some (.aload 6) := by decide +kernel
theorem e_Ub_copy_95 (a0 a1 a2 a3 a4 a5 a7 : AV) (σ : aM) (l6 : Option (Nat × Int)) (r : List AV)  : ev 80 95 [a0, a1, a2, a3, a4, a5, aQ l6, a7] (r) σ = ev 80 97 [a0, a1, a2, a3, a4, a5, aQ l6, a7] (aQ l6 :: r) σ := ev_go f_Ub_copy_95 rfl
theorem f_Ub_copy_97 : fetch 80 97 = some (.invokevirtual 93) := by decide +kernel
theorem e_Ub_copy_97 (a0 a1 a2 a3 a4 a5 a6 a7 : AV) (σ : aM) (s0 : Int) : ev 80 97 [a0, a1, a2, a3, a4, a5, a6, a7] [aR 2 s0] σ = evK 80 100 [a0, a1, a2, a3, a4, a5, a6, a7] [] (ev 57 0 [aR 2 s0] [] σ) := ev_call f_Ub_copy_97 rfl rfl
theorem f_Ub_copy_100 : fetch 80 100 = some (.ifCond .eq 11) := by decide +kernel
theorem e_Ub_copy_100 (a0 a1 a2 a3 a4 a5 a6 a7 : AV) (σ : aM) (x : Int) (r : List AV) : ev 80 100 [a0, a1, a2, a3, a4, a5, a6, a7] (aI x :: r) σ = if x = 0 then ev 80 111 [a0, a1, a2, a3, a4, a5, a6, a7] r σ else ev 80 103 [a0, a1, a2, a3, a4, a5, a6, a7] r σ := ev_br f_Ub_copy_100 rfl bc_eq
theorem f_Ub_copy_103 : fetch 80 103 = some (.aload 7) := by decide +kernel
theorem e_Ub_copy_103 (a0 a1 a2 a3 a4 a5 a6 : AV) (σ : aM) (l7 : Option (Nat × Int)) (r : List AV)  : ev 80 103 [a0, a1, a2, a3, a4, a5, a6, aQ l7] (r) σ = ev 80 105 [a0, a1, a2, a3, a4, a5, a6, aQ l7] (aQ l7 :: r) σ := ev_go f_Ub_copy_103 rfl
theorem f_Ub_copy_105 : fetch 80 105 = some (.invokevirtual 93) := by decide +kernel
theorem e_Ub_copy_105 (a0 a1 a2 a3 a4 a5 a6 a7 : AV) (σ : aM) (s0 : Int) : ev 80 105 [a0, a1, a2, a3, a4, a5, a6, a7] [aR 2 s0] σ = evK 80 108 [a0, a1, a2, a3, a4, a5, a6, a7] [] (ev 57 0 [aR 2 s0] [] σ) := ev_call f_Ub_copy_105 rfl rfl
theorem f_Ub_copy_108 : fetch 80 108 = some (.ifCond .ne 10) := by decide +kernel
theorem e_Ub_copy_108 (a0 a1 a2 a3 a4 a5 a6 a7 : AV) (σ : aM) (x : Int) (r : List AV) : ev 80 108 [a0, a1, a2, a3, a4, a5, a6, a7] (aI x :: r) σ = if ¬ x = 0 then ev 80 118 [a0, a1, a2, a3, a4, a5, a6, a7] r σ else ev 80 111 [a0, a1, a2, a3, a4, a5, a6, a7] r σ := ev_br f_Ub_copy_108 rfl bc_ne
theorem f_Ub_copy_111 : fetch 80 111 = some (.aload_n 0) := by decide +kernel
theorem e_Ub_copy_111 (a1 a2 a3 a4 a5 a6 a7 : AV) (σ : aM) (l0 : Option (Nat × Int)) (r : List AV)  : ev 80 111 [aQ l0, a1, a2, a3, a4, a5, a6, a7] (r) σ = ev 80 112 [aQ l0, a1, a2, a3, a4, a5, a6, a7] (aQ l0 :: r) σ := ev_go f_Ub_copy_111 rfl
theorem f_Ub_copy_112 : fetch 80 112 = some (.bipush (-3)) := by decide +kernel
theorem e_Ub_copy_112 (a0 a1 a2 a3 a4 a5 a6 a7 : AV) (σ : aM) (r : List AV)  : ev 80 112 [a0, a1, a2, a3, a4, a5, a6, a7] (r) σ = ev 80 114 [a0, a1, a2, a3, a4, a5, a6, a7] (aI (-3) :: r) σ := ev_go f_Ub_copy_112 rfl
theorem f_Ub_copy_114 : fetch 80 114 = some (.invokevirtual 71) := by decide +kernel
theorem e_Ub_copy_114 (a0 a1 a2 a3 a4 a5 a6 a7 : AV) (σ : aM) (s0 : Int) (s1 : Int) : ev 80 114 [a0, a1, a2, a3, a4, a5, a6, a7] [aI s1, aR 0 s0] σ = evK 80 117 [a0, a1, a2, a3, a4, a5, a6, a7] [] (ev 113 0 [aR 0 s0, aI s1] [] σ) := ev_call f_Ub_copy_114 rfl rfl
theorem f_Ub_copy_117 : fetch 80 117 = some (.ireturn) := by decide +kernel
theorem e_Ub_copy_117 (a0 a1 a2 a3 a4 a5 a6 a7 : AV) (σ : aM) (x : Int) : ev 80 117 [a0, a1, a2, a3, a4, a5, a6, a7] [aI x] σ = some ((some (aI x)), σ) := ev_ret f_Ub_copy_117 rfl
theorem f_Ub_copy_118 : fetch 80 118 = some (.iload 5) := by decide +kernel
theorem e_Ub_copy_118 (a0 a1 a2 a3 a4 a6 a7 : AV) (σ : aM) (l5 : Int) (r : List AV)  : ev 80 118 [a0, a1, a2, a3, a4, aI l5, a6, a7] (r) σ = ev 80 120 [a0, a1, a2, a3, a4, aI l5, a6, a7] (aI l5 :: r) σ := ev_go f_Ub_copy_118 rfl
theorem f_Ub_copy_120 : fetch 80 120 = some (.ifCond .ge 10) := by decide +kernel
theorem e_Ub_copy_120 (a0 a1 a2 a3 a4 a5 a6 a7 : AV) (σ : aM) (x : Int) (r : List AV) : ev 80 120 [a0, a1, a2, a3, a4, a5, a6, a7] (aI x :: r) σ = if 0 ≤ x then ev 80 130 [a0, a1, a2, a3, a4, a5, a6, a7] r σ else ev 80 123 [a0, a1, a2, a3, a4, a5, a6, a7] r σ := ev_br f_Ub_copy_120 rfl bc_ge
theorem f_Ub_copy_123 : fetch 80 123 = some (.aload_n 0) := by decide +kernel
theorem e_Ub_copy_123 (a1 a2 a3 a4 a5 a6 a7 : AV) (σ : aM) (l0 : Option (Nat × Int)) (r : List AV)  : ev 80 123 [aQ l0, a1, a2, a3, a4, a5, a6, a7] (r) σ = ev 80 124 [aQ l0, a1, a2, a3, a4, a5, a6, a7] (aQ l0 :: r) σ := ev_go f_Ub_copy_123 rfl
theorem f_Ub_copy_124 : fetch 80 124 = some (.bipush (-4)) := by decide +kernel
theorem e_Ub_copy_124 (a0 a1 a2 a3 a4 a5 a6 a7 : AV) (σ : aM) (r : List AV)  : ev 80 124 [a0, a1, a2, a3, a4, a5, a6, a7] (r) σ = ev 80 126 [a0, a1, a2, a3, a4, a5, a6, a7] (aI (-4) :: r) σ := ev_go f_Ub_copy_124 rfl
theorem f_Ub_copy_126 : fetch 80 126 = some (.invokevirtual 71) := by decide +kernel
theorem e_Ub_copy_126 (a0 a1 a2 a3 a4 a5 a6 a7 : AV) (σ : aM) (s0 : Int) (s1 : Int) : ev 80 126 [a0, a1, a2, a3, a4, a5, a6, a7] [aI s1, aR 0 s0] σ = evK 80 129 [a0, a1, a2, a3, a4, a5, a6, a7] [] (ev 113 0 [aR 0 s0, aI s1] [] σ) := ev_call f_Ub_copy_126 rfl rfl
theorem f_Ub_copy_129 : fetch 80 129 = some (.ireturn) := by decide +kernel
theorem e_Ub_copy_129 (a0 a1 a2 a3 a4 a5 a6 a7 : AV) (σ : aM) (x : Int) : ev 80 129 [a0, a1, a2, a3, a4, a5, a6, a7] [aI x] σ = some ((some (aI x)), σ) := ev_ret f_Ub_copy_129 rfl
theorem f_Ub_copy_130 : fetch 80 130 = some (.aload 6) := by decide +kernel
theorem e_Ub_copy_130 (a0 a1 a2 a3 a4 a5 a7 : AV) (σ : aM) (l6 : Option (Nat × Int)) (r : List AV)  : ev 80 130 [a0, a1, a2, a3, a4, a5, aQ l6, a7] (r) σ = ev 80 132 [a0, a1, a2, a3, a4, a5, aQ l6, a7] (aQ l6 :: r) σ := ev_go f_Ub_copy_130 rfl
theorem f_Ub_copy_132 : fetch 80 132 = some (.iload_n 3) := by decide +kernel
theorem e_Ub_copy_132 (a0 a1 a2 a4 a5 a6 a7 : AV) (σ : aM) (l3 : Int) (r : List AV)  : ev 80 132 [a0, a1, a2, aI l3, a4, a5, a6, a7] (r) σ = ev 80 133 [a0, a1, a2, aI l3, a4, a5, a6, a7] (aI l3 :: r) σ := ev_go f_Ub_copy_132 rfl
theorem f_Ub_copy_133 : fetch 80 133 = some (.iload 5) := by decide +kernel
theorem e_Ub_copy_133 (a0 a1 a2 a3 a4 a6 a7 : AV) (σ : aM) (l5 : Int) (r : List AV)  : ev 80 133 [a0, a1, a2, a3, a4, aI l5, a6, a7] (r) σ = ev 80 135 [a0, a1, a2, a3, a4, aI l5, a6, a7] (aI l5 :: r) σ := ev_go f_Ub_copy_133 rfl
theorem f_Ub_copy_135 : fetch 80 135 = some (.invokevirtual 99) := by decide +kernel
theorem e_Ub_copy_135 (a0 a1 a2 a3 a4 a5 a6 a7 : AV) (σ : aM) (s0 : Int) (s1 : Int) (s2 : Int) : ev 80 135 [a0, a1, a2, a3, a4, a5, a6, a7] [aI s2, aI s1, aR 2 s0] σ = evK 80 138 [a0, a1, a2, a3, a4, a5, a6, a7] [] (ev 60 0 [aR 2 s0, aI s1, aI s2] [] σ) := ev_call f_Ub_copy_135 rfl rfl
theorem f_Ub_copy_138 : fetch 80 138 = some (.ifCond .eq 15) := by decide +kernel
theorem e_Ub_copy_138 (a0 a1 a2 a3 a4 a5 a6 a7 : AV) (σ : aM) (x : Int) (r : List AV) : ev 80 138 [a0, a1, a2, a3, a4, a5, a6, a7] (aI x :: r) σ = if x = 0 then ev 80 153 [a0, a1, a2, a3, a4, a5, a6, a7] r σ else ev 80 141 [a0, a1, a2, a3, a4, a5, a6, a7] r σ := ev_br f_Ub_copy_138 rfl bc_eq
theorem f_Ub_copy_141 : fetch 80 141 = some (.aload 7) := by decide +kernel
theorem e_Ub_copy_141 (a0 a1 a2 a3 a4 a5 a6 : AV) (σ : aM) (l7 : Option (Nat × Int)) (r : List AV)  : ev 80 141 [a0, a1, a2, a3, a4, a5, a6, aQ l7] (r) σ = ev 80 143 [a0, a1, a2, a3, a4, a5, a6, aQ l7] (aQ l7 :: r) σ := ev_go f_Ub_copy_141 rfl
theorem f_Ub_copy_143 : fetch 80 143 = some (.iload 4) := by decide +kernel
theorem e_Ub_copy_143 (a0 a1 a2 a3 a5 a6 a7 : AV) (σ : aM) (l4 : Int) (r : List AV)  : ev 80 143 [a0, a1, a2, a3, aI l4, a5, a6, a7] (r) σ = ev 80 145 [a0, a1, a2, a3, aI l4, a5, a6, a7] (aI l4 :: r) σ := ev_go f_Ub_copy_143 rfl
theorem f_Ub_copy_145 : fetch 80 145 = some (.iload 5) := by decide +kernel
theorem e_Ub_copy_145 (a0 a1 a2 a3 a4 a6 a7 : AV) (σ : aM) (l5 : Int) (r : List AV)  : ev 80 145 [a0, a1, a2, a3, a4, aI l5, a6, a7] (r) σ = ev 80 147 [a0, a1, a2, a3, a4, aI l5, a6, a7] (aI l5 :: r) σ := ev_go f_Ub_copy_145 rfl
theorem f_Ub_copy_147 : fetch 80 147 = some (.invokevirtual 99) := by decide +kernel
theorem e_Ub_copy_147 (a0 a1 a2 a3 a4 a5 a6 a7 : AV) (σ : aM) (s0 : Int) (s1 : Int) (s2 : Int) : ev 80 147 [a0, a1, a2, a3, a4, a5, a6, a7] [aI s2, aI s1, aR 2 s0] σ = evK 80 150 [a0, a1, a2, a3, a4, a5, a6, a7] [] (ev 60 0 [aR 2 s0, aI s1, aI s2] [] σ) := ev_call f_Ub_copy_147 rfl rfl
theorem f_Ub_copy_150 : fetch 80 150 = some (.ifCond .ne 10) := by decide +kernel
theorem e_Ub_copy_150 (a0 a1 a2 a3 a4 a5 a6 a7 : AV) (σ : aM) (x : Int) (r : List AV) : ev 80 150 [a0, a1, a2, a3, a4, a5, a6, a7] (aI x :: r) σ = if ¬ x = 0 then ev 80 160 [a0, a1, a2, a3, a4, a5, a6, a7] r σ else ev 80 153 [a0, a1, a2, a3, a4, a5, a6, a7] r σ := ev_br f_Ub_copy_150 rfl bc_ne
theorem f_Ub_copy_153 : fetch 80 153 = some (.aload_n 0) := by decide +kernel
theorem e_Ub_copy_153 (a1 a2 a3 a4 a5 a6 a7 : AV) (σ : aM) (l0 : Option (Nat × Int)) (r : List AV)  : ev 80 153 [aQ l0, a1, a2, a3, a4, a5, a6, a7] (r) σ = ev 80 154 [aQ l0, a1, a2, a3, a4, a5, a6, a7] (aQ l0 :: r) σ := ev_go f_Ub_copy_153 rfl
theorem f_Ub_copy_154 : fetch 80 154 = some (.bipush (-5)) := by decide +kernel
theorem e_Ub_copy_154 (a0 a1 a2 a3 a4 a5 a6 a7 : AV) (σ : aM) (r : List AV)  : ev 80 154 [a0, a1, a2, a3, a4, a5, a6, a7] (r) σ = ev 80 156 [a0, a1, a2, a3, a4, a5, a6, a7] (aI (-5) :: r) σ := ev_go f_Ub_copy_154 rfl
theorem f_Ub_copy_156 : fetch 80 156 = some (.invokevirtual 71) := by decide +kernel
theorem e_Ub_copy_156 (a0 a1 a2 a3 a4 a5 a6 a7 : AV) (σ : aM) (s0 : Int) (s1 : Int) : ev 80 156 [a0, a1, a2, a3, a4, a5, a6, a7] [aI s1, aR 0 s0] σ = evK 80 159 [a0, a1, a2, a3, a4, a5, a6, a7] [] (ev 113 0 [aR 0 s0, aI s1] [] σ) := ev_call f_Ub_copy_156 rfl rfl
theorem f_Ub_copy_159 : fetch 80 159 = some (.ireturn) := by decide +kernel
theorem e_Ub_copy_159 (a0 a1 a2 a3 a4 a5 a6 a7 : AV) (σ : aM) (x : Int) : ev 80 159 [a0, a1, a2, a3, a4, a5, a6, a7] [aI x] σ = some ((some (aI x)), σ) := ev_ret f_Ub_copy_159 rfl
theorem f_Ub_copy_160 : fetch 80 160 = some (.aload 6) := by decide +kernel
theorem e_Ub_copy_160 (a0 a1 a2 a3 a4 a5 a7 : AV) (σ : aM) (l6 : Option (Nat × Int)) (r : List AV)  : ev 80 160 [a0, a1, a2, a3, a4, a5, aQ l6, a7] (r) σ = ev 80 162 [a0, a1, a2, a3, a4, a5, aQ l6, a7] (aQ l6 :: r) σ := ev_go f_Ub_copy_160 rfl
theorem f_Ub_copy_162 : fetch 80 162 = some (.getfield 103) := by decide +kernel
theorem e_Ub_copy_162 (a0 a1 a2 a3 a4 a5 a6 a7 : AV) (σ : aM) (i : Int) (r : List AV)  : ev 80 162 [a0, a1, a2, a3, a4, a5, a6, a7] (aR 2 i :: r) σ = ev 80 165 [a0, a1, a2, a3, a4, a5, a6, a7] (aR 3 i :: r) σ := ev_go f_Ub_copy_162 rfl
theorem f_Ub_copy_165 : fetch 80 165 = some (.iload_n 3) := by decide +kernel
theorem e_Ub_copy_165 (a0 a1 a2 a4 a5 a6 a7 : AV) (σ : aM) (l3 : Int) (r : List AV)  : ev 80 165 [a0, a1, a2, aI l3, a4, a5, a6, a7] (r) σ = ev 80 166 [a0, a1, a2, aI l3, a4, a5, a6, a7] (aI l3 :: r) σ := ev_go f_Ub_copy_165 rfl
theorem f_Ub_copy_166 : fetch 80 166 = some (.aload 7) := by decide +kernel
theorem e_Ub_copy_166 (a0 a1 a2 a3 a4 a5 a6 : AV) (σ : aM) (l7 : Option (Nat × Int)) (r : List AV)  : ev 80 166 [a0, a1, a2, a3, a4, a5, a6, aQ l7] (r) σ = ev 80 168 [a0, a1, a2, a3, a4, a5, a6, aQ l7] (aQ l7 :: r) σ := ev_go f_Ub_copy_166 rfl
theorem f_Ub_copy_168 : fetch 80 168 = some (.getfield 103) := by decide +kernel
theorem e_Ub_copy_168 (a0 a1 a2 a3 a4 a5 a6 a7 : AV) (σ : aM) (i : Int) (r : List AV)  : ev 80 168 [a0, a1, a2, a3, a4, a5, a6, a7] (aR 2 i :: r) σ = ev 80 171 [a0, a1, a2, a3, a4, a5, a6, a7] (aR 3 i :: r) σ := ev_go f_Ub_copy_168 rfl
theorem f_Ub_copy_171 : fetch 80 171 = some (.iload 4) := by decide +kernel
theorem e_Ub_copy_171 (a0 a1 a2 a3 a5 a6 a7 : AV) (σ : aM) (l4 : Int) (r : List AV)  : ev 80 171 [a0, a1, a2, a3, aI l4, a5, a6, a7] (r) σ = ev 80 173 [a0, a1, a2, a3, aI l4, a5, a6, a7] (aI l4 :: r) σ := ev_go f_Ub_copy_171 rfl
theorem f_Ub_copy_173 : fetch 80 173 = some (.iload 5) := by decide +kernel
theorem e_Ub_copy_173 (a0 a1 a2 a3 a4 a6 a7 : AV) (σ : aM) (l5 : Int) (r : List AV)  : ev 80 173 [a0, a1, a2, a3, a4, aI l5, a6, a7] (r) σ = ev 80 175 [a0, a1, a2, a3, a4, aI l5, a6, a7] (aI l5 :: r) σ := ev_go f_Ub_copy_173 rfl
theorem f_Ub_copy_175 : fetch 80 175 = some (.invokestatic 107) := by decide +kernel
theorem e_Ub_copy_175 (a0 a1 a2 a3 a4 a5 a6 a7 : AV) (σ : aM) (s0 : Int) (s1 : Int) (s2 : Int) (s3 : Int) (s4 : Int) (h : 0 ≤ s1 ∧ 0 ≤ s3 ∧ 0 ≤ s4 ∧ s1 + s4 ≤ 160 ∧ s3 + s4 ≤ 160) : ev 80 175 [a0, a1, a2, a3, a4, a5, a6, a7] [aI s4, aI s3, aR 3 s2, aI s1, aR 3 s0] σ = ev 80 178 [a0, a1, a2, a3, a4, a5, a6, a7] [] (kL σ 3 s0 s1 3 s2 s3 s4) := ev_cd f_Ub_copy_175 rfl ⟨rfl, rfl, by decide, by decide, h.1, h.2.1, h.2.2.1, h.2.2.2.1, h.2.2.2.2, by decide, by decide, rfl⟩
theorem f_Ub_copy_178 : fetch 80 178 = some (.iconst 1) := by decide +kernel
theorem e_Ub_copy_178 (a0 a1 a2 a3 a4 a5 a6 a7 : AV) (σ : aM) (r : List AV)  : ev 80 178 [a0, a1, a2, a3, a4, a5, a6, a7] (r) σ = ev 80 179 [a0, a1, a2, a3, a4, a5, a6, a7] (aI 1 :: r) σ := ev_go f_Ub_copy_178 rfl
theorem f_Ub_copy_179 : fetch 80 179 = some (.ireturn) := by decide +kernel
theorem e_Ub_copy_179 (a0 a1 a2 a3 a4 a5 a6 a7 : AV) (σ : aM) (x : Int) : ev 80 179 [a0, a1, a2, a3, a4, a5, a6, a7] [aI x] σ = some ((some (aI x)), σ) := ev_ret f_Ub_copy_179 rfl
theorem f_Ub_element_0 : fetch 81 0 = some (.iload_n 1) := by decide +kernel
theorem e_Ub_element_0 (a0 a2 : AV) (σ : aM) (l1 : Int) (r : List AV)  : ev 81 0 [a0, aI l1, a2] (r) σ = ev 81 1 [a0, aI l1, a2] (aI l1 :: r) σ := ev_go f_Ub_element_0 rfl
theorem f_Ub_element_1 : fetch 81 1 = some (.invokestatic 67) := by decide +kernel
theorem e_Ub_element_1 (a0 a1 a2 : AV) (σ : aM) (s0 : Int) : ev 81 1 [a0, a1, a2] [aI s0] σ = evK 81 4 [a0, a1, a2] [] (ev 117 0 [aI s0] [] σ) := ev_call f_Ub_element_1 rfl rfl
theorem f_Ub_element_4 : fetch 81 4 = some (.ifCond .eq 16) := by decide +kernel
theorem e_Ub_element_4 (a0 a1 a2 : AV) (σ : aM) (x : Int) (r : List AV) : ev 81 4 [a0, a1, a2] (aI x :: r) σ = if x = 0 then ev 81 20 [a0, a1, a2] r σ else ev 81 7 [a0, a1, a2] r σ := ev_br f_Ub_element_4 rfl bc_eq
theorem f_Ub_element_7 : fetch 81 7 = some (.aload_n 0) := by decide +kernel
theorem e_Ub_element_7 (a1 a2 : AV) (σ : aM) (l0 : Option (Nat × Int)) (r : List AV)  : ev 81 7 [aQ l0, a1, a2] (r) σ = ev 81 8 [aQ l0, a1, a2] (aQ l0 :: r) σ := ev_go f_Ub_element_7 rfl
theorem f_Ub_element_8 : fetch 81 8 = some (.getfield 11) := by decide +kernel
theorem e_Ub_element_8 (a0 a1 a2 : AV) (σ : aM) (i : Int) (r : List AV)  : ev 81 8 [a0, a1, a2] (aR 0 i :: r) σ = ev 81 11 [a0, a1, a2] (aR 1 0 :: r) σ := ev_go f_Ub_element_8 rfl
theorem f_Ub_element_11 : fetch 81 11 = some (.iload_n 1) := by decide +kernel
theorem e_Ub_element_11 (a0 a2 : AV) (σ : aM) (l1 : Int) (r : List AV)  : ev 81 11 [a0, aI l1, a2] (r) σ = ev 81 12 [a0, aI l1, a2] (aI l1 :: r) σ := ev_go f_Ub_element_11 rfl
theorem f_Ub_element_12 : fetch 81 12 = some (.aaload) := by decide +kernel
theorem e_Ub_element_12 (a0 a1 a2 : AV) (σ : aM) (x : Int) (i : Int) (r : List AV) (h : 0 ≤ x ∧ x < 8) : ev 81 12 [a0, a1, a2] (aI x :: aR 1 i :: r) σ = ev 81 13 [a0, a1, a2] (aR 2 x :: r) σ := ev_cd f_Ub_element_12 rfl ⟨by decide, by decide, h.1, by rw [aLen_n (by decide) rfl]; exact h.2⟩
theorem f_Ub_element_13 : fetch 81 13 = some (.iload_n 2) := by decide +kernel
theorem e_Ub_element_13 (a0 a1 : AV) (σ : aM) (l2 : Int) (r : List AV)  : ev 81 13 [a0, a1, aI l2] (r) σ = ev 81 14 [a0, a1, aI l2] (aI l2 :: r) σ := ev_go f_Ub_element_13 rfl
theorem f_Ub_element_14 : fetch 81 14 = some (.invokevirtual 82) := by decide +kernel
theorem e_Ub_element_14 (a0 a1 a2 : AV) (σ : aM) (s0 : Int) (s1 : Int) : ev 81 14 [a0, a1, a2] [aI s1, aR 2 s0] σ = evK 81 17 [a0, a1, a2] [] (ev 59 0 [aR 2 s0, aI s1] [] σ) := ev_call f_Ub_element_14 rfl rfl
theorem f_Ub_element_17 : fetch 81 17 = some (.ifCond .ne 5) := by decide +kernel
theorem e_Ub_element_17 (a0 a1 a2 : AV) (σ : aM) (x : Int) (r : List AV) : ev 81 17 [a0, a1, a2] (aI x :: r) σ = if ¬ x = 0 then ev 81 22 [a0, a1, a2] r σ else ev 81 20 [a0, a1, a2] r σ := ev_br f_Ub_element_17 rfl bc_ne
theorem f_Ub_element_20 : fetch 81 20 = some (.lconst 0) := by decide +kernel
theorem e_Ub_element_20 (a0 a1 a2 : AV) (σ : aM) (r : List AV)  : ev 81 20 [a0, a1, a2] (r) σ = ev 81 21 [a0, a1, a2] (aJ 0 :: r) σ := ev_go f_Ub_element_20 rfl
theorem f_Ub_element_21 : fetch 81 21 = some (.lreturn) := by decide +kernel
theorem e_Ub_element_21 (a0 a1 a2 : AV) (σ : aM) (x : Int64) : ev 81 21 [a0, a1, a2] [aJ x] σ = some ((some (aJ x)), σ) := ev_ret f_Ub_element_21 rfl
theorem f_Ub_element_22 : fetch 81 22 = some (.aload_n 0) := by decide +kernel
theorem e_Ub_element_22 (a1 a2 : AV) (σ : aM) (l0 : Option (Nat × Int)) (r : List AV)  : ev 81 22 [aQ l0, a1, a2] (r) σ = ev 81 23 [aQ l0, a1, a2] (aQ l0 :: r) σ := ev_go f_Ub_element_22 rfl
theorem f_Ub_element_23 : fetch 81 23 = some (.getfield 11) := by decide +kernel
theorem e_Ub_element_23 (a0 a1 a2 : AV) (σ : aM) (i : Int) (r : List AV)  : ev 81 23 [a0, a1, a2] (aR 0 i :: r) σ = ev 81 26 [a0, a1, a2] (aR 1 0 :: r) σ := ev_go f_Ub_element_23 rfl
theorem f_Ub_element_26 : fetch 81 26 = some (.iload_n 1) := by decide +kernel
theorem e_Ub_element_26 (a0 a2 : AV) (σ : aM) (l1 : Int) (r : List AV)  : ev 81 26 [a0, aI l1, a2] (r) σ = ev 81 27 [a0, aI l1, a2] (aI l1 :: r) σ := ev_go f_Ub_element_26 rfl
theorem f_Ub_element_27 : fetch 81 27 = some (.aaload) := by decide +kernel
theorem e_Ub_element_27 (a0 a1 a2 : AV) (σ : aM) (x : Int) (i : Int) (r : List AV) (h : 0 ≤ x ∧ x < 8) : ev 81 27 [a0, a1, a2] (aI x :: aR 1 i :: r) σ = ev 81 28 [a0, a1, a2] (aR 2 x :: r) σ := ev_cd f_Ub_element_27 rfl ⟨by decide, by decide, h.1, by rw [aLen_n (by decide) rfl]; exact h.2⟩
theorem f_Ub_element_28 : fetch 81 28 = some (.getfield 103) := by decide +kernel
theorem e_Ub_element_28 (a0 a1 a2 : AV) (σ : aM) (i : Int) (r : List AV)  : ev 81 28 [a0, a1, a2] (aR 2 i :: r) σ = ev 81 31 [a0, a1, a2] (aR 3 i :: r) σ := ev_go f_Ub_element_28 rfl
theorem f_Ub_element_31 : fetch 81 31 = some (.iload_n 2) := by decide +kernel
theorem e_Ub_element_31 (a0 a1 : AV) (σ : aM) (l2 : Int) (r : List AV)  : ev 81 31 [a0, a1, aI l2] (r) σ = ev 81 32 [a0, a1, aI l2] (aI l2 :: r) σ := ev_go f_Ub_element_31 rfl
theorem f_Ub_element_32 : fetch 81 32 = some (.laload) := by decide +kernel
theorem e_Ub_element_32 (a0 a1 a2 : AV) (σ : aM) (x : Int) (i : Int) (r : List AV) (h : 0 ≤ x ∧ x < 160) : ev 81 32 [a0, a1, a2] (aI x :: aR 3 i :: r) σ = ev 81 33 [a0, a1, a2] (aJ (gL σ 3 i x) :: r) σ := ev_ld (j := i) f_Ub_element_32 rfl rfl (by decide) rfl h
theorem f_Ub_element_33 : fetch 81 33 = some (.lreturn) := by decide +kernel
theorem e_Ub_element_33 (a0 a1 a2 : AV) (σ : aM) (x : Int64) : ev 81 33 [a0, a1, a2] [aJ x] σ = some ((some (aJ x)), σ) := ev_ret f_Ub_element_33 rfl
theorem f_Ub_show_0 : fetch 82 0 = some (.iload_n 1) := by decide +kernel
theorem e_Ub_show_0 (a0 a2 : AV) (σ : aM) (l1 : Int) (r : List AV)  : ev 82 0 [a0, aI l1, a2] (r) σ = ev 82 1 [a0, aI l1, a2] (aI l1 :: r) σ := ev_go f_Ub_show_0 rfl
theorem f_Ub_show_1 : fetch 82 1 = some (.invokestatic 67) := by decide +kernel
theorem e_Ub_show_1 (a0 a1 a2 : AV) (σ : aM) (s0 : Int) : ev 82 1 [a0, a1, a2] [aI s0] σ = evK 82 4 [a0, a1, a2] [] (ev 117 0 [aI s0] [] σ) := ev_call f_Ub_show_1 rfl rfl
theorem f_Ub_show_4 : fetch 82 4 = some (.ifCond .ne 9) := by decide +kernel
theorem e_Ub_show_4 (a0 a1 a2 : AV) (σ : aM) (x : Int) (r : List AV) : ev 82 4 [a0, a1, a2] (aI x :: r) σ = if ¬ x = 0 then ev 82 13 [a0, a1, a2] r σ else ev 82 7 [a0, a1, a2] r σ := ev_br f_Ub_show_4 rfl bc_ne
theorem f_Ub_show_7 : fetch 82 7 = some (.aload_n 0) := by decide +kernel
theorem e_Ub_show_7 (a1 a2 : AV) (σ : aM) (l0 : Option (Nat × Int)) (r : List AV)  : ev 82 7 [aQ l0, a1, a2] (r) σ = ev 82 8 [aQ l0, a1, a2] (aQ l0 :: r) σ := ev_go f_Ub_show_7 rfl
theorem f_Ub_show_8 : fetch 82 8 = some (.iconst (-1)) := by decide +kernel
theorem e_Ub_show_8 (a0 a1 a2 : AV) (σ : aM) (r : List AV)  : ev 82 8 [a0, a1, a2] (r) σ = ev 82 9 [a0, a1, a2] (aI (-1) :: r) σ := ev_go f_Ub_show_8 rfl
theorem f_Ub_show_9 : fetch 82 9 = some (.invokevirtual 71) := by decide +kernel
theorem e_Ub_show_9 (a0 a1 a2 : AV) (σ : aM) (s0 : Int) (s1 : Int) : ev 82 9 [a0, a1, a2] [aI s1, aR 0 s0] σ = evK 82 12 [a0, a1, a2] [] (ev 113 0 [aR 0 s0, aI s1] [] σ) := ev_call f_Ub_show_9 rfl rfl
theorem f_Ub_show_12 : fetch 82 12 = some (.ireturn) := by decide +kernel
theorem e_Ub_show_12 (a0 a1 a2 : AV) (σ : aM) (x : Int) : ev 82 12 [a0, a1, a2] [aI x] σ = some ((some (aI x)), σ) := ev_ret f_Ub_show_12 rfl
theorem f_Ub_show_13 : fetch 82 13 = some (.iload_n 2) := by decide +kernel
theorem e_Ub_show_13 (a0 a1 : AV) (σ : aM) (l2 : Int) (r : List AV)  : ev 82 13 [a0, a1, aI l2] (r) σ = ev 82 14 [a0, a1, aI l2] (aI l2 :: r) σ := ev_go f_Ub_show_13 rfl
theorem f_Ub_show_14 : fetch 82 14 = some (.iconst (-1)) := by decide +kernel
theorem e_Ub_show_14 (a0 a1 a2 : AV) (σ : aM) (r : List AV)  : ev 82 14 [a0, a1, a2] (r) σ = ev 82 15 [a0, a1, a2] (aI (-1) :: r) σ := ev_go f_Ub_show_14 rfl
theorem f_Ub_show_15 : fetch 82 15 = some (.if_icmp .ne 14) := by decide +kernel
theorem e_Ub_show_15 (a0 a1 a2 : AV) (σ : aM) (x z : Int) (r : List AV) : ev 82 15 [a0, a1, a2] (aI z :: aI x :: r) σ = if ¬ x = z then ev 82 29 [a0, a1, a2] r σ else ev 82 18 [a0, a1, a2] r σ := ev_br f_Ub_show_15 rfl bc_ne
theorem f_Ub_show_18 : fetch 82 18 = some (.aload_n 0) := by decide +kernel
theorem e_Ub_show_18 (a1 a2 : AV) (σ : aM) (l0 : Option (Nat × Int)) (r : List AV)  : ev 82 18 [aQ l0, a1, a2] (r) σ = ev 82 19 [aQ l0, a1, a2] (aQ l0 :: r) σ := ev_go f_Ub_show_18 rfl
theorem f_Ub_show_19 : fetch 82 19 = some (.getfield 11) := by decide +kernel
theorem e_Ub_show_19 (a0 a1 a2 : AV) (σ : aM) (i : Int) (r : List AV)  : ev 82 19 [a0, a1, a2] (aR 0 i :: r) σ = ev 82 22 [a0, a1, a2] (aR 1 0 :: r) σ := ev_go f_Ub_show_19 rfl
theorem f_Ub_show_22 : fetch 82 22 = some (.iload_n 1) := by decide +kernel
theorem e_Ub_show_22 (a0 a2 : AV) (σ : aM) (l1 : Int) (r : List AV)  : ev 82 22 [a0, aI l1, a2] (r) σ = ev 82 23 [a0, aI l1, a2] (aI l1 :: r) σ := ev_go f_Ub_show_22 rfl
theorem f_Ub_show_23 : fetch 82 23 = some (.aaload) := by decide +kernel
theorem e_Ub_show_23 (a0 a1 a2 : AV) (σ : aM) (x : Int) (i : Int) (r : List AV) (h : 0 ≤ x ∧ x < 8) : ev 82 23 [a0, a1, a2] (aI x :: aR 1 i :: r) σ = ev 82 24 [a0, a1, a2] (aR 2 x :: r) σ := ev_cd f_Ub_show_23 rfl ⟨by decide, by decide, h.1, by rw [aLen_n (by decide) rfl]; exact h.2⟩
theorem f_Ub_show_24 : fetch 82 24 = some (.invokevirtual 113) := by decide +kernel
theorem e_Ub_show_24 (a0 a1 a2 : AV) (σ : aM) (s0 : Int) : ev 82 24 [a0, a1, a2] [aR 2 s0] σ = evK 82 27 [a0, a1, a2] [] (ev 54 0 [aR 2 s0] [] σ) := ev_call f_Ub_show_24 rfl rfl
theorem f_Ub_show_27 : fetch 82 27 = some (.iconst 0) := by decide +kernel
theorem e_Ub_show_27 (a0 a1 a2 : AV) (σ : aM) (r : List AV)  : ev 82 27 [a0, a1, a2] (r) σ = ev 82 28 [a0, a1, a2] (aI 0 :: r) σ := ev_go f_Ub_show_27 rfl
theorem f_Ub_show_28 : fetch 82 28 = some (.ireturn) := by decide +kernel
theorem e_Ub_show_28 (a0 a1 a2 : AV) (σ : aM) (x : Int) : ev 82 28 [a0, a1, a2] [aI x] σ = some ((some (aI x)), σ) := ev_ret f_Ub_show_28 rfl
theorem f_Ub_show_29 : fetch 82 29 = some (.aload_n 0) := by decide +kernel
theorem e_Ub_show_29 (a1 a2 : AV) (σ : aM) (l0 : Option (Nat × Int)) (r : List AV)  : ev 82 29 [aQ l0, a1, a2] (r) σ = ev 82 30 [aQ l0, a1, a2] (aQ l0 :: r) σ := ev_go f_Ub_show_29 rfl
theorem f_Ub_show_30 : fetch 82 30 = some (.getfield 30) := by decide +kernel
theorem e_Ub_show_30 (a0 a1 a2 : AV) (σ : aM) (i : Int) (r : List AV)  : ev 82 30 [a0, a1, a2] (aR 0 i :: r) σ = ev 82 33 [a0, a1, a2] (aR 6 0 :: r) σ := ev_go f_Ub_show_30 rfl
theorem f_Ub_show_33 : fetch 82 33 = some (.iload_n 2) := by decide +kernel
theorem e_Ub_show_33 (a0 a1 : AV) (σ : aM) (l2 : Int) (r : List AV)  : ev 82 33 [a0, a1, aI l2] (r) σ = ev 82 34 [a0, a1, aI l2] (aI l2 :: r) σ := ev_go f_Ub_show_33 rfl
theorem f_Ub_show_34 : fetch 82 34 = some (.invokevirtual 116) := by decide +kernel
theorem e_Ub_show_34 (a0 a1 a2 : AV) (σ : aM) (s0 : Int) (s1 : Int) : ev 82 34 [a0, a1, a2] [aI s1, aR 6 s0] σ = evK 82 37 [a0, a1, a2] [] (ev 5 0 [aR 6 s0, aI s1] [] σ) := ev_call f_Ub_show_34 rfl rfl
theorem f_Ub_show_37 : fetch 82 37 = some (.ifnonnull 9) := by decide +kernel
theorem e_Ub_show_37 (a0 a1 a2 : AV) (σ : aM) (q : Option (Nat × Int)) (r : List AV) : ev 82 37 [a0, a1, a2] (aQ q :: r) σ = if ¬ q = none then ev 82 46 [a0, a1, a2] r σ else ev 82 40 [a0, a1, a2] r σ := ev_br f_Ub_show_37 rfl bc_som
theorem f_Ub_show_40 : fetch 82 40 = some (.aload_n 0) := by decide +kernel
theorem e_Ub_show_40 (a1 a2 : AV) (σ : aM) (l0 : Option (Nat × Int)) (r : List AV)  : ev 82 40 [aQ l0, a1, a2] (r) σ = ev 82 41 [aQ l0, a1, a2] (aQ l0 :: r) σ := ev_go f_Ub_show_40 rfl
theorem f_Ub_show_41 : fetch 82 41 = some (.iconst (-1)) := by decide +kernel
theorem e_Ub_show_41 (a0 a1 a2 : AV) (σ : aM) (r : List AV)  : ev 82 41 [a0, a1, a2] (r) σ = ev 82 42 [a0, a1, a2] (aI (-1) :: r) σ := ev_go f_Ub_show_41 rfl
theorem f_Ub_show_42 : fetch 82 42 = some (.invokevirtual 71) := by decide +kernel
theorem e_Ub_show_42 (a0 a1 a2 : AV) (σ : aM) (s0 : Int) (s1 : Int) : ev 82 42 [a0, a1, a2] [aI s1, aR 0 s0] σ = evK 82 45 [a0, a1, a2] [] (ev 113 0 [aR 0 s0, aI s1] [] σ) := ev_call f_Ub_show_42 rfl rfl
theorem f_Ub_show_45 : fetch 82 45 = some (.ireturn) := by decide +kernel
theorem e_Ub_show_45 (a0 a1 a2 : AV) (σ : aM) (x : Int) : ev 82 45 [a0, a1, a2] [aI x] σ = some ((some (aI x)), σ) := ev_ret f_Ub_show_45 rfl
theorem f_Ub_show_46 : fetch 82 46 = some (.aload_n 0) := by decide +kernel
theorem e_Ub_show_46 (a1 a2 : AV) (σ : aM) (l0 : Option (Nat × Int)) (r : List AV)  : ev 82 46 [aQ l0, a1, a2] (r) σ = ev 82 47 [aQ l0, a1, a2] (aQ l0 :: r) σ := ev_go f_Ub_show_46 rfl
theorem f_Ub_show_47 : fetch 82 47 = some (.getfield 11) := by decide +kernel
theorem e_Ub_show_47 (a0 a1 a2 : AV) (σ : aM) (i : Int) (r : List AV)  : ev 82 47 [a0, a1, a2] (aR 0 i :: r) σ = ev 82 50 [a0, a1, a2] (aR 1 0 :: r) σ := ev_go f_Ub_show_47 rfl
theorem f_Ub_show_50 : fetch 82 50 = some (.iload_n 1) := by decide +kernel
theorem e_Ub_show_50 (a0 a2 : AV) (σ : aM) (l1 : Int) (r : List AV)  : ev 82 50 [a0, aI l1, a2] (r) σ = ev 82 51 [a0, aI l1, a2] (aI l1 :: r) σ := ev_go f_Ub_show_50 rfl
theorem f_Ub_show_51 : fetch 82 51 = some (.aaload) := by decide +kernel
theorem e_Ub_show_51 (a0 a1 a2 : AV) (σ : aM) (x : Int) (i : Int) (r : List AV) (h : 0 ≤ x ∧ x < 8) : ev 82 51 [a0, a1, a2] (aI x :: aR 1 i :: r) σ = ev 82 52 [a0, a1, a2] (aR 2 x :: r) σ := ev_cd f_Ub_show_51 rfl ⟨by decide, by decide, h.1, by rw [aLen_n (by decide) rfl]; exact h.2⟩
theorem f_Ub_show_52 : fetch 82 52 = some (.iload_n 2) := by decide +kernel
theorem e_Ub_show_52 (a0 a1 : AV) (σ : aM) (l2 : Int) (r : List AV)  : ev 82 52 [a0, a1, aI l2] (r) σ = ev 82 53 [a0, a1, aI l2] (aI l2 :: r) σ := ev_go f_Ub_show_52 rfl
theorem f_Ub_show_53 : fetch 82 53 = some (.invokevirtual 120) := by decide +kernel
theorem e_Ub_show_53 (a0 a1 a2 : AV) (σ : aM) (s0 : Int) (s1 : Int) : ev 82 53 [a0, a1, a2] [aI s1, aR 2 s0] σ = evK 82 56 [a0, a1, a2] [] (ev 55 0 [aR 2 s0, aI s1] [] σ) := ev_call f_Ub_show_53 rfl rfl
theorem f_Ub_show_56 : fetch 82 56 = some (.iconst 1) := by decide +kernel
theorem e_Ub_show_56 (a0 a1 a2 : AV) (σ : aM) (r : List AV)  : ev 82 56 [a0, a1, a2] (r) σ = ev 82 57 [a0, a1, a2] (aI 1 :: r) σ := ev_go f_Ub_show_56 rfl
theorem f_Ub_show_57 : fetch 82 57 = some (.ireturn) := by decide +kernel
theorem e_Ub_show_57 (a0 a1 a2 : AV) (σ : aM) (x : Int) : ev 82 57 [a0, a1, a2] [aI x] σ = some ((some (aI x)), σ) := ev_ret f_Ub_show_57 rfl
theorem f_Ub_holds_0 : fetch 83 0 = some (.iload_n 1) := by decide +kernel
theorem e_Ub_holds_0 (a0 a2 : AV) (σ : aM) (l1 : Int) (r : List AV)  : ev 83 0 [a0, aI l1, a2] (r) σ = ev 83 1 [a0, aI l1, a2] (aI l1 :: r) σ := ev_go f_Ub_holds_0 rfl
theorem f_Ub_holds_1 : fetch 83 1 = some (.invokestatic 67) := by decide +kernel
theorem e_Ub_holds_1 (a0 a1 a2 : AV) (σ : aM) (s0 : Int) : ev 83 1 [a0, a1, a2] [aI s0] σ = evK 83 4 [a0, a1, a2] [] (ev 117 0 [aI s0] [] σ) := ev_call f_Ub_holds_1 rfl rfl
theorem f_Ub_holds_4 : fetch 83 4 = some (.ifCond .ne 5) := by decide +kernel
theorem e_Ub_holds_4 (a0 a1 a2 : AV) (σ : aM) (x : Int) (r : List AV) : ev 83 4 [a0, a1, a2] (aI x :: r) σ = if ¬ x = 0 then ev 83 9 [a0, a1, a2] r σ else ev 83 7 [a0, a1, a2] r σ := ev_br f_Ub_holds_4 rfl bc_ne
theorem f_Ub_holds_7 : fetch 83 7 = some (.iconst (-1)) := by decide +kernel
theorem e_Ub_holds_7 (a0 a1 a2 : AV) (σ : aM) (r : List AV)  : ev 83 7 [a0, a1, a2] (r) σ = ev 83 8 [a0, a1, a2] (aI (-1) :: r) σ := ev_go f_Ub_holds_7 rfl
theorem f_Ub_holds_8 : fetch 83 8 = some (.ireturn) := by decide +kernel
theorem e_Ub_holds_8 (a0 a1 a2 : AV) (σ : aM) (x : Int) : ev 83 8 [a0, a1, a2] [aI x] σ = some ((some (aI x)), σ) := ev_ret f_Ub_holds_8 rfl
theorem f_Ub_holds_9 : fetch 83 9 = some (.aload_n 0) := by decide +kernel
theorem e_Ub_holds_9 (a1 a2 : AV) (σ : aM) (l0 : Option (Nat × Int)) (r : List AV)  : ev 83 9 [aQ l0, a1, a2] (r) σ = ev 83 10 [aQ l0, a1, a2] (aQ l0 :: r) σ := ev_go f_Ub_holds_9 rfl
theorem f_Ub_holds_10 : fetch 83 10 = some (.getfield 11) := by decide +kernel
theorem e_Ub_holds_10 (a0 a1 a2 : AV) (σ : aM) (i : Int) (r : List AV)  : ev 83 10 [a0, a1, a2] (aR 0 i :: r) σ = ev 83 13 [a0, a1, a2] (aR 1 0 :: r) σ := ev_go f_Ub_holds_10 rfl
theorem f_Ub_holds_13 : fetch 83 13 = some (.iload_n 1) := by decide +kernel
theorem e_Ub_holds_13 (a0 a2 : AV) (σ : aM) (l1 : Int) (r : List AV)  : ev 83 13 [a0, aI l1, a2] (r) σ = ev 83 14 [a0, aI l1, a2] (aI l1 :: r) σ := ev_go f_Ub_holds_13 rfl
theorem f_Ub_holds_14 : fetch 83 14 = some (.aaload) := by decide +kernel
theorem e_Ub_holds_14 (a0 a1 a2 : AV) (σ : aM) (x : Int) (i : Int) (r : List AV) (h : 0 ≤ x ∧ x < 8) : ev 83 14 [a0, a1, a2] (aI x :: aR 1 i :: r) σ = ev 83 15 [a0, a1, a2] (aR 2 x :: r) σ := ev_cd f_Ub_holds_14 rfl ⟨by decide, by decide, h.1, by rw [aLen_n (by decide) rfl]; exact h.2⟩
theorem f_Ub_holds_15 : fetch 83 15 = some (.astore_n 2) := by decide +kernel
theorem e_Ub_holds_15 (a0 a2 : AV) (σ : aM) (q : Option (Nat × Int)) (l1 : Int) (r : List AV)  : ev 83 15 [a0, aI l1, a2] (aQ q :: r) σ = ev 83 16 [a0, aI l1, aQ q] (r) σ := ev_go f_Ub_holds_15 rfl
theorem f_Ub_holds_16 : fetch 83 16 = some (.aload_n 2) := by decide +kernel
theorem e_Ub_holds_16 (a0 a1 : AV) (σ : aM) (l2 : Option (Nat × Int)) (r : List AV)  : ev 83 16 [a0, a1, aQ l2] (r) σ = ev 83 17 [a0, a1, aQ l2] (aQ l2 :: r) σ := ev_go f_Ub_holds_16 rfl
theorem f_Ub_holds_17 : fetch 83 17 = some (.invokevirtual 93) := by decide +kernel
theorem e_Ub_holds_17 (a0 a1 a2 : AV) (σ : aM) (s0 : Int) : ev 83 17 [a0, a1, a2] [aR 2 s0] σ = evK 83 20 [a0, a1, a2] [] (ev 57 0 [aR 2 s0] [] σ) := ev_call f_Ub_holds_17 rfl rfl
theorem f_Ub_holds_20 : fetch 83 20 = some (.ifCond .eq 13) := by decide +kernel
theorem e_Ub_holds_20 (a0 a1 a2 : AV) (σ : aM) (x : Int) (r : List AV) : ev 83 20 [a0, a1, a2] (aI x :: r) σ = if x = 0 then ev 83 33 [a0, a1, a2] r σ else ev 83 23 [a0, a1, a2] r σ := ev_br f_Ub_holds_20 rfl bc_eq
theorem f_Ub_holds_23 : fetch 83 23 = some (.bipush 100) := by decide +kernel
theorem e_Ub_holds_23 (a0 a1 a2 : AV) (σ : aM) (r : List AV)  : ev 83 23 [a0, a1, a2] (r) σ = ev 83 25 [a0, a1, a2] (aI 100 :: r) σ := ev_go f_Ub_holds_23 rfl
theorem f_Ub_holds_25 : fetch 83 25 = some (.aload_n 2) := by decide +kernel
theorem e_Ub_holds_25 (a0 a1 : AV) (σ : aM) (l2 : Option (Nat × Int)) (r : List AV)  : ev 83 25 [a0, a1, aQ l2] (r) σ = ev 83 26 [a0, a1, aQ l2] (aQ l2 :: r) σ := ev_go f_Ub_holds_25 rfl
theorem f_Ub_holds_26 : fetch 83 26 = some (.getfield 96) := by decide +kernel
theorem e_Ub_holds_26 (a0 a1 a2 : AV) (σ : aM) (i : Int) (r : List AV)  : ev 83 26 [a0, a1, a2] (aR 2 i :: r) σ = ev 83 29 [a0, a1, a2] (aI (gI σ 2 i 2) :: r) σ := ev_go f_Ub_holds_26 rfl
theorem f_Ub_holds_29 : fetch 83 29 = some (.iadd) := by decide +kernel
theorem e_Ub_holds_29 (a0 a1 a2 : AV) (σ : aM) (x z : Int) (r : List AV)  : ev 83 29 [a0, a1, a2] (aI z :: aI x :: r) σ = ev 83 30 [a0, a1, a2] (aI (wr (x + z)) :: r) σ := ev_go f_Ub_holds_29 rfl
theorem f_Ub_holds_30 : fetch 83 30 = some (.goto 7) := by decide +kernel
theorem e_Ub_holds_30 (a0 a1 a2 : AV) (σ : aM) (r : List AV)  : ev 83 30 [a0, a1, a2] (r) σ = ev 83 37 [a0, a1, a2] (r) σ := ev_go f_Ub_holds_30 rfl
theorem f_Ub_holds_33 : fetch 83 33 = some (.aload_n 2) := by decide +kernel
theorem e_Ub_holds_33 (a0 a1 : AV) (σ : aM) (l2 : Option (Nat × Int)) (r : List AV)  : ev 83 33 [a0, a1, aQ l2] (r) σ = ev 83 34 [a0, a1, aQ l2] (aQ l2 :: r) σ := ev_go f_Ub_holds_33 rfl
theorem f_Ub_holds_34 : fetch 83 34 = some (.getfield 124) := by decide +kernel
theorem e_Ub_holds_34 (a0 a1 a2 : AV) (σ : aM) (i : Int) (r : List AV)  : ev 83 34 [a0, a1, a2] (aR 2 i :: r) σ = ev 83 37 [a0, a1, a2] (aI (gI σ 2 i 3) :: r) σ := ev_go f_Ub_holds_34 rfl
theorem f_Ub_holds_37 : fetch 83 37 = some (.ireturn) := by decide +kernel
theorem e_Ub_holds_37 (a0 a1 a2 : AV) (σ : aM) (x : Int) : ev 83 37 [a0, a1, a2] [aI x] σ = some ((some (aI x)), σ) := ev_ret f_Ub_holds_37 rfl
theorem f_Ub_says_0 : fetch 84 0 = some (.iload_n 1) := by decide +kernel
theorem e_Ub_says_0 (a0 a2 a3 : AV) (σ : aM) (l1 : Int) (r : List AV)  : ev 84 0 [a0, aI l1, a2, a3] (r) σ = ev 84 1 [a0, aI l1, a2, a3] (aI l1 :: r) σ := ev_go f_Ub_says_0 rfl
theorem f_Ub_says_1 : fetch 84 1 = some (.invokestatic 67) := by decide +kernel
theorem e_Ub_says_1 (a0 a1 a2 a3 : AV) (σ : aM) (s0 : Int) : ev 84 1 [a0, a1, a2, a3] [aI s0] σ = evK 84 4 [a0, a1, a2, a3] [] (ev 117 0 [aI s0] [] σ) := ev_call f_Ub_says_1 rfl rfl
theorem f_Ub_says_4 : fetch 84 4 = some (.ifCond .eq 12) := by decide +kernel
theorem e_Ub_says_4 (a0 a1 a2 a3 : AV) (σ : aM) (x : Int) (r : List AV) : ev 84 4 [a0, a1, a2, a3] (aI x :: r) σ = if x = 0 then ev 84 16 [a0, a1, a2, a3] r σ else ev 84 7 [a0, a1, a2, a3] r σ := ev_br f_Ub_says_4 rfl bc_eq
theorem f_Ub_says_7 : fetch 84 7 = some (.iload_n 2) := by decide +kernel
theorem e_Ub_says_7 (a0 a1 a3 : AV) (σ : aM) (l2 : Int) (r : List AV)  : ev 84 7 [a0, a1, aI l2, a3] (r) σ = ev 84 8 [a0, a1, aI l2, a3] (aI l2 :: r) σ := ev_go f_Ub_says_7 rfl
theorem f_Ub_says_8 : fetch 84 8 = some (.ifCond .lt 8) := by decide +kernel
theorem e_Ub_says_8 (a0 a1 a2 a3 : AV) (σ : aM) (x : Int) (r : List AV) : ev 84 8 [a0, a1, a2, a3] (aI x :: r) σ = if x < 0 then ev 84 16 [a0, a1, a2, a3] r σ else ev 84 11 [a0, a1, a2, a3] r σ := ev_br f_Ub_says_8 rfl bc_lt
theorem f_Ub_says_11 : fetch 84 11 = some (.iload_n 2) := by decide +kernel
theorem e_Ub_says_11 (a0 a1 a3 : AV) (σ : aM) (l2 : Int) (r : List AV)  : ev 84 11 [a0, a1, aI l2, a3] (r) σ = ev 84 12 [a0, a1, aI l2, a3] (aI l2 :: r) σ := ev_go f_Ub_says_11 rfl
theorem f_Ub_says_12 : fetch 84 12 = some (.iconst 4) := by decide +kernel
theorem e_Ub_says_12 (a0 a1 a2 a3 : AV) (σ : aM) (r : List AV)  : ev 84 12 [a0, a1, a2, a3] (r) σ = ev 84 13 [a0, a1, a2, a3] (aI 4 :: r) σ := ev_go f_Ub_says_12 rfl
theorem f_Ub_says_13 : fetch 84 13 = some (.if_icmp .le 9) := by decide +kernel
theorem e_Ub_says_13 (a0 a1 a2 a3 : AV) (σ : aM) (x z : Int) (r : List AV) : ev 84 13 [a0, a1, a2, a3] (aI z :: aI x :: r) σ = if x ≤ z then ev 84 22 [a0, a1, a2, a3] r σ else ev 84 16 [a0, a1, a2, a3] r σ := ev_br f_Ub_says_13 rfl bc_le
theorem f_Ub_says_16 : fetch 84 16 = some (.aload_n 0) := by decide +kernel
theorem e_Ub_says_16 (a1 a2 a3 : AV) (σ : aM) (l0 : Option (Nat × Int)) (r : List AV)  : ev 84 16 [aQ l0, a1, a2, a3] (r) σ = ev 84 17 [aQ l0, a1, a2, a3] (aQ l0 :: r) σ := ev_go f_Ub_says_16 rfl
theorem f_Ub_says_17 : fetch 84 17 = some (.iconst (-1)) := by decide +kernel
theorem e_Ub_says_17 (a0 a1 a2 a3 : AV) (σ : aM) (r : List AV)  : ev 84 17 [a0, a1, a2, a3] (r) σ = ev 84 18 [a0, a1, a2, a3] (aI (-1) :: r) σ := ev_go f_Ub_says_17 rfl
theorem f_Ub_says_18 : fetch 84 18 = some (.invokevirtual 71) := by decide +kernel
theorem e_Ub_says_18 (a0 a1 a2 a3 : AV) (σ : aM) (s0 : Int) (s1 : Int) : ev 84 18 [a0, a1, a2, a3] [aI s1, aR 0 s0] σ = evK 84 21 [a0, a1, a2, a3] [] (ev 113 0 [aR 0 s0, aI s1] [] σ) := ev_call f_Ub_says_18 rfl rfl
theorem f_Ub_says_21 : fetch 84 21 = some (.ireturn) := by decide +kernel
theorem e_Ub_says_21 (a0 a1 a2 a3 : AV) (σ : aM) (x : Int) : ev 84 21 [a0, a1, a2, a3] [aI x] σ = some ((some (aI x)), σ) := ev_ret f_Ub_says_21 rfl
theorem f_Ub_says_22 : fetch 84 22 = some (.aload_n 0) := by decide +kernel
theorem e_Ub_says_22 (a1 a2 a3 : AV) (σ : aM) (l0 : Option (Nat × Int)) (r : List AV)  : ev 84 22 [aQ l0, a1, a2, a3] (r) σ = ev 84 23 [aQ l0, a1, a2, a3] (aQ l0 :: r) σ := ev_go f_Ub_says_22 rfl
theorem f_Ub_says_23 : fetch 84 23 = some (.getfield 11) := by decide +kernel
theorem e_Ub_says_23 (a0 a1 a2 a3 : AV) (σ : aM) (i : Int) (r : List AV)  : ev 84 23 [a0, a1, a2, a3] (aR 0 i :: r) σ = ev 84 26 [a0, a1, a2, a3] (aR 1 0 :: r) σ := ev_go f_Ub_says_23 rfl
theorem f_Ub_says_26 : fetch 84 26 = some (.iload_n 1) := by decide +kernel
theorem e_Ub_says_26 (a0 a2 a3 : AV) (σ : aM) (l1 : Int) (r : List AV)  : ev 84 26 [a0, aI l1, a2, a3] (r) σ = ev 84 27 [a0, aI l1, a2, a3] (aI l1 :: r) σ := ev_go f_Ub_says_26 rfl
theorem f_Ub_says_27 : fetch 84 27 = some (.aaload) := by decide +kernel
theorem e_Ub_says_27 (a0 a1 a2 a3 : AV) (σ : aM) (x : Int) (i : Int) (r : List AV) (h : 0 ≤ x ∧ x < 8) : ev 84 27 [a0, a1, a2, a3] (aI x :: aR 1 i :: r) σ = ev 84 28 [a0, a1, a2, a3] (aR 2 x :: r) σ := ev_cd f_Ub_says_27 rfl ⟨by decide, by decide, h.1, by rw [aLen_n (by decide) rfl]; exact h.2⟩
theorem f_Ub_says_28 : fetch 84 28 = some (.invokevirtual 93) := by decide +kernel
theorem e_Ub_says_28 (a0 a1 a2 a3 : AV) (σ : aM) (s0 : Int) : ev 84 28 [a0, a1, a2, a3] [aR 2 s0] σ = evK 84 31 [a0, a1, a2, a3] [] (ev 57 0 [aR 2 s0] [] σ) := ev_call f_Ub_says_28 rfl rfl
theorem f_Ub_says_31 : fetch 84 31 = some (.ifCond .eq 10) := by decide +kernel
theorem e_Ub_says_31 (a0 a1 a2 a3 : AV) (σ : aM) (x : Int) (r : List AV) : ev 84 31 [a0, a1, a2, a3] (aI x :: r) σ = if x = 0 then ev 84 41 [a0, a1, a2, a3] r σ else ev 84 34 [a0, a1, a2, a3] r σ := ev_br f_Ub_says_31 rfl bc_eq
theorem f_Ub_says_34 : fetch 84 34 = some (.aload_n 0) := by decide +kernel
theorem e_Ub_says_34 (a1 a2 a3 : AV) (σ : aM) (l0 : Option (Nat × Int)) (r : List AV)  : ev 84 34 [aQ l0, a1, a2, a3] (r) σ = ev 84 35 [aQ l0, a1, a2, a3] (aQ l0 :: r) σ := ev_go f_Ub_says_34 rfl
theorem f_Ub_says_35 : fetch 84 35 = some (.bipush (-2)) := by decide +kernel
theorem e_Ub_says_35 (a0 a1 a2 a3 : AV) (σ : aM) (r : List AV)  : ev 84 35 [a0, a1, a2, a3] (r) σ = ev 84 37 [a0, a1, a2, a3] (aI (-2) :: r) σ := ev_go f_Ub_says_35 rfl
theorem f_Ub_says_37 : fetch 84 37 = some (.invokevirtual 71) := by decide +kernel
theorem e_Ub_says_37 (a0 a1 a2 a3 : AV) (σ : aM) (s0 : Int) (s1 : Int) : ev 84 37 [a0, a1, a2, a3] [aI s1, aR 0 s0] σ = evK 84 40 [a0, a1, a2, a3] [] (ev 113 0 [aR 0 s0, aI s1] [] σ) := ev_call f_Ub_says_37 rfl rfl
theorem f_Ub_says_40 : fetch 84 40 = some (.ireturn) := by decide +kernel
theorem e_Ub_says_40 (a0 a1 a2 a3 : AV) (σ : aM) (x : Int) : ev 84 40 [a0, a1, a2, a3] [aI x] σ = some ((some (aI x)), σ) := ev_ret f_Ub_says_40 rfl
theorem f_Ub_says_41 : fetch 84 41 = some (.aload_n 0) := by decide +kernel
theorem e_Ub_says_41 (a1 a2 a3 : AV) (σ : aM) (l0 : Option (Nat × Int)) (r : List AV)  : ev 84 41 [aQ l0, a1, a2, a3] (r) σ = ev 84 42 [aQ l0, a1, a2, a3] (aQ l0 :: r) σ := ev_go f_Ub_says_41 rfl
theorem f_Ub_says_42 : fetch 84 42 = some (.getfield 30) := by decide +kernel
theorem e_Ub_says_42 (a0 a1 a2 a3 : AV) (σ : aM) (i : Int) (r : List AV)  : ev 84 42 [a0, a1, a2, a3] (aR 0 i :: r) σ = ev 84 45 [a0, a1, a2, a3] (aR 6 0 :: r) σ := ev_go f_Ub_says_42 rfl
theorem f_Ub_says_45 : fetch 84 45 = some (.aload_n 0) := by decide +kernel
theorem e_Ub_says_45 (a1 a2 a3 : AV) (σ : aM) (l0 : Option (Nat × Int)) (r : List AV)  : ev 84 45 [aQ l0, a1, a2, a3] (r) σ = ev 84 46 [aQ l0, a1, a2, a3] (aQ l0 :: r) σ := ev_go f_Ub_says_45 rfl
theorem f_Ub_says_46 : fetch 84 46 = some (.getfield 11) := by decide +kernel
theorem e_Ub_says_46 (a0 a1 a2 a3 : AV) (σ : aM) (i : Int) (r : List AV)  : ev 84 46 [a0, a1, a2, a3] (aR 0 i :: r) σ = ev 84 49 [a0, a1, a2, a3] (aR 1 0 :: r) σ := ev_go f_Ub_says_46 rfl
theorem f_Ub_says_49 : fetch 84 49 = some (.iload_n 1) := by decide +kernel
theorem e_Ub_says_49 (a0 a2 a3 : AV) (σ : aM) (l1 : Int) (r : List AV)  : ev 84 49 [a0, aI l1, a2, a3] (r) σ = ev 84 50 [a0, aI l1, a2, a3] (aI l1 :: r) σ := ev_go f_Ub_says_49 rfl
theorem f_Ub_says_50 : fetch 84 50 = some (.aaload) := by decide +kernel
theorem e_Ub_says_50 (a0 a1 a2 a3 : AV) (σ : aM) (x : Int) (i : Int) (r : List AV) (h : 0 ≤ x ∧ x < 8) : ev 84 50 [a0, a1, a2, a3] (aI x :: aR 1 i :: r) σ = ev 84 51 [a0, a1, a2, a3] (aR 2 x :: r) σ := ev_cd f_Ub_says_50 rfl ⟨by decide, by decide, h.1, by rw [aLen_n (by decide) rfl]; exact h.2⟩
theorem f_Ub_says_51 : fetch 84 51 = some (.getfield 124) := by decide +kernel
theorem e_Ub_says_51 (a0 a1 a2 a3 : AV) (σ : aM) (i : Int) (r : List AV)  : ev 84 51 [a0, a1, a2, a3] (aR 2 i :: r) σ = ev 84 54 [a0, a1, a2, a3] (aI (gI σ 2 i 3) :: r) σ := ev_go f_Ub_says_51 rfl
theorem f_Ub_says_54 : fetch 84 54 = some (.invokevirtual 116) := by decide +kernel
theorem e_Ub_says_54 (a0 a1 a2 a3 : AV) (σ : aM) (s0 : Int) (s1 : Int) : ev 84 54 [a0, a1, a2, a3] [aI s1, aR 6 s0] σ = evK 84 57 [a0, a1, a2, a3] [] (ev 5 0 [aR 6 s0, aI s1] [] σ) := ev_call f_Ub_says_54 rfl rfl
theorem f_Ub_says_57 : fetch 84 57 = some (.astore_n 3) := by decide +kernel
theorem e_Ub_says_57 (a0 a1 a3 : AV) (σ : aM) (q : Option (Nat × Int)) (l2 : Int) (r : List AV)  : ev 84 57 [a0, a1, aI l2, a3] (aQ q :: r) σ = ev 84 58 [a0, a1, aI l2, aQ q] (r) σ := ev_go f_Ub_says_57 rfl
theorem f_Ub_says_58 : fetch 84 58 = some (.aload_n 3) := by decide +kernel
theorem e_Ub_says_58 (a0 a1 a2 : AV) (σ : aM) (l3 : Option (Nat × Int)) (r : List AV)  : ev 84 58 [a0, a1, a2, aQ l3] (r) σ = ev 84 59 [a0, a1, a2, aQ l3] (aQ l3 :: r) σ := ev_go f_Ub_says_58 rfl
theorem f_Ub_says_59 : fetch 84 59 = some (.ifnonnull 10) := by decide +kernel
theorem e_Ub_says_59 (a0 a1 a2 a3 : AV) (σ : aM) (q : Option (Nat × Int)) (r : List AV) : ev 84 59 [a0, a1, a2, a3] (aQ q :: r) σ = if ¬ q = none then ev 84 69 [a0, a1, a2, a3] r σ else ev 84 62 [a0, a1, a2, a3] r σ := ev_br f_Ub_says_59 rfl bc_som
theorem f_Ub_says_62 : fetch 84 62 = some (.aload_n 0) := by decide +kernel
theorem e_Ub_says_62 (a1 a2 a3 : AV) (σ : aM) (l0 : Option (Nat × Int)) (r : List AV)  : ev 84 62 [aQ l0, a1, a2, a3] (r) σ = ev 84 63 [aQ l0, a1, a2, a3] (aQ l0 :: r) σ := ev_go f_Ub_says_62 rfl
theorem f_Ub_says_63 : fetch 84 63 = some (.bipush (-3)) := by decide +kernel
theorem e_Ub_says_63 (a0 a1 a2 a3 : AV) (σ : aM) (r : List AV)  : ev 84 63 [a0, a1, a2, a3] (r) σ = ev 84 65 [a0, a1, a2, a3] (aI (-3) :: r) σ := ev_go f_Ub_says_63 rfl
theorem f_Ub_says_65 : fetch 84 65 = some (.invokevirtual 71) := by decide +kernel
theorem e_Ub_says_65 (a0 a1 a2 a3 : AV) (σ : aM) (s0 : Int) (s1 : Int) : ev 84 65 [a0, a1, a2, a3] [aI s1, aR 0 s0] σ = evK 84 68 [a0, a1, a2, a3] [] (ev 113 0 [aR 0 s0, aI s1] [] σ) := ev_call f_Ub_says_65 rfl rfl
theorem f_Ub_says_68 : fetch 84 68 = some (.ireturn) := by decide +kernel
theorem e_Ub_says_68 (a0 a1 a2 a3 : AV) (σ : aM) (x : Int) : ev 84 68 [a0, a1, a2, a3] [aI x] σ = some ((some (aI x)), σ) := ev_ret f_Ub_says_68 rfl
theorem f_Ub_says_69 : fetch 84 69 = some (.aload_n 3) := by decide +kernel
theorem e_Ub_says_69 (a0 a1 a2 : AV) (σ : aM) (l3 : Option (Nat × Int)) (r : List AV)  : ev 84 69 [a0, a1, a2, aQ l3] (r) σ = ev 84 70 [a0, a1, a2, aQ l3] (aQ l3 :: r) σ := ev_go f_Ub_says_69 rfl
theorem f_Ub_says_70 : fetch 84 70 = some (.iload_n 2) := by decide +kernel
theorem e_Ub_says_70 (a0 a1 a3 : AV) (σ : aM) (l2 : Int) (r : List AV)  : ev 84 70 [a0, a1, aI l2, a3] (r) σ = ev 84 71 [a0, a1, aI l2, a3] (aI l2 :: r) σ := ev_go f_Ub_says_70 rfl
theorem f_Ub_says_71 : fetch 84 71 = some (.invokevirtual 127) := by decide +kernel
theorem e_Ub_says_71 (a0 a1 a2 a3 : AV) (σ : aM) (s0 : Int) (s1 : Int) : ev 84 71 [a0, a1, a2, a3] [aI s1, aR 8 s0] σ = evK 84 74 [a0, a1, a2, a3] [] (ev 36 0 [aR 8 s0, aI s1] [] σ) := ev_call f_Ub_says_71 rfl rfl
theorem f_Ub_says_74 : fetch 84 74 = some (.ifCond .ne 10) := by decide +kernel
theorem e_Ub_says_74 (a0 a1 a2 a3 : AV) (σ : aM) (x : Int) (r : List AV) : ev 84 74 [a0, a1, a2, a3] (aI x :: r) σ = if ¬ x = 0 then ev 84 84 [a0, a1, a2, a3] r σ else ev 84 77 [a0, a1, a2, a3] r σ := ev_br f_Ub_says_74 rfl bc_ne
theorem f_Ub_says_77 : fetch 84 77 = some (.aload_n 0) := by decide +kernel
theorem e_Ub_says_77 (a1 a2 a3 : AV) (σ : aM) (l0 : Option (Nat × Int)) (r : List AV)  : ev 84 77 [aQ l0, a1, a2, a3] (r) σ = ev 84 78 [aQ l0, a1, a2, a3] (aQ l0 :: r) σ := ev_go f_Ub_says_77 rfl
theorem f_Ub_says_78 : fetch 84 78 = some (.bipush (-2)) := by decide +kernel
theorem e_Ub_says_78 (a0 a1 a2 a3 : AV) (σ : aM) (r : List AV)  : ev 84 78 [a0, a1, a2, a3] (r) σ = ev 84 80 [a0, a1, a2, a3] (aI (-2) :: r) σ := ev_go f_Ub_says_78 rfl
theorem f_Ub_says_80 : fetch 84 80 = some (.invokevirtual 71) := by decide +kernel
theorem e_Ub_says_80 (a0 a1 a2 a3 : AV) (σ : aM) (s0 : Int) (s1 : Int) : ev 84 80 [a0, a1, a2, a3] [aI s1, aR 0 s0] σ = evK 84 83 [a0, a1, a2, a3] [] (ev 113 0 [aR 0 s0, aI s1] [] σ) := ev_call f_Ub_says_80 rfl rfl
theorem f_Ub_says_83 : fetch 84 83 = some (.ireturn) := by decide +kernel
theorem e_Ub_says_83 (a0 a1 a2 a3 : AV) (σ : aM) (x : Int) : ev 84 83 [a0, a1, a2, a3] [aI x] σ = some ((some (aI x)), σ) := ev_ret f_Ub_says_83 rfl
theorem f_Ub_says_84 : fetch 84 84 = some (.iload_n 2) := by decide +kernel
theorem e_Ub_says_84 (a0 a1 a3 : AV) (σ : aM) (l2 : Int) (r : List AV)  : ev 84 84 [a0, a1, aI l2, a3] (r) σ = ev 84 85 [a0, a1, aI l2, a3] (aI l2 :: r) σ := ev_go f_Ub_says_84 rfl
theorem f_Ub_says_85 : fetch 84 85 = some (.ifCond .ne 8) := by decide +kernel
theorem e_Ub_says_85 (a0 a1 a2 a3 : AV) (σ : aM) (x : Int) (r : List AV) : ev 84 85 [a0, a1, a2, a3] (aI x :: r) σ = if ¬ x = 0 then ev 84 93 [a0, a1, a2, a3] r σ else ev 84 88 [a0, a1, a2, a3] r σ := ev_br f_Ub_says_85 rfl bc_ne
theorem f_Ub_says_88 : fetch 84 88 = some (.aload_n 3) := by decide +kernel
theorem e_Ub_says_88 (a0 a1 a2 : AV) (σ : aM) (l3 : Option (Nat × Int)) (r : List AV)  : ev 84 88 [a0, a1, a2, aQ l3] (r) σ = ev 84 89 [a0, a1, a2, aQ l3] (aQ l3 :: r) σ := ev_go f_Ub_says_88 rfl
theorem f_Ub_says_89 : fetch 84 89 = some (.getfield 132) := by decide +kernel
theorem e_Ub_says_89 (a0 a1 a2 a3 : AV) (σ : aM) (i : Int) (r : List AV)  : ev 84 89 [a0, a1, a2, a3] (aR 8 i :: r) σ = ev 84 92 [a0, a1, a2, a3] (aI (gI σ 8 i 4) :: r) σ := ev_go f_Ub_says_89 rfl
theorem f_Ub_says_92 : fetch 84 92 = some (.ireturn) := by decide +kernel
theorem e_Ub_says_92 (a0 a1 a2 a3 : AV) (σ : aM) (x : Int) : ev 84 92 [a0, a1, a2, a3] [aI x] σ = some ((some (aI x)), σ) := ev_ret f_Ub_says_92 rfl
theorem f_Ub_says_93 : fetch 84 93 = some (.iload_n 2) := by decide +kernel
theorem e_Ub_says_93 (a0 a1 a3 : AV) (σ : aM) (l2 : Int) (r : List AV)  : ev 84 93 [a0, a1, aI l2, a3] (r) σ = ev 84 94 [a0, a1, aI l2, a3] (aI l2 :: r) σ := ev_go f_Ub_says_93 rfl
theorem f_Ub_says_94 : fetch 84 94 = some (.iconst 2) := by decide +kernel
theorem e_Ub_says_94 (a0 a1 a2 a3 : AV) (σ : aM) (r : List AV)  : ev 84 94 [a0, a1, a2, a3] (r) σ = ev 84 95 [a0, a1, a2, a3] (aI 2 :: r) σ := ev_go f_Ub_says_94 rfl
theorem f_Ub_says_95 : fetch 84 95 = some (.if_icmp .ne 10) := by decide +kernel
theorem e_Ub_says_95 (a0 a1 a2 a3 : AV) (σ : aM) (x z : Int) (r : List AV) : ev 84 95 [a0, a1, a2, a3] (aI z :: aI x :: r) σ = if ¬ x = z then ev 84 105 [a0, a1, a2, a3] r σ else ev 84 98 [a0, a1, a2, a3] r σ := ev_br f_Ub_says_95 rfl bc_ne
theorem f_Ub_says_98 : fetch 84 98 = some (.aload_n 3) := by decide +kernel
theorem e_Ub_says_98 (a0 a1 a2 : AV) (σ : aM) (l3 : Option (Nat × Int)) (r : List AV)  : ev 84 98 [a0, a1, a2, aQ l3] (r) σ = ev 84 99 [a0, a1, a2, aQ l3] (aQ l3 :: r) σ := ev_go f_Ub_says_98 rfl
theorem f_Ub_says_99 : fetch 84 99 = some (.invokevirtual 135) := by decide +kernel
theorem e_Ub_says_99 (a0 a1 a2 a3 : AV) (σ : aM) (s0 : Int) : ev 84 99 [a0, a1, a2, a3] [aR 8 s0] σ = evK 84 102 [a0, a1, a2, a3] [] (ev 39 0 [aR 8 s0] [] σ) := ev_call f_Ub_says_99 rfl rfl
theorem f_Ub_says_102 : fetch 84 102 = some (.goto 11) := by decide +kernel
theorem e_Ub_says_102 (a0 a1 a2 a3 : AV) (σ : aM) (r : List AV)  : ev 84 102 [a0, a1, a2, a3] (r) σ = ev 84 113 [a0, a1, a2, a3] (r) σ := ev_go f_Ub_says_102 rfl
theorem f_Ub_says_105 : fetch 84 105 = some (.aload_n 0) := by decide +kernel
theorem e_Ub_says_105 (a1 a2 a3 : AV) (σ : aM) (l0 : Option (Nat × Int)) (r : List AV)  : ev 84 105 [aQ l0, a1, a2, a3] (r) σ = ev 84 106 [aQ l0, a1, a2, a3] (aQ l0 :: r) σ := ev_go f_Ub_says_105 rfl
theorem f_Ub_says_106 : fetch 84 106 = some (.getfield 30) := by decide +kernel
theorem e_Ub_says_106 (a0 a1 a2 a3 : AV) (σ : aM) (i : Int) (r : List AV)  : ev 84 106 [a0, a1, a2, a3] (aR 0 i :: r) σ = ev 84 109 [a0, a1, a2, a3] (aR 6 0 :: r) σ := ev_go f_Ub_says_106 rfl
theorem f_Ub_says_109 : fetch 84 109 = some (.aload_n 3) := by decide +kernel
theorem e_Ub_says_109 (a0 a1 a2 : AV) (σ : aM) (l3 : Option (Nat × Int)) (r : List AV)  : ev 84 109 [a0, a1, a2, aQ l3] (r) σ = ev 84 110 [a0, a1, a2, aQ l3] (aQ l3 :: r) σ := ev_go f_Ub_says_109 rfl
theorem f_Ub_says_110 : fetch 84 110 = some (.invokevirtual 139) := by decide +kernel
theorem e_Ub_says_110 (a0 a1 a2 a3 : AV) (σ : aM) (s0 : Int) (s1 : Option (Nat × Int)) : ev 84 110 [a0, a1, a2, a3] [aQ s1, aR 6 s0] σ = evK 84 113 [a0, a1, a2, a3] [] (ev 10 0 [aR 6 s0, aQ s1] [] σ) := ev_call f_Ub_says_110 rfl rfl
theorem f_Ub_says_113 : fetch 84 113 = some (.ireturn) := by decide +kernel
theorem e_Ub_says_113 (a0 a1 a2 a3 : AV) (σ : aM) (x : Int) : ev 84 113 [a0, a1, a2, a3] [aI x] σ = some ((some (aI x)), σ) := ev_ret f_Ub_says_113 rfl
theorem f_Ub_limit_0 : fetch 85 0 = some (.iload_n 3) := by decide +kernel
theorem e_Ub_limit_0 (a0 a1 a2 a4 a5 a6 a7 : AV) (σ : aM) (l3 : Int) (r : List AV)  : ev 85 0 [a0, a1, a2, aI l3, a4, a5, a6, a7] (r) σ = ev 85 1 [a0, a1, a2, aI l3, a4, a5, a6, a7] (aI l3 :: r) σ := ev_go f_Ub_limit_0 rfl
theorem f_Ub_limit_1 : fetch 85 1 = some (.invokestatic 143) := by decide +kernel
theorem e_Ub_limit_1 (a0 a1 a2 a3 a4 a5 a6 a7 : AV) (σ : aM) (s0 : Int) : ev 85 1 [a0, a1, a2, a3, a4, a5, a6, a7] [aI s0] σ = evK 85 4 [a0, a1, a2, a3, a4, a5, a6, a7] [] (ev 120 0 [aI s0] [] σ) := ev_call f_Ub_limit_1 rfl rfl
theorem f_Ub_limit_4 : fetch 85 4 = some (.ifCond .eq 26) := by decide +kernel
theorem e_Ub_limit_4 (a0 a1 a2 a3 a4 a5 a6 a7 : AV) (σ : aM) (x : Int) (r : List AV) : ev 85 4 [a0, a1, a2, a3, a4, a5, a6, a7] (aI x :: r) σ = if x = 0 then ev 85 30 [a0, a1, a2, a3, a4, a5, a6, a7] r σ else ev 85 7 [a0, a1, a2, a3, a4, a5, a6, a7] r σ := ev_br f_Ub_limit_4 rfl bc_eq
theorem f_Ub_limit_7 : fetch 85 7 = some (.iload 4) := by decide +kernel
theorem e_Ub_limit_7 (a0 a1 a2 a3 a5 a6 a7 : AV) (σ : aM) (l4 : Int) (r : List AV)  : ev 85 7 [a0, a1, a2, a3, aI l4, a5, a6, a7] (r) σ = ev 85 9 [a0, a1, a2, a3, aI l4, a5, a6, a7] (aI l4 :: r) σ := ev_go f_Ub_limit_7 rfl
theorem f_Ub_limit_9 : fetch 85 9 = some (.invokestatic 143) := by decide +kernel
theorem e_Ub_limit_9 (a0 a1 a2 a3 a4 a5 a6 a7 : AV) (σ : aM) (s0 : Int) : ev 85 9 [a0, a1, a2, a3, a4, a5, a6, a7] [aI s0] σ = evK 85 12 [a0, a1, a2, a3, a4, a5, a6, a7] [] (ev 120 0 [aI s0] [] σ) := ev_call f_Ub_limit_9 rfl rfl
theorem f_Ub_limit_12 : fetch 85 12 = some (.ifCond .eq 18) := by decide +kernel
theorem e_Ub_limit_12 (a0 a1 a2 a3 a4 a5 a6 a7 : AV) (σ : aM) (x : Int) (r : List AV) : ev 85 12 [a0, a1, a2, a3, a4, a5, a6, a7] (aI x :: r) σ = if x = 0 then ev 85 30 [a0, a1, a2, a3, a4, a5, a6, a7] r σ else ev 85 15 [a0, a1, a2, a3, a4, a5, a6, a7] r σ := ev_br f_Ub_limit_12 rfl bc_eq
theorem f_Ub_limit_15 : fetch 85 15 = some (.iload 5) := by decide +kernel
theorem e_Ub_limit_15 (a0 a1 a2 a3 a4 a6 a7 : AV) (σ : aM) (l5 : Int) (r : List AV)  : ev 85 15 [a0, a1, a2, a3, a4, aI l5, a6, a7] (r) σ = ev 85 17 [a0, a1, a2, a3, a4, aI l5, a6, a7] (aI l5 :: r) σ := ev_go f_Ub_limit_15 rfl
theorem f_Ub_limit_17 : fetch 85 17 = some (.ifCond .lt 13) := by decide +kernel
theorem e_Ub_limit_17 (a0 a1 a2 a3 a4 a5 a6 a7 : AV) (σ : aM) (x : Int) (r : List AV) : ev 85 17 [a0, a1, a2, a3, a4, a5, a6, a7] (aI x :: r) σ = if x < 0 then ev 85 30 [a0, a1, a2, a3, a4, a5, a6, a7] r σ else ev 85 20 [a0, a1, a2, a3, a4, a5, a6, a7] r σ := ev_br f_Ub_limit_17 rfl bc_lt
theorem f_Ub_limit_20 : fetch 85 20 = some (.iload 5) := by decide +kernel
theorem e_Ub_limit_20 (a0 a1 a2 a3 a4 a6 a7 : AV) (σ : aM) (l5 : Int) (r : List AV)  : ev 85 20 [a0, a1, a2, a3, a4, aI l5, a6, a7] (r) σ = ev 85 22 [a0, a1, a2, a3, a4, aI l5, a6, a7] (aI l5 :: r) σ := ev_go f_Ub_limit_20 rfl
theorem f_Ub_limit_22 : fetch 85 22 = some (.iconst 2) := by decide +kernel
theorem e_Ub_limit_22 (a0 a1 a2 a3 a4 a5 a6 a7 : AV) (σ : aM) (r : List AV)  : ev 85 22 [a0, a1, a2, a3, a4, a5, a6, a7] (r) σ = ev 85 23 [a0, a1, a2, a3, a4, a5, a6, a7] (aI 2 :: r) σ := ev_go f_Ub_limit_22 rfl
theorem f_Ub_limit_23 : fetch 85 23 = some (.if_icmp .gt 7) := by decide +kernel
theorem e_Ub_limit_23 (a0 a1 a2 a3 a4 a5 a6 a7 : AV) (σ : aM) (x z : Int) (r : List AV) : ev 85 23 [a0, a1, a2, a3, a4, a5, a6, a7] (aI z :: aI x :: r) σ = if z < x then ev 85 30 [a0, a1, a2, a3, a4, a5, a6, a7] r σ else ev 85 26 [a0, a1, a2, a3, a4, a5, a6, a7] r σ := ev_br f_Ub_limit_23 rfl bc_gt
theorem f_Ub_limit_26 : fetch 85 26 = some (.iconst 1) := by decide +kernel
theorem e_Ub_limit_26 (a0 a1 a2 a3 a4 a5 a6 a7 : AV) (σ : aM) (r : List AV)  : ev 85 26 [a0, a1, a2, a3, a4, a5, a6, a7] (r) σ = ev 85 27 [a0, a1, a2, a3, a4, a5, a6, a7] (aI 1 :: r) σ := ev_go f_Ub_limit_26 rfl
theorem f_Ub_limit_27 : fetch 85 27 = some (.goto 4) := by decide +kernel
theorem e_Ub_limit_27 (a0 a1 a2 a3 a4 a5 a6 a7 : AV) (σ : aM) (r : List AV)  : ev 85 27 [a0, a1, a2, a3, a4, a5, a6, a7] (r) σ = ev 85 31 [a0, a1, a2, a3, a4, a5, a6, a7] (r) σ := ev_go f_Ub_limit_27 rfl
theorem f_Ub_limit_30 : fetch 85 30 = some (.iconst 0) := by decide +kernel
theorem e_Ub_limit_30 (a0 a1 a2 a3 a4 a5 a6 a7 : AV) (σ : aM) (r : List AV)  : ev 85 30 [a0, a1, a2, a3, a4, a5, a6, a7] (r) σ = ev 85 31 [a0, a1, a2, a3, a4, a5, a6, a7] (aI 0 :: r) σ := ev_go f_Ub_limit_30 rfl
theorem f_Ub_limit_31 : fetch 85 31 = some (.istore 6) := by decide +kernel
theorem e_Ub_limit_31 (a0 a1 a2 a3 a4 a6 a7 : AV) (σ : aM) (x : Int) (l5 : Int) (r : List AV)  : ev 85 31 [a0, a1, a2, a3, a4, aI l5, a6, a7] (aI x :: r) σ = ev 85 33 [a0, a1, a2, a3, a4, aI l5, aI x, a7] (r) σ := ev_go f_Ub_limit_31 rfl
theorem f_Ub_limit_33 : fetch 85 33 = some (.aload_n 0) := by decide +kernel
theorem e_Ub_limit_33 (a1 a2 a3 a4 a5 a6 a7 : AV) (σ : aM) (l0 : Option (Nat × Int)) (r : List AV)  : ev 85 33 [aQ l0, a1, a2, a3, a4, a5, a6, a7] (r) σ = ev 85 34 [aQ l0, a1, a2, a3, a4, a5, a6, a7] (aQ l0 :: r) σ := ev_go f_Ub_limit_33 rfl
theorem f_Ub_limit_34 : fetch 85 34 = some (.iload_n 1) := by decide +kernel
theorem e_Ub_limit_34 (a0 a2 a3 a4 a5 a6 a7 : AV) (σ : aM) (l1 : Int) (r : List AV)  : ev 85 34 [a0, aI l1, a2, a3, a4, a5, a6, a7] (r) σ = ev 85 35 [a0, aI l1, a2, a3, a4, a5, a6, a7] (aI l1 :: r) σ := ev_go f_Ub_limit_34 rfl
theorem f_Ub_limit_35 : fetch 85 35 = some (.iload_n 2) := by decide +kernel
theorem e_Ub_limit_35 (a0 a1 a3 a4 a5 a6 a7 : AV) (σ : aM) (l2 : Int) (r : List AV)  : ev 85 35 [a0, a1, aI l2, a3, a4, a5, a6, a7] (r) σ = ev 85 36 [a0, a1, aI l2, a3, a4, a5, a6, a7] (aI l2 :: r) σ := ev_go f_Ub_limit_35 rfl
theorem f_Ub_limit_36 : fetch 85 36 = some (.iload 6) := by decide +kernel
theorem e_Ub_limit_36 (a0 a1 a2 a3 a4 a5 a7 : AV) (σ : aM) (l6 : Int) (r : List AV)  : ev 85 36 [a0, a1, a2, a3, a4, a5, aI l6, a7] (r) σ = ev 85 38 [a0, a1, a2, a3, a4, a5, aI l6, a7] (aI l6 :: r) σ := ev_go f_Ub_limit_36 rfl
theorem f_Ub_limit_38 : fetch 85 38 = some (.invokevirtual 146) := by decide +kernel
theorem e_Ub_limit_38 (a0 a1 a2 a3 a4 a5 a6 a7 : AV) (σ : aM) (s0 : Int) (s1 : Int) (s2 : Int) (s3 : Int) : ev 85 38 [a0, a1, a2, a3, a4, a5, a6, a7] [aI s3, aI s2, aI s1, aR 0 s0] σ = evK 85 41 [a0, a1, a2, a3, a4, a5, a6, a7] [] (ev 116 0 [aR 0 s0, aI s1, aI s2, aI s3] [] σ) := ev_call f_Ub_limit_38 rfl rfl
theorem f_Ub_limit_41 : fetch 85 41 = some (.istore 7) := by decide +kernel
theorem e_Ub_limit_41 (a0 a1 a2 a3 a4 a5 a7 : AV) (σ : aM) (x : Int) (l6 : Int) (r : List AV)  : ev 85 41 [a0, a1, a2, a3, a4, a5, aI l6, a7] (aI x :: r) σ = ev 85 43 [a0, a1, a2, a3, a4, a5, aI l6, aI x] (r) σ := ev_go f_Ub_limit_41 rfl
theorem f_Ub_limit_43 : fetch 85 43 = some (.iload 7) := by decide +kernel
theorem e_Ub_limit_43 (a0 a1 a2 a3 a4 a5 a6 : AV) (σ : aM) (l7 : Int) (r : List AV)  : ev 85 43 [a0, a1, a2, a3, a4, a5, a6, aI l7] (r) σ = ev 85 45 [a0, a1, a2, a3, a4, a5, a6, aI l7] (aI l7 :: r) σ := ev_go f_Ub_limit_43 rfl
theorem f_Ub_limit_45 : fetch 85 45 = some (.ifCond .eq 12) := by decide +kernel
theorem e_Ub_limit_45 (a0 a1 a2 a3 a4 a5 a6 a7 : AV) (σ : aM) (x : Int) (r : List AV) : ev 85 45 [a0, a1, a2, a3, a4, a5, a6, a7] (aI x :: r) σ = if x = 0 then ev 85 57 [a0, a1, a2, a3, a4, a5, a6, a7] r σ else ev 85 48 [a0, a1, a2, a3, a4, a5, a6, a7] r σ := ev_br f_Ub_limit_45 rfl bc_eq
theorem f_Ub_limit_48 : fetch 85 48 = some (.aload_n 0) := by decide +kernel
theorem e_Ub_limit_48 (a1 a2 a3 a4 a5 a6 a7 : AV) (σ : aM) (l0 : Option (Nat × Int)) (r : List AV)  : ev 85 48 [aQ l0, a1, a2, a3, a4, a5, a6, a7] (r) σ = ev 85 49 [aQ l0, a1, a2, a3, a4, a5, a6, a7] (aQ l0 :: r) σ := ev_go f_Ub_limit_48 rfl
theorem f_Ub_limit_49 : fetch 85 49 = some (.iload 7) := by decide +kernel
theorem e_Ub_limit_49 (a0 a1 a2 a3 a4 a5 a6 : AV) (σ : aM) (l7 : Int) (r : List AV)  : ev 85 49 [a0, a1, a2, a3, a4, a5, a6, aI l7] (r) σ = ev 85 51 [a0, a1, a2, a3, a4, a5, a6, aI l7] (aI l7 :: r) σ := ev_go f_Ub_limit_49 rfl
theorem f_Ub_limit_51 : fetch 85 51 = some (.invokevirtual 71) := by decide +kernel
theorem e_Ub_limit_51 (a0 a1 a2 a3 a4 a5 a6 a7 : AV) (σ : aM) (s0 : Int) (s1 : Int) : ev 85 51 [a0, a1, a2, a3, a4, a5, a6, a7] [aI s1, aR 0 s0] σ = evK 85 54 [a0, a1, a2, a3, a4, a5, a6, a7] [] (ev 113 0 [aR 0 s0, aI s1] [] σ) := ev_call f_Ub_limit_51 rfl rfl
theorem f_Ub_limit_54 : fetch 85 54 = some (.goto 19) := by decide +kernel
theorem e_Ub_limit_54 (a0 a1 a2 a3 a4 a5 a6 a7 : AV) (σ : aM) (r : List AV)  : ev 85 54 [a0, a1, a2, a3, a4, a5, a6, a7] (r) σ = ev 85 73 [a0, a1, a2, a3, a4, a5, a6, a7] (r) σ := ev_go f_Ub_limit_54 rfl
theorem f_Ub_limit_57 : fetch 85 57 = some (.aload_n 0) := by decide +kernel
theorem e_Ub_limit_57 (a1 a2 a3 a4 a5 a6 a7 : AV) (σ : aM) (l0 : Option (Nat × Int)) (r : List AV)  : ev 85 57 [aQ l0, a1, a2, a3, a4, a5, a6, a7] (r) σ = ev 85 58 [aQ l0, a1, a2, a3, a4, a5, a6, a7] (aQ l0 :: r) σ := ev_go f_Ub_limit_57 rfl
theorem f_Ub_limit_58 : fetch 85 58 = some (.getfield 22) := by decide +kernel
theorem e_Ub_limit_58 (a0 a1 a2 a3 a4 a5 a6 a7 : AV) (σ : aM) (i : Int) (r : List AV)  : ev 85 58 [a0, a1, a2, a3, a4, a5, a6, a7] (aR 0 i :: r) σ = ev 85 61 [a0, a1, a2, a3, a4, a5, a6, a7] (aR 5 0 :: r) σ := ev_go f_Ub_limit_58 rfl
theorem f_Ub_limit_61 : fetch 85 61 = some (.iconst 1) := by decide +kernel
theorem e_Ub_limit_61 (a0 a1 a2 a3 a4 a5 a6 a7 : AV) (σ : aM) (r : List AV)  : ev 85 61 [a0, a1, a2, a3, a4, a5, a6, a7] (r) σ = ev 85 62 [a0, a1, a2, a3, a4, a5, a6, a7] (aI 1 :: r) σ := ev_go f_Ub_limit_61 rfl
theorem f_Ub_limit_62 : fetch 85 62 = some (.iload_n 1) := by decide +kernel
theorem e_Ub_limit_62 (a0 a2 a3 a4 a5 a6 a7 : AV) (σ : aM) (l1 : Int) (r : List AV)  : ev 85 62 [a0, aI l1, a2, a3, a4, a5, a6, a7] (r) σ = ev 85 63 [a0, aI l1, a2, a3, a4, a5, a6, a7] (aI l1 :: r) σ := ev_go f_Ub_limit_62 rfl
theorem f_Ub_limit_63 : fetch 85 63 = some (.iload_n 2) := by decide +kernel
theorem e_Ub_limit_63 (a0 a1 a3 a4 a5 a6 a7 : AV) (σ : aM) (l2 : Int) (r : List AV)  : ev 85 63 [a0, a1, aI l2, a3, a4, a5, a6, a7] (r) σ = ev 85 64 [a0, a1, aI l2, a3, a4, a5, a6, a7] (aI l2 :: r) σ := ev_go f_Ub_limit_63 rfl
theorem f_Ub_limit_64 : fetch 85 64 = some (.iload_n 3) := by decide +kernel
theorem e_Ub_limit_64 (a0 a1 a2 a4 a5 a6 a7 : AV) (σ : aM) (l3 : Int) (r : List AV)  : ev 85 64 [a0, a1, a2, aI l3, a4, a5, a6, a7] (r) σ = ev 85 65 [a0, a1, a2, aI l3, a4, a5, a6, a7] (aI l3 :: r) σ := ev_go f_Ub_limit_64 rfl
theorem f_Ub_limit_65 : fetch 85 65 = some (.iload 4) := by decide +kernel
theorem e_Ub_limit_65 (a0 a1 a2 a3 a5 a6 a7 : AV) (σ : aM) (l4 : Int) (r : List AV)  : ev 85 65 [a0, a1, a2, a3, aI l4, a5, a6, a7] (r) σ = ev 85 67 [a0, a1, a2, a3, aI l4, a5, a6, a7] (aI l4 :: r) σ := ev_go f_Ub_limit_65 rfl
theorem f_Ub_limit_67 : fetch 85 67 = some (.iconst 0) := by decide +kernel
theorem e_Ub_limit_67 (a0 a1 a2 a3 a4 a5 a6 a7 : AV) (σ : aM) (r : List AV)  : ev 85 67 [a0, a1, a2, a3, a4, a5, a6, a7] (r) σ = ev 85 68 [a0, a1, a2, a3, a4, a5, a6, a7] (aI 0 :: r) σ := ev_go f_Ub_limit_67 rfl
theorem f_Ub_limit_68 : fetch 85 68 = some (.iload 5) := by decide +kernel
theorem e_Ub_limit_68 (a0 a1 a2 a3 a4 a6 a7 : AV) (σ : aM) (l5 : Int) (r : List AV)  : ev 85 68 [a0, a1, a2, a3, a4, aI l5, a6, a7] (r) σ = ev 85 70 [a0, a1, a2, a3, a4, aI l5, a6, a7] (aI l5 :: r) σ := ev_go f_Ub_limit_68 rfl
theorem f_Ub_limit_70 : fetch 85 70 = some (.invokevirtual 150) := by decide +kernel
theorem e_Ub_limit_70 (a0 a1 a2 a3 a4 a5 a6 a7 : AV) (σ : aM) (s0 : Int) (s1 : Int) (s2 : Int) (s3 : Int) (s4 : Int) (s5 : Int) (s6 : Int) (s7 : Int) : ev 85 70 [a0, a1, a2, a3, a4, a5, a6, a7] [aI s7, aI s6, aI s5, aI s4, aI s3, aI s2, aI s1, aR 5 s0] σ = evK 85 73 [a0, a1, a2, a3, a4, a5, a6, a7] [] (ev 14 0 [aR 5 s0, aI s1, aI s2, aI s3, aI s4, aI s5, aI s6, aI s7, aU] [] σ) := ev_call f_Ub_limit_70 rfl rfl
theorem f_Ub_limit_73 : fetch 85 73 = some (.ireturn) := by decide +kernel
theorem e_Ub_limit_73 (a0 a1 a2 a3 a4 a5 a6 a7 : AV) (σ : aM) (x : Int) : ev 85 73 [a0, a1, a2, a3, a4, a5, a6, a7] [aI x] σ = some ((some (aI x)), σ) := ev_ret f_Ub_limit_73 rfl
theorem f_Ub_hidden_0 : fetch 86 0 = some (.iload_n 3) := by decide +kernel
theorem e_Ub_hidden_0 (a0 a1 a2 a4 a5 a6 a7 : AV) (σ : aM) (l3 : Int) (r : List AV)  : ev 86 0 [a0, a1, a2, aI l3, a4, a5, a6, a7] (r) σ = ev 86 1 [a0, a1, a2, aI l3, a4, a5, a6, a7] (aI l3 :: r) σ := ev_go f_Ub_hidden_0 rfl
theorem f_Ub_hidden_1 : fetch 86 1 = some (.invokestatic 143) := by decide +kernel
theorem e_Ub_hidden_1 (a0 a1 a2 a3 a4 a5 a6 a7 : AV) (σ : aM) (s0 : Int) : ev 86 1 [a0, a1, a2, a3, a4, a5, a6, a7] [aI s0] σ = evK 86 4 [a0, a1, a2, a3, a4, a5, a6, a7] [] (ev 120 0 [aI s0] [] σ) := ev_call f_Ub_hidden_1 rfl rfl
theorem f_Ub_hidden_4 : fetch 86 4 = some (.ifCond .eq 23) := by decide +kernel
theorem e_Ub_hidden_4 (a0 a1 a2 a3 a4 a5 a6 a7 : AV) (σ : aM) (x : Int) (r : List AV) : ev 86 4 [a0, a1, a2, a3, a4, a5, a6, a7] (aI x :: r) σ = if x = 0 then ev 86 27 [a0, a1, a2, a3, a4, a5, a6, a7] r σ else ev 86 7 [a0, a1, a2, a3, a4, a5, a6, a7] r σ := ev_br f_Ub_hidden_4 rfl bc_eq
theorem f_Ub_hidden_7 : fetch 86 7 = some (.iload 4) := by decide +kernel
theorem e_Ub_hidden_7 (a0 a1 a2 a3 a5 a6 a7 : AV) (σ : aM) (l4 : Int) (r : List AV)  : ev 86 7 [a0, a1, a2, a3, aI l4, a5, a6, a7] (r) σ = ev 86 9 [a0, a1, a2, a3, aI l4, a5, a6, a7] (aI l4 :: r) σ := ev_go f_Ub_hidden_7 rfl
theorem f_Ub_hidden_9 : fetch 86 9 = some (.invokestatic 143) := by decide +kernel
theorem e_Ub_hidden_9 (a0 a1 a2 a3 a4 a5 a6 a7 : AV) (σ : aM) (s0 : Int) : ev 86 9 [a0, a1, a2, a3, a4, a5, a6, a7] [aI s0] σ = evK 86 12 [a0, a1, a2, a3, a4, a5, a6, a7] [] (ev 120 0 [aI s0] [] σ) := ev_call f_Ub_hidden_9 rfl rfl
theorem f_Ub_hidden_12 : fetch 86 12 = some (.ifCond .eq 15) := by decide +kernel
theorem e_Ub_hidden_12 (a0 a1 a2 a3 a4 a5 a6 a7 : AV) (σ : aM) (x : Int) (r : List AV) : ev 86 12 [a0, a1, a2, a3, a4, a5, a6, a7] (aI x :: r) σ = if x = 0 then ev 86 27 [a0, a1, a2, a3, a4, a5, a6, a7] r σ else ev 86 15 [a0, a1, a2, a3, a4, a5, a6, a7] r σ := ev_br f_Ub_hidden_12 rfl bc_eq
theorem f_Ub_hidden_15 : fetch 86 15 = some (.iload 5) := by decide +kernel
theorem e_Ub_hidden_15 (a0 a1 a2 a3 a4 a6 a7 : AV) (σ : aM) (l5 : Int) (r : List AV)  : ev 86 15 [a0, a1, a2, a3, a4, aI l5, a6, a7] (r) σ = ev 86 17 [a0, a1, a2, a3, a4, aI l5, a6, a7] (aI l5 :: r) σ := ev_go f_Ub_hidden_15 rfl
theorem f_Ub_hidden_17 : fetch 86 17 = some (.invokestatic 143) := by decide +kernel
theorem e_Ub_hidden_17 (a0 a1 a2 a3 a4 a5 a6 a7 : AV) (σ : aM) (s0 : Int) : ev 86 17 [a0, a1, a2, a3, a4, a5, a6, a7] [aI s0] σ = evK 86 20 [a0, a1, a2, a3, a4, a5, a6, a7] [] (ev 120 0 [aI s0] [] σ) := ev_call f_Ub_hidden_17 rfl rfl
theorem f_Ub_hidden_20 : fetch 86 20 = some (.ifCond .eq 7) := by decide +kernel
theorem e_Ub_hidden_20 (a0 a1 a2 a3 a4 a5 a6 a7 : AV) (σ : aM) (x : Int) (r : List AV) : ev 86 20 [a0, a1, a2, a3, a4, a5, a6, a7] (aI x :: r) σ = if x = 0 then ev 86 27 [a0, a1, a2, a3, a4, a5, a6, a7] r σ else ev 86 23 [a0, a1, a2, a3, a4, a5, a6, a7] r σ := ev_br f_Ub_hidden_20 rfl bc_eq
theorem f_Ub_hidden_23 : fetch 86 23 = some (.iconst 1) := by decide +kernel
theorem e_Ub_hidden_23 (a0 a1 a2 a3 a4 a5 a6 a7 : AV) (σ : aM) (r : List AV)  : ev 86 23 [a0, a1, a2, a3, a4, a5, a6, a7] (r) σ = ev 86 24 [a0, a1, a2, a3, a4, a5, a6, a7] (aI 1 :: r) σ := ev_go f_Ub_hidden_23 rfl
theorem f_Ub_hidden_24 : fetch 86 24 = some (.goto 4) := by decide +kernel
theorem e_Ub_hidden_24 (a0 a1 a2 a3 a4 a5 a6 a7 : AV) (σ : aM) (r : List AV)  : ev 86 24 [a0, a1, a2, a3, a4, a5, a6, a7] (r) σ = ev 86 28 [a0, a1, a2, a3, a4, a5, a6, a7] (r) σ := ev_go f_Ub_hidden_24 rfl
theorem f_Ub_hidden_27 : fetch 86 27 = some (.iconst 0) := by decide +kernel
theorem e_Ub_hidden_27 (a0 a1 a2 a3 a4 a5 a6 a7 : AV) (σ : aM) (r : List AV)  : ev 86 27 [a0, a1, a2, a3, a4, a5, a6, a7] (r) σ = ev 86 28 [a0, a1, a2, a3, a4, a5, a6, a7] (aI 0 :: r) σ := ev_go f_Ub_hidden_27 rfl
theorem f_Ub_hidden_28 : fetch 86 28 = some (.istore 6) := by decide +kernel
theorem e_Ub_hidden_28 (a0 a1 a2 a3 a4 a6 a7 : AV) (σ : aM) (x : Int) (l5 : Int) (r : List AV)  : ev 86 28 [a0, a1, a2, a3, a4, aI l5, a6, a7] (aI x :: r) σ = ev 86 30 [a0, a1, a2, a3, a4, aI l5, aI x, a7] (r) σ := ev_go f_Ub_hidden_28 rfl
theorem f_Ub_hidden_30 : fetch 86 30 = some (.aload_n 0) := by decide +kernel
theorem e_Ub_hidden_30 (a1 a2 a3 a4 a5 a6 a7 : AV) (σ : aM) (l0 : Option (Nat × Int)) (r : List AV)  : ev 86 30 [aQ l0, a1, a2, a3, a4, a5, a6, a7] (r) σ = ev 86 31 [aQ l0, a1, a2, a3, a4, a5, a6, a7] (aQ l0 :: r) σ := ev_go f_Ub_hidden_30 rfl
theorem f_Ub_hidden_31 : fetch 86 31 = some (.iload_n 1) := by decide +kernel
theorem e_Ub_hidden_31 (a0 a2 a3 a4 a5 a6 a7 : AV) (σ : aM) (l1 : Int) (r : List AV)  : ev 86 31 [a0, aI l1, a2, a3, a4, a5, a6, a7] (r) σ = ev 86 32 [a0, aI l1, a2, a3, a4, a5, a6, a7] (aI l1 :: r) σ := ev_go f_Ub_hidden_31 rfl
theorem f_Ub_hidden_32 : fetch 86 32 = some (.iload_n 2) := by decide +kernel
theorem e_Ub_hidden_32 (a0 a1 a3 a4 a5 a6 a7 : AV) (σ : aM) (l2 : Int) (r : List AV)  : ev 86 32 [a0, a1, aI l2, a3, a4, a5, a6, a7] (r) σ = ev 86 33 [a0, a1, aI l2, a3, a4, a5, a6, a7] (aI l2 :: r) σ := ev_go f_Ub_hidden_32 rfl
theorem f_Ub_hidden_33 : fetch 86 33 = some (.iload 6) := by decide +kernel
theorem e_Ub_hidden_33 (a0 a1 a2 a3 a4 a5 a7 : AV) (σ : aM) (l6 : Int) (r : List AV)  : ev 86 33 [a0, a1, a2, a3, a4, a5, aI l6, a7] (r) σ = ev 86 35 [a0, a1, a2, a3, a4, a5, aI l6, a7] (aI l6 :: r) σ := ev_go f_Ub_hidden_33 rfl
theorem f_Ub_hidden_35 : fetch 86 35 = some (.invokevirtual 146) := by decide +kernel
theorem e_Ub_hidden_35 (a0 a1 a2 a3 a4 a5 a6 a7 : AV) (σ : aM) (s0 : Int) (s1 : Int) (s2 : Int) (s3 : Int) : ev 86 35 [a0, a1, a2, a3, a4, a5, a6, a7] [aI s3, aI s2, aI s1, aR 0 s0] σ = evK 86 38 [a0, a1, a2, a3, a4, a5, a6, a7] [] (ev 116 0 [aR 0 s0, aI s1, aI s2, aI s3] [] σ) := ev_call f_Ub_hidden_35 rfl rfl
theorem f_Ub_hidden_38 : fetch 86 38 = some (.istore 7) := by decide +kernel
theorem e_Ub_hidden_38 (a0 a1 a2 a3 a4 a5 a7 : AV) (σ : aM) (x : Int) (l6 : Int) (r : List AV)  : ev 86 38 [a0, a1, a2, a3, a4, a5, aI l6, a7] (aI x :: r) σ = ev 86 40 [a0, a1, a2, a3, a4, a5, aI l6, aI x] (r) σ := ev_go f_Ub_hidden_38 rfl
theorem f_Ub_hidden_40 : fetch 86 40 = some (.iload 7) := by decide +kernel
theorem e_Ub_hidden_40 (a0 a1 a2 a3 a4 a5 a6 : AV) (σ : aM) (l7 : Int) (r : List AV)  : ev 86 40 [a0, a1, a2, a3, a4, a5, a6, aI l7] (r) σ = ev 86 42 [a0, a1, a2, a3, a4, a5, a6, aI l7] (aI l7 :: r) σ := ev_go f_Ub_hidden_40 rfl
theorem f_Ub_hidden_42 : fetch 86 42 = some (.ifCond .eq 12) := by decide +kernel
theorem e_Ub_hidden_42 (a0 a1 a2 a3 a4 a5 a6 a7 : AV) (σ : aM) (x : Int) (r : List AV) : ev 86 42 [a0, a1, a2, a3, a4, a5, a6, a7] (aI x :: r) σ = if x = 0 then ev 86 54 [a0, a1, a2, a3, a4, a5, a6, a7] r σ else ev 86 45 [a0, a1, a2, a3, a4, a5, a6, a7] r σ := ev_br f_Ub_hidden_42 rfl bc_eq
theorem f_Ub_hidden_45 : fetch 86 45 = some (.aload_n 0) := by decide +kernel
theorem e_Ub_hidden_45 (a1 a2 a3 a4 a5 a6 a7 : AV) (σ : aM) (l0 : Option (Nat × Int)) (r : List AV)  : ev 86 45 [aQ l0, a1, a2, a3, a4, a5, a6, a7] (r) σ = ev 86 46 [aQ l0, a1, a2, a3, a4, a5, a6, a7] (aQ l0 :: r) σ := ev_go f_Ub_hidden_45 rfl
theorem f_Ub_hidden_46 : fetch 86 46 = some (.iload 7) := by decide +kernel
theorem e_Ub_hidden_46 (a0 a1 a2 a3 a4 a5 a6 : AV) (σ : aM) (l7 : Int) (r : List AV)  : ev 86 46 [a0, a1, a2, a3, a4, a5, a6, aI l7] (r) σ = ev 86 48 [a0, a1, a2, a3, a4, a5, a6, aI l7] (aI l7 :: r) σ := ev_go f_Ub_hidden_46 rfl
theorem f_Ub_hidden_48 : fetch 86 48 = some (.invokevirtual 71) := by decide +kernel
theorem e_Ub_hidden_48 (a0 a1 a2 a3 a4 a5 a6 a7 : AV) (σ : aM) (s0 : Int) (s1 : Int) : ev 86 48 [a0, a1, a2, a3, a4, a5, a6, a7] [aI s1, aR 0 s0] σ = evK 86 51 [a0, a1, a2, a3, a4, a5, a6, a7] [] (ev 113 0 [aR 0 s0, aI s1] [] σ) := ev_call f_Ub_hidden_48 rfl rfl
theorem f_Ub_hidden_51 : fetch 86 51 = some (.goto 19) := by decide +kernel
theorem e_Ub_hidden_51 (a0 a1 a2 a3 a4 a5 a6 a7 : AV) (σ : aM) (r : List AV)  : ev 86 51 [a0, a1, a2, a3, a4, a5, a6, a7] (r) σ = ev 86 70 [a0, a1, a2, a3, a4, a5, a6, a7] (r) σ := ev_go f_Ub_hidden_51 rfl
theorem f_Ub_hidden_54 : fetch 86 54 = some (.aload_n 0) := by decide +kernel
theorem e_Ub_hidden_54 (a1 a2 a3 a4 a5 a6 a7 : AV) (σ : aM) (l0 : Option (Nat × Int)) (r : List AV)  : ev 86 54 [aQ l0, a1, a2, a3, a4, a5, a6, a7] (r) σ = ev 86 55 [aQ l0, a1, a2, a3, a4, a5, a6, a7] (aQ l0 :: r) σ := ev_go f_Ub_hidden_54 rfl
theorem f_Ub_hidden_55 : fetch 86 55 = some (.getfield 22) := by decide +kernel
theorem e_Ub_hidden_55 (a0 a1 a2 a3 a4 a5 a6 a7 : AV) (σ : aM) (i : Int) (r : List AV)  : ev 86 55 [a0, a1, a2, a3, a4, a5, a6, a7] (aR 0 i :: r) σ = ev 86 58 [a0, a1, a2, a3, a4, a5, a6, a7] (aR 5 0 :: r) σ := ev_go f_Ub_hidden_55 rfl
theorem f_Ub_hidden_58 : fetch 86 58 = some (.iconst 2) := by decide +kernel
theorem e_Ub_hidden_58 (a0 a1 a2 a3 a4 a5 a6 a7 : AV) (σ : aM) (r : List AV)  : ev 86 58 [a0, a1, a2, a3, a4, a5, a6, a7] (r) σ = ev 86 59 [a0, a1, a2, a3, a4, a5, a6, a7] (aI 2 :: r) σ := ev_go f_Ub_hidden_58 rfl
theorem f_Ub_hidden_59 : fetch 86 59 = some (.iload_n 1) := by decide +kernel
theorem e_Ub_hidden_59 (a0 a2 a3 a4 a5 a6 a7 : AV) (σ : aM) (l1 : Int) (r : List AV)  : ev 86 59 [a0, aI l1, a2, a3, a4, a5, a6, a7] (r) σ = ev 86 60 [a0, aI l1, a2, a3, a4, a5, a6, a7] (aI l1 :: r) σ := ev_go f_Ub_hidden_59 rfl
theorem f_Ub_hidden_60 : fetch 86 60 = some (.iload_n 2) := by decide +kernel
theorem e_Ub_hidden_60 (a0 a1 a3 a4 a5 a6 a7 : AV) (σ : aM) (l2 : Int) (r : List AV)  : ev 86 60 [a0, a1, aI l2, a3, a4, a5, a6, a7] (r) σ = ev 86 61 [a0, a1, aI l2, a3, a4, a5, a6, a7] (aI l2 :: r) σ := ev_go f_Ub_hidden_60 rfl
theorem f_Ub_hidden_61 : fetch 86 61 = some (.iload_n 3) := by decide +kernel
theorem e_Ub_hidden_61 (a0 a1 a2 a4 a5 a6 a7 : AV) (σ : aM) (l3 : Int) (r : List AV)  : ev 86 61 [a0, a1, a2, aI l3, a4, a5, a6, a7] (r) σ = ev 86 62 [a0, a1, a2, aI l3, a4, a5, a6, a7] (aI l3 :: r) σ := ev_go f_Ub_hidden_61 rfl
theorem f_Ub_hidden_62 : fetch 86 62 = some (.iload 4) := by decide +kernel
theorem e_Ub_hidden_62 (a0 a1 a2 a3 a5 a6 a7 : AV) (σ : aM) (l4 : Int) (r : List AV)  : ev 86 62 [a0, a1, a2, a3, aI l4, a5, a6, a7] (r) σ = ev 86 64 [a0, a1, a2, a3, aI l4, a5, a6, a7] (aI l4 :: r) σ := ev_go f_Ub_hidden_62 rfl
theorem f_Ub_hidden_64 : fetch 86 64 = some (.iload 5) := by decide +kernel
theorem e_Ub_hidden_64 (a0 a1 a2 a3 a4 a6 a7 : AV) (σ : aM) (l5 : Int) (r : List AV)  : ev 86 64 [a0, a1, a2, a3, a4, aI l5, a6, a7] (r) σ = ev 86 66 [a0, a1, a2, a3, a4, aI l5, a6, a7] (aI l5 :: r) σ := ev_go f_Ub_hidden_64 rfl
theorem f_Ub_hidden_66 : fetch 86 66 = some (.iconst 0) := by decide +kernel
theorem e_Ub_hidden_66 (a0 a1 a2 a3 a4 a5 a6 a7 : AV) (σ : aM) (r : List AV)  : ev 86 66 [a0, a1, a2, a3, a4, a5, a6, a7] (r) σ = ev 86 67 [a0, a1, a2, a3, a4, a5, a6, a7] (aI 0 :: r) σ := ev_go f_Ub_hidden_66 rfl
theorem f_Ub_hidden_67 : fetch 86 67 = some (.invokevirtual 150) := by decide +kernel
theorem e_Ub_hidden_67 (a0 a1 a2 a3 a4 a5 a6 a7 : AV) (σ : aM) (s0 : Int) (s1 : Int) (s2 : Int) (s3 : Int) (s4 : Int) (s5 : Int) (s6 : Int) (s7 : Int) : ev 86 67 [a0, a1, a2, a3, a4, a5, a6, a7] [aI s7, aI s6, aI s5, aI s4, aI s3, aI s2, aI s1, aR 5 s0] σ = evK 86 70 [a0, a1, a2, a3, a4, a5, a6, a7] [] (ev 14 0 [aR 5 s0, aI s1, aI s2, aI s3, aI s4, aI s5, aI s6, aI s7, aU] [] σ) := ev_call f_Ub_hidden_67 rfl rfl
theorem f_Ub_hidden_70 : fetch 86 70 = some (.ireturn) := by decide +kernel
theorem e_Ub_hidden_70 (a0 a1 a2 a3 a4 a5 a6 a7 : AV) (σ : aM) (x : Int) : ev 86 70 [a0, a1, a2, a3, a4, a5, a6, a7] [aI x] σ = some ((some (aI x)), σ) := ev_ret f_Ub_hidden_70 rfl
theorem f_Ub_pegged_0 : fetch 87 0 = some (.iload_n 3) := by decide +kernel
theorem e_Ub_pegged_0 (a0 a1 a2 a4 a5 a6 : AV) (σ : aM) (l3 : Int) (r : List AV)  : ev 87 0 [a0, a1, a2, aI l3, a4, a5, a6] (r) σ = ev 87 1 [a0, a1, a2, aI l3, a4, a5, a6] (aI l3 :: r) σ := ev_go f_Ub_pegged_0 rfl
theorem f_Ub_pegged_1 : fetch 87 1 = some (.invokestatic 143) := by decide +kernel
theorem e_Ub_pegged_1 (a0 a1 a2 a3 a4 a5 a6 : AV) (σ : aM) (s0 : Int) : ev 87 1 [a0, a1, a2, a3, a4, a5, a6] [aI s0] σ = evK 87 4 [a0, a1, a2, a3, a4, a5, a6] [] (ev 120 0 [aI s0] [] σ) := ev_call f_Ub_pegged_1 rfl rfl
theorem f_Ub_pegged_4 : fetch 87 4 = some (.ifCond .eq 19) := by decide +kernel
theorem e_Ub_pegged_4 (a0 a1 a2 a3 a4 a5 a6 : AV) (σ : aM) (x : Int) (r : List AV) : ev 87 4 [a0, a1, a2, a3, a4, a5, a6] (aI x :: r) σ = if x = 0 then ev 87 23 [a0, a1, a2, a3, a4, a5, a6] r σ else ev 87 7 [a0, a1, a2, a3, a4, a5, a6] r σ := ev_br f_Ub_pegged_4 rfl bc_eq
theorem f_Ub_pegged_7 : fetch 87 7 = some (.iload 4) := by decide +kernel
theorem e_Ub_pegged_7 (a0 a1 a2 a3 a5 a6 : AV) (σ : aM) (l4 : Int) (r : List AV)  : ev 87 7 [a0, a1, a2, a3, aI l4, a5, a6] (r) σ = ev 87 9 [a0, a1, a2, a3, aI l4, a5, a6] (aI l4 :: r) σ := ev_go f_Ub_pegged_7 rfl
theorem f_Ub_pegged_9 : fetch 87 9 = some (.ifCond .lt 14) := by decide +kernel
theorem e_Ub_pegged_9 (a0 a1 a2 a3 a4 a5 a6 : AV) (σ : aM) (x : Int) (r : List AV) : ev 87 9 [a0, a1, a2, a3, a4, a5, a6] (aI x :: r) σ = if x < 0 then ev 87 23 [a0, a1, a2, a3, a4, a5, a6] r σ else ev 87 12 [a0, a1, a2, a3, a4, a5, a6] r σ := ev_br f_Ub_pegged_9 rfl bc_lt
theorem f_Ub_pegged_12 : fetch 87 12 = some (.iload 4) := by decide +kernel
theorem e_Ub_pegged_12 (a0 a1 a2 a3 a5 a6 : AV) (σ : aM) (l4 : Int) (r : List AV)  : ev 87 12 [a0, a1, a2, a3, aI l4, a5, a6] (r) σ = ev 87 14 [a0, a1, a2, a3, aI l4, a5, a6] (aI l4 :: r) σ := ev_go f_Ub_pegged_12 rfl
theorem f_Ub_pegged_14 : fetch 87 14 = some (.bipush 99) := by decide +kernel
theorem e_Ub_pegged_14 (a0 a1 a2 a3 a4 a5 a6 : AV) (σ : aM) (r : List AV)  : ev 87 14 [a0, a1, a2, a3, a4, a5, a6] (r) σ = ev 87 16 [a0, a1, a2, a3, a4, a5, a6] (aI 99 :: r) σ := ev_go f_Ub_pegged_14 rfl
theorem f_Ub_pegged_16 : fetch 87 16 = some (.if_icmp .gt 7) := by decide +kernel
theorem e_Ub_pegged_16 (a0 a1 a2 a3 a4 a5 a6 : AV) (σ : aM) (x z : Int) (r : List AV) : ev 87 16 [a0, a1, a2, a3, a4, a5, a6] (aI z :: aI x :: r) σ = if z < x then ev 87 23 [a0, a1, a2, a3, a4, a5, a6] r σ else ev 87 19 [a0, a1, a2, a3, a4, a5, a6] r σ := ev_br f_Ub_pegged_16 rfl bc_gt
theorem f_Ub_pegged_19 : fetch 87 19 = some (.iconst 1) := by decide +kernel
theorem e_Ub_pegged_19 (a0 a1 a2 a3 a4 a5 a6 : AV) (σ : aM) (r : List AV)  : ev 87 19 [a0, a1, a2, a3, a4, a5, a6] (r) σ = ev 87 20 [a0, a1, a2, a3, a4, a5, a6] (aI 1 :: r) σ := ev_go f_Ub_pegged_19 rfl
theorem f_Ub_pegged_20 : fetch 87 20 = some (.goto 4) := by decide +kernel
theorem e_Ub_pegged_20 (a0 a1 a2 a3 a4 a5 a6 : AV) (σ : aM) (r : List AV)  : ev 87 20 [a0, a1, a2, a3, a4, a5, a6] (r) σ = ev 87 24 [a0, a1, a2, a3, a4, a5, a6] (r) σ := ev_go f_Ub_pegged_20 rfl
theorem f_Ub_pegged_23 : fetch 87 23 = some (.iconst 0) := by decide +kernel
theorem e_Ub_pegged_23 (a0 a1 a2 a3 a4 a5 a6 : AV) (σ : aM) (r : List AV)  : ev 87 23 [a0, a1, a2, a3, a4, a5, a6] (r) σ = ev 87 24 [a0, a1, a2, a3, a4, a5, a6] (aI 0 :: r) σ := ev_go f_Ub_pegged_23 rfl
theorem f_Ub_pegged_24 : fetch 87 24 = some (.istore 5) := by decide +kernel
theorem e_Ub_pegged_24 (a0 a1 a2 a3 a5 a6 : AV) (σ : aM) (x : Int) (l4 : Int) (r : List AV)  : ev 87 24 [a0, a1, a2, a3, aI l4, a5, a6] (aI x :: r) σ = ev 87 26 [a0, a1, a2, a3, aI l4, aI x, a6] (r) σ := ev_go f_Ub_pegged_24 rfl
theorem f_Ub_pegged_26 : fetch 87 26 = some (.aload_n 0) := by decide +kernel
theorem e_Ub_pegged_26 (a1 a2 a3 a4 a5 a6 : AV) (σ : aM) (l0 : Option (Nat × Int)) (r : List AV)  : ev 87 26 [aQ l0, a1, a2, a3, a4, a5, a6] (r) σ = ev 87 27 [aQ l0, a1, a2, a3, a4, a5, a6] (aQ l0 :: r) σ := ev_go f_Ub_pegged_26 rfl
theorem f_Ub_pegged_27 : fetch 87 27 = some (.iload_n 1) := by decide +kernel
theorem e_Ub_pegged_27 (a0 a2 a3 a4 a5 a6 : AV) (σ : aM) (l1 : Int) (r : List AV)  : ev 87 27 [a0, aI l1, a2, a3, a4, a5, a6] (r) σ = ev 87 28 [a0, aI l1, a2, a3, a4, a5, a6] (aI l1 :: r) σ := ev_go f_Ub_pegged_27 rfl
theorem f_Ub_pegged_28 : fetch 87 28 = some (.iload_n 2) := by decide +kernel
theorem e_Ub_pegged_28 (a0 a1 a3 a4 a5 a6 : AV) (σ : aM) (l2 : Int) (r : List AV)  : ev 87 28 [a0, a1, aI l2, a3, a4, a5, a6] (r) σ = ev 87 29 [a0, a1, aI l2, a3, a4, a5, a6] (aI l2 :: r) σ := ev_go f_Ub_pegged_28 rfl
theorem f_Ub_pegged_29 : fetch 87 29 = some (.iload 5) := by decide +kernel
theorem e_Ub_pegged_29 (a0 a1 a2 a3 a4 a6 : AV) (σ : aM) (l5 : Int) (r : List AV)  : ev 87 29 [a0, a1, a2, a3, a4, aI l5, a6] (r) σ = ev 87 31 [a0, a1, a2, a3, a4, aI l5, a6] (aI l5 :: r) σ := ev_go f_Ub_pegged_29 rfl
theorem f_Ub_pegged_31 : fetch 87 31 = some (.invokevirtual 146) := by decide +kernel
theorem e_Ub_pegged_31 (a0 a1 a2 a3 a4 a5 a6 : AV) (σ : aM) (s0 : Int) (s1 : Int) (s2 : Int) (s3 : Int) : ev 87 31 [a0, a1, a2, a3, a4, a5, a6] [aI s3, aI s2, aI s1, aR 0 s0] σ = evK 87 34 [a0, a1, a2, a3, a4, a5, a6] [] (ev 116 0 [aR 0 s0, aI s1, aI s2, aI s3] [] σ) := ev_call f_Ub_pegged_31 rfl rfl
theorem f_Ub_pegged_34 : fetch 87 34 = some (.istore 6) := by decide +kernel
theorem e_Ub_pegged_34 (a0 a1 a2 a3 a4 a6 : AV) (σ : aM) (x : Int) (l5 : Int) (r : List AV)  : ev 87 34 [a0, a1, a2, a3, a4, aI l5, a6] (aI x :: r) σ = ev 87 36 [a0, a1, a2, a3, a4, aI l5, aI x] (r) σ := ev_go f_Ub_pegged_34 rfl
theorem f_Ub_pegged_36 : fetch 87 36 = some (.iload 6) := by decide +kernel
theorem e_Ub_pegged_36 (a0 a1 a2 a3 a4 a5 : AV) (σ : aM) (l6 : Int) (r : List AV)  : ev 87 36 [a0, a1, a2, a3, a4, a5, aI l6] (r) σ = ev 87 38 [a0, a1, a2, a3, a4, a5, aI l6] (aI l6 :: r) σ := ev_go f_Ub_pegged_36 rfl
theorem f_Ub_pegged_38 : fetch 87 38 = some (.ifCond .eq 12) := by decide +kernel
theorem e_Ub_pegged_38 (a0 a1 a2 a3 a4 a5 a6 : AV) (σ : aM) (x : Int) (r : List AV) : ev 87 38 [a0, a1, a2, a3, a4, a5, a6] (aI x :: r) σ = if x = 0 then ev 87 50 [a0, a1, a2, a3, a4, a5, a6] r σ else ev 87 41 [a0, a1, a2, a3, a4, a5, a6] r σ := ev_br f_Ub_pegged_38 rfl bc_eq
theorem f_Ub_pegged_41 : fetch 87 41 = some (.aload_n 0) := by decide +kernel
theorem e_Ub_pegged_41 (a1 a2 a3 a4 a5 a6 : AV) (σ : aM) (l0 : Option (Nat × Int)) (r : List AV)  : ev 87 41 [aQ l0, a1, a2, a3, a4, a5, a6] (r) σ = ev 87 42 [aQ l0, a1, a2, a3, a4, a5, a6] (aQ l0 :: r) σ := ev_go f_Ub_pegged_41 rfl
theorem f_Ub_pegged_42 : fetch 87 42 = some (.iload 6) := by decide +kernel
theorem e_Ub_pegged_42 (a0 a1 a2 a3 a4 a5 : AV) (σ : aM) (l6 : Int) (r : List AV)  : ev 87 42 [a0, a1, a2, a3, a4, a5, aI l6] (r) σ = ev 87 44 [a0, a1, a2, a3, a4, a5, aI l6] (aI l6 :: r) σ := ev_go f_Ub_pegged_42 rfl
theorem f_Ub_pegged_44 : fetch 87 44 = some (.invokevirtual 71) := by decide +kernel
theorem e_Ub_pegged_44 (a0 a1 a2 a3 a4 a5 a6 : AV) (σ : aM) (s0 : Int) (s1 : Int) : ev 87 44 [a0, a1, a2, a3, a4, a5, a6] [aI s1, aR 0 s0] σ = evK 87 47 [a0, a1, a2, a3, a4, a5, a6] [] (ev 113 0 [aR 0 s0, aI s1] [] σ) := ev_call f_Ub_pegged_44 rfl rfl
theorem f_Ub_pegged_47 : fetch 87 47 = some (.goto 18) := by decide +kernel
theorem e_Ub_pegged_47 (a0 a1 a2 a3 a4 a5 a6 : AV) (σ : aM) (r : List AV)  : ev 87 47 [a0, a1, a2, a3, a4, a5, a6] (r) σ = ev 87 65 [a0, a1, a2, a3, a4, a5, a6] (r) σ := ev_go f_Ub_pegged_47 rfl
theorem f_Ub_pegged_50 : fetch 87 50 = some (.aload_n 0) := by decide +kernel
theorem e_Ub_pegged_50 (a1 a2 a3 a4 a5 a6 : AV) (σ : aM) (l0 : Option (Nat × Int)) (r : List AV)  : ev 87 50 [aQ l0, a1, a2, a3, a4, a5, a6] (r) σ = ev 87 51 [aQ l0, a1, a2, a3, a4, a5, a6] (aQ l0 :: r) σ := ev_go f_Ub_pegged_50 rfl
theorem f_Ub_pegged_51 : fetch 87 51 = some (.getfield 22) := by decide +kernel
theorem e_Ub_pegged_51 (a0 a1 a2 a3 a4 a5 a6 : AV) (σ : aM) (i : Int) (r : List AV)  : ev 87 51 [a0, a1, a2, a3, a4, a5, a6] (aR 0 i :: r) σ = ev 87 54 [a0, a1, a2, a3, a4, a5, a6] (aR 5 0 :: r) σ := ev_go f_Ub_pegged_51 rfl
theorem f_Ub_pegged_54 : fetch 87 54 = some (.iconst 3) := by decide +kernel
theorem e_Ub_pegged_54 (a0 a1 a2 a3 a4 a5 a6 : AV) (σ : aM) (r : List AV)  : ev 87 54 [a0, a1, a2, a3, a4, a5, a6] (r) σ = ev 87 55 [a0, a1, a2, a3, a4, a5, a6] (aI 3 :: r) σ := ev_go f_Ub_pegged_54 rfl
theorem f_Ub_pegged_55 : fetch 87 55 = some (.iload_n 1) := by decide +kernel
theorem e_Ub_pegged_55 (a0 a2 a3 a4 a5 a6 : AV) (σ : aM) (l1 : Int) (r : List AV)  : ev 87 55 [a0, aI l1, a2, a3, a4, a5, a6] (r) σ = ev 87 56 [a0, aI l1, a2, a3, a4, a5, a6] (aI l1 :: r) σ := ev_go f_Ub_pegged_55 rfl
theorem f_Ub_pegged_56 : fetch 87 56 = some (.iload_n 2) := by decide +kernel
theorem e_Ub_pegged_56 (a0 a1 a3 a4 a5 a6 : AV) (σ : aM) (l2 : Int) (r : List AV)  : ev 87 56 [a0, a1, aI l2, a3, a4, a5, a6] (r) σ = ev 87 57 [a0, a1, aI l2, a3, a4, a5, a6] (aI l2 :: r) σ := ev_go f_Ub_pegged_56 rfl
theorem f_Ub_pegged_57 : fetch 87 57 = some (.iload_n 3) := by decide +kernel
theorem e_Ub_pegged_57 (a0 a1 a2 a4 a5 a6 : AV) (σ : aM) (l3 : Int) (r : List AV)  : ev 87 57 [a0, a1, a2, aI l3, a4, a5, a6] (r) σ = ev 87 58 [a0, a1, a2, aI l3, a4, a5, a6] (aI l3 :: r) σ := ev_go f_Ub_pegged_57 rfl
theorem f_Ub_pegged_58 : fetch 87 58 = some (.iconst 0) := by decide +kernel
theorem e_Ub_pegged_58 (a0 a1 a2 a3 a4 a5 a6 : AV) (σ : aM) (r : List AV)  : ev 87 58 [a0, a1, a2, a3, a4, a5, a6] (r) σ = ev 87 59 [a0, a1, a2, a3, a4, a5, a6] (aI 0 :: r) σ := ev_go f_Ub_pegged_58 rfl
theorem f_Ub_pegged_59 : fetch 87 59 = some (.iload 4) := by decide +kernel
theorem e_Ub_pegged_59 (a0 a1 a2 a3 a5 a6 : AV) (σ : aM) (l4 : Int) (r : List AV)  : ev 87 59 [a0, a1, a2, a3, aI l4, a5, a6] (r) σ = ev 87 61 [a0, a1, a2, a3, aI l4, a5, a6] (aI l4 :: r) σ := ev_go f_Ub_pegged_59 rfl
theorem f_Ub_pegged_61 : fetch 87 61 = some (.iconst 0) := by decide +kernel
theorem e_Ub_pegged_61 (a0 a1 a2 a3 a4 a5 a6 : AV) (σ : aM) (r : List AV)  : ev 87 61 [a0, a1, a2, a3, a4, a5, a6] (r) σ = ev 87 62 [a0, a1, a2, a3, a4, a5, a6] (aI 0 :: r) σ := ev_go f_Ub_pegged_61 rfl
theorem f_Ub_pegged_62 : fetch 87 62 = some (.invokevirtual 150) := by decide +kernel
theorem e_Ub_pegged_62 (a0 a1 a2 a3 a4 a5 a6 : AV) (σ : aM) (s0 : Int) (s1 : Int) (s2 : Int) (s3 : Int) (s4 : Int) (s5 : Int) (s6 : Int) (s7 : Int) : ev 87 62 [a0, a1, a2, a3, a4, a5, a6] [aI s7, aI s6, aI s5, aI s4, aI s3, aI s2, aI s1, aR 5 s0] σ = evK 87 65 [a0, a1, a2, a3, a4, a5, a6] [] (ev 14 0 [aR 5 s0, aI s1, aI s2, aI s3, aI s4, aI s5, aI s6, aI s7, aU] [] σ) := ev_call f_Ub_pegged_62 rfl rfl
theorem f_Ub_pegged_65 : fetch 87 65 = some (.ireturn) := by decide +kernel
theorem e_Ub_pegged_65 (a0 a1 a2 a3 a4 a5 a6 : AV) (σ : aM) (x : Int) : ev 87 65 [a0, a1, a2, a3, a4, a5, a6] [aI x] σ = some ((some (aI x)), σ) := ev_ret f_Ub_pegged_65 rfl
theorem f_Ub_halt_0 : fetch 88 0 = some (.iload_n 3) := by decide +kernel
theorem e_Ub_halt_0 (a0 a1 a2 a4 a5 a6 : AV) (σ : aM) (l3 : Int) (r : List AV)  : ev 88 0 [a0, a1, a2, aI l3, a4, a5, a6] (r) σ = ev 88 1 [a0, a1, a2, aI l3, a4, a5, a6] (aI l3 :: r) σ := ev_go f_Ub_halt_0 rfl
theorem f_Ub_halt_1 : fetch 88 1 = some (.invokestatic 143) := by decide +kernel
theorem e_Ub_halt_1 (a0 a1 a2 a3 a4 a5 a6 : AV) (σ : aM) (s0 : Int) : ev 88 1 [a0, a1, a2, a3, a4, a5, a6] [aI s0] σ = evK 88 4 [a0, a1, a2, a3, a4, a5, a6] [] (ev 120 0 [aI s0] [] σ) := ev_call f_Ub_halt_1 rfl rfl
theorem f_Ub_halt_4 : fetch 88 4 = some (.ifCond .eq 15) := by decide +kernel
theorem e_Ub_halt_4 (a0 a1 a2 a3 a4 a5 a6 : AV) (σ : aM) (x : Int) (r : List AV) : ev 88 4 [a0, a1, a2, a3, a4, a5, a6] (aI x :: r) σ = if x = 0 then ev 88 19 [a0, a1, a2, a3, a4, a5, a6] r σ else ev 88 7 [a0, a1, a2, a3, a4, a5, a6] r σ := ev_br f_Ub_halt_4 rfl bc_eq
theorem f_Ub_halt_7 : fetch 88 7 = some (.iload 4) := by decide +kernel
theorem e_Ub_halt_7 (a0 a1 a2 a3 a5 a6 : AV) (σ : aM) (l4 : Int) (r : List AV)  : ev 88 7 [a0, a1, a2, a3, aI l4, a5, a6] (r) σ = ev 88 9 [a0, a1, a2, a3, aI l4, a5, a6] (aI l4 :: r) σ := ev_go f_Ub_halt_7 rfl
theorem f_Ub_halt_9 : fetch 88 9 = some (.invokestatic 143) := by decide +kernel
theorem e_Ub_halt_9 (a0 a1 a2 a3 a4 a5 a6 : AV) (σ : aM) (s0 : Int) : ev 88 9 [a0, a1, a2, a3, a4, a5, a6] [aI s0] σ = evK 88 12 [a0, a1, a2, a3, a4, a5, a6] [] (ev 120 0 [aI s0] [] σ) := ev_call f_Ub_halt_9 rfl rfl
theorem f_Ub_halt_12 : fetch 88 12 = some (.ifCond .eq 7) := by decide +kernel
theorem e_Ub_halt_12 (a0 a1 a2 a3 a4 a5 a6 : AV) (σ : aM) (x : Int) (r : List AV) : ev 88 12 [a0, a1, a2, a3, a4, a5, a6] (aI x :: r) σ = if x = 0 then ev 88 19 [a0, a1, a2, a3, a4, a5, a6] r σ else ev 88 15 [a0, a1, a2, a3, a4, a5, a6] r σ := ev_br f_Ub_halt_12 rfl bc_eq
theorem f_Ub_halt_15 : fetch 88 15 = some (.iconst 1) := by decide +kernel
theorem e_Ub_halt_15 (a0 a1 a2 a3 a4 a5 a6 : AV) (σ : aM) (r : List AV)  : ev 88 15 [a0, a1, a2, a3, a4, a5, a6] (r) σ = ev 88 16 [a0, a1, a2, a3, a4, a5, a6] (aI 1 :: r) σ := ev_go f_Ub_halt_15 rfl
theorem f_Ub_halt_16 : fetch 88 16 = some (.goto 4) := by decide +kernel
theorem e_Ub_halt_16 (a0 a1 a2 a3 a4 a5 a6 : AV) (σ : aM) (r : List AV)  : ev 88 16 [a0, a1, a2, a3, a4, a5, a6] (r) σ = ev 88 20 [a0, a1, a2, a3, a4, a5, a6] (r) σ := ev_go f_Ub_halt_16 rfl
theorem f_Ub_halt_19 : fetch 88 19 = some (.iconst 0) := by decide +kernel
theorem e_Ub_halt_19 (a0 a1 a2 a3 a4 a5 a6 : AV) (σ : aM) (r : List AV)  : ev 88 19 [a0, a1, a2, a3, a4, a5, a6] (r) σ = ev 88 20 [a0, a1, a2, a3, a4, a5, a6] (aI 0 :: r) σ := ev_go f_Ub_halt_19 rfl
theorem f_Ub_halt_20 : fetch 88 20 = some (.istore 5) := by decide +kernel
theorem e_Ub_halt_20 (a0 a1 a2 a3 a5 a6 : AV) (σ : aM) (x : Int) (l4 : Int) (r : List AV)  : ev 88 20 [a0, a1, a2, a3, aI l4, a5, a6] (aI x :: r) σ = ev 88 22 [a0, a1, a2, a3, aI l4, aI x, a6] (r) σ := ev_go f_Ub_halt_20 rfl
theorem f_Ub_halt_22 : fetch 88 22 = some (.aload_n 0) := by decide +kernel
theorem e_Ub_halt_22 (a1 a2 a3 a4 a5 a6 : AV) (σ : aM) (l0 : Option (Nat × Int)) (r : List AV)  : ev 88 22 [aQ l0, a1, a2, a3, a4, a5, a6] (r) σ = ev 88 23 [aQ l0, a1, a2, a3, a4, a5, a6] (aQ l0 :: r) σ := ev_go f_Ub_halt_22 rfl
theorem f_Ub_halt_23 : fetch 88 23 = some (.iload_n 1) := by decide +kernel
theorem e_Ub_halt_23 (a0 a2 a3 a4 a5 a6 : AV) (σ : aM) (l1 : Int) (r : List AV)  : ev 88 23 [a0, aI l1, a2, a3, a4, a5, a6] (r) σ = ev 88 24 [a0, aI l1, a2, a3, a4, a5, a6] (aI l1 :: r) σ := ev_go f_Ub_halt_23 rfl
theorem f_Ub_halt_24 : fetch 88 24 = some (.iload_n 2) := by decide +kernel
theorem e_Ub_halt_24 (a0 a1 a3 a4 a5 a6 : AV) (σ : aM) (l2 : Int) (r : List AV)  : ev 88 24 [a0, a1, aI l2, a3, a4, a5, a6] (r) σ = ev 88 25 [a0, a1, aI l2, a3, a4, a5, a6] (aI l2 :: r) σ := ev_go f_Ub_halt_24 rfl
theorem f_Ub_halt_25 : fetch 88 25 = some (.iload 5) := by decide +kernel
theorem e_Ub_halt_25 (a0 a1 a2 a3 a4 a6 : AV) (σ : aM) (l5 : Int) (r : List AV)  : ev 88 25 [a0, a1, a2, a3, a4, aI l5, a6] (r) σ = ev 88 27 [a0, a1, a2, a3, a4, aI l5, a6] (aI l5 :: r) σ := ev_go f_Ub_halt_25 rfl
theorem f_Ub_halt_27 : fetch 88 27 = some (.invokevirtual 146) := by decide +kernel
theorem e_Ub_halt_27 (a0 a1 a2 a3 a4 a5 a6 : AV) (σ : aM) (s0 : Int) (s1 : Int) (s2 : Int) (s3 : Int) : ev 88 27 [a0, a1, a2, a3, a4, a5, a6] [aI s3, aI s2, aI s1, aR 0 s0] σ = evK 88 30 [a0, a1, a2, a3, a4, a5, a6] [] (ev 116 0 [aR 0 s0, aI s1, aI s2, aI s3] [] σ) := ev_call f_Ub_halt_27 rfl rfl
theorem f_Ub_halt_30 : fetch 88 30 = some (.istore 6) := by decide +kernel
theorem e_Ub_halt_30 (a0 a1 a2 a3 a4 a6 : AV) (σ : aM) (x : Int) (l5 : Int) (r : List AV)  : ev 88 30 [a0, a1, a2, a3, a4, aI l5, a6] (aI x :: r) σ = ev 88 32 [a0, a1, a2, a3, a4, aI l5, aI x] (r) σ := ev_go f_Ub_halt_30 rfl
theorem f_Ub_halt_32 : fetch 88 32 = some (.iload 6) := by decide +kernel
theorem e_Ub_halt_32 (a0 a1 a2 a3 a4 a5 : AV) (σ : aM) (l6 : Int) (r : List AV)  : ev 88 32 [a0, a1, a2, a3, a4, a5, aI l6] (r) σ = ev 88 34 [a0, a1, a2, a3, a4, a5, aI l6] (aI l6 :: r) σ := ev_go f_Ub_halt_32 rfl
theorem f_Ub_halt_34 : fetch 88 34 = some (.ifCond .eq 12) := by decide +kernel
theorem e_Ub_halt_34 (a0 a1 a2 a3 a4 a5 a6 : AV) (σ : aM) (x : Int) (r : List AV) : ev 88 34 [a0, a1, a2, a3, a4, a5, a6] (aI x :: r) σ = if x = 0 then ev 88 46 [a0, a1, a2, a3, a4, a5, a6] r σ else ev 88 37 [a0, a1, a2, a3, a4, a5, a6] r σ := ev_br f_Ub_halt_34 rfl bc_eq
theorem f_Ub_halt_37 : fetch 88 37 = some (.aload_n 0) := by decide +kernel
theorem e_Ub_halt_37 (a1 a2 a3 a4 a5 a6 : AV) (σ : aM) (l0 : Option (Nat × Int)) (r : List AV)  : ev 88 37 [aQ l0, a1, a2, a3, a4, a5, a6] (r) σ = ev 88 38 [aQ l0, a1, a2, a3, a4, a5, a6] (aQ l0 :: r) σ := ev_go f_Ub_halt_37 rfl
theorem f_Ub_halt_38 : fetch 88 38 = some (.iload 6) := by decide +kernel
theorem e_Ub_halt_38 (a0 a1 a2 a3 a4 a5 : AV) (σ : aM) (l6 : Int) (r : List AV)  : ev 88 38 [a0, a1, a2, a3, a4, a5, aI l6] (r) σ = ev 88 40 [a0, a1, a2, a3, a4, a5, aI l6] (aI l6 :: r) σ := ev_go f_Ub_halt_38 rfl
theorem f_Ub_halt_40 : fetch 88 40 = some (.invokevirtual 71) := by decide +kernel
theorem e_Ub_halt_40 (a0 a1 a2 a3 a4 a5 a6 : AV) (σ : aM) (s0 : Int) (s1 : Int) : ev 88 40 [a0, a1, a2, a3, a4, a5, a6] [aI s1, aR 0 s0] σ = evK 88 43 [a0, a1, a2, a3, a4, a5, a6] [] (ev 113 0 [aR 0 s0, aI s1] [] σ) := ev_call f_Ub_halt_40 rfl rfl
theorem f_Ub_halt_43 : fetch 88 43 = some (.goto 18) := by decide +kernel
theorem e_Ub_halt_43 (a0 a1 a2 a3 a4 a5 a6 : AV) (σ : aM) (r : List AV)  : ev 88 43 [a0, a1, a2, a3, a4, a5, a6] (r) σ = ev 88 61 [a0, a1, a2, a3, a4, a5, a6] (r) σ := ev_go f_Ub_halt_43 rfl
theorem f_Ub_halt_46 : fetch 88 46 = some (.aload_n 0) := by decide +kernel
theorem e_Ub_halt_46 (a1 a2 a3 a4 a5 a6 : AV) (σ : aM) (l0 : Option (Nat × Int)) (r : List AV)  : ev 88 46 [aQ l0, a1, a2, a3, a4, a5, a6] (r) σ = ev 88 47 [aQ l0, a1, a2, a3, a4, a5, a6] (aQ l0 :: r) σ := ev_go f_Ub_halt_46 rfl
theorem f_Ub_halt_47 : fetch 88 47 = some (.getfield 22) := by decide +kernel
theorem e_Ub_halt_47 (a0 a1 a2 a3 a4 a5 a6 : AV) (σ : aM) (i : Int) (r : List AV)  : ev 88 47 [a0, a1, a2, a3, a4, a5, a6] (aR 0 i :: r) σ = ev 88 50 [a0, a1, a2, a3, a4, a5, a6] (aR 5 0 :: r) σ := ev_go f_Ub_halt_47 rfl
theorem f_Ub_halt_50 : fetch 88 50 = some (.iconst 4) := by decide +kernel
theorem e_Ub_halt_50 (a0 a1 a2 a3 a4 a5 a6 : AV) (σ : aM) (r : List AV)  : ev 88 50 [a0, a1, a2, a3, a4, a5, a6] (r) σ = ev 88 51 [a0, a1, a2, a3, a4, a5, a6] (aI 4 :: r) σ := ev_go f_Ub_halt_50 rfl
theorem f_Ub_halt_51 : fetch 88 51 = some (.iload_n 1) := by decide +kernel
theorem e_Ub_halt_51 (a0 a2 a3 a4 a5 a6 : AV) (σ : aM) (l1 : Int) (r : List AV)  : ev 88 51 [a0, aI l1, a2, a3, a4, a5, a6] (r) σ = ev 88 52 [a0, aI l1, a2, a3, a4, a5, a6] (aI l1 :: r) σ := ev_go f_Ub_halt_51 rfl
theorem f_Ub_halt_52 : fetch 88 52 = some (.iload_n 2) := by decide +kernel
theorem e_Ub_halt_52 (a0 a1 a3 a4 a5 a6 : AV) (σ : aM) (l2 : Int) (r : List AV)  : ev 88 52 [a0, a1, aI l2, a3, a4, a5, a6] (r) σ = ev 88 53 [a0, a1, aI l2, a3, a4, a5, a6] (aI l2 :: r) σ := ev_go f_Ub_halt_52 rfl
theorem f_Ub_halt_53 : fetch 88 53 = some (.iload_n 3) := by decide +kernel
theorem e_Ub_halt_53 (a0 a1 a2 a4 a5 a6 : AV) (σ : aM) (l3 : Int) (r : List AV)  : ev 88 53 [a0, a1, a2, aI l3, a4, a5, a6] (r) σ = ev 88 54 [a0, a1, a2, aI l3, a4, a5, a6] (aI l3 :: r) σ := ev_go f_Ub_halt_53 rfl
theorem f_Ub_halt_54 : fetch 88 54 = some (.iload 4) := by decide +kernel
theorem e_Ub_halt_54 (a0 a1 a2 a3 a5 a6 : AV) (σ : aM) (l4 : Int) (r : List AV)  : ev 88 54 [a0, a1, a2, a3, aI l4, a5, a6] (r) σ = ev 88 56 [a0, a1, a2, a3, aI l4, a5, a6] (aI l4 :: r) σ := ev_go f_Ub_halt_54 rfl
theorem f_Ub_halt_56 : fetch 88 56 = some (.iconst 0) := by decide +kernel
theorem e_Ub_halt_56 (a0 a1 a2 a3 a4 a5 a6 : AV) (σ : aM) (r : List AV)  : ev 88 56 [a0, a1, a2, a3, a4, a5, a6] (r) σ = ev 88 57 [a0, a1, a2, a3, a4, a5, a6] (aI 0 :: r) σ := ev_go f_Ub_halt_56 rfl
theorem f_Ub_halt_57 : fetch 88 57 = some (.iconst 0) := by decide +kernel
theorem e_Ub_halt_57 (a0 a1 a2 a3 a4 a5 a6 : AV) (σ : aM) (r : List AV)  : ev 88 57 [a0, a1, a2, a3, a4, a5, a6] (r) σ = ev 88 58 [a0, a1, a2, a3, a4, a5, a6] (aI 0 :: r) σ := ev_go f_Ub_halt_57 rfl
theorem f_Ub_halt_58 : fetch 88 58 = some (.invokevirtual 150) := by decide +kernel
theorem e_Ub_halt_58 (a0 a1 a2 a3 a4 a5 a6 : AV) (σ : aM) (s0 : Int) (s1 : Int) (s2 : Int) (s3 : Int) (s4 : Int) (s5 : Int) (s6 : Int) (s7 : Int) : ev 88 58 [a0, a1, a2, a3, a4, a5, a6] [aI s7, aI s6, aI s5, aI s4, aI s3, aI s2, aI s1, aR 5 s0] σ = evK 88 61 [a0, a1, a2, a3, a4, a5, a6] [] (ev 14 0 [aR 5 s0, aI s1, aI s2, aI s3, aI s4, aI s5, aI s6, aI s7, aU] [] σ) := ev_call f_Ub_halt_58 rfl rfl
theorem f_Ub_halt_61 : fetch 88 61 = some (.ireturn) := by decide +kernel
theorem e_Ub_halt_61 (a0 a1 a2 a3 a4 a5 a6 : AV) (σ : aM) (x : Int) : ev 88 61 [a0, a1, a2, a3, a4, a5, a6] [aI x] σ = some ((some (aI x)), σ) := ev_ret f_Ub_halt_61 rfl
theorem f_Ub_market_0 : fetch 89 0 = some (.iload_n 1) := by decide +kernel
theorem e_Ub_market_0 (a0 a2 a3 : AV) (σ : aM) (l1 : Int) (r : List AV)  : ev 89 0 [a0, aI l1, a2, a3] (r) σ = ev 89 1 [a0, aI l1, a2, a3] (aI l1 :: r) σ := ev_go f_Ub_market_0 rfl
theorem f_Ub_market_1 : fetch 89 1 = some (.invokestatic 154) := by decide +kernel
theorem e_Ub_market_1 (a0 a1 a2 a3 : AV) (σ : aM) (s0 : Int) : ev 89 1 [a0, a1, a2, a3] [aI s0] σ = evK 89 4 [a0, a1, a2, a3] [] (ev 118 0 [aI s0] [] σ) := ev_call f_Ub_market_1 rfl rfl
theorem f_Ub_market_4 : fetch 89 4 = some (.ifCond .eq 10) := by decide +kernel
theorem e_Ub_market_4 (a0 a1 a2 a3 : AV) (σ : aM) (x : Int) (r : List AV) : ev 89 4 [a0, a1, a2, a3] (aI x :: r) σ = if x = 0 then ev 89 14 [a0, a1, a2, a3] r σ else ev 89 7 [a0, a1, a2, a3] r σ := ev_br f_Ub_market_4 rfl bc_eq
theorem f_Ub_market_7 : fetch 89 7 = some (.iload_n 2) := by decide +kernel
theorem e_Ub_market_7 (a0 a1 a3 : AV) (σ : aM) (l2 : Int) (r : List AV)  : ev 89 7 [a0, a1, aI l2, a3] (r) σ = ev 89 8 [a0, a1, aI l2, a3] (aI l2 :: r) σ := ev_go f_Ub_market_7 rfl
theorem f_Ub_market_8 : fetch 89 8 = some (.invokestatic 157) := by decide +kernel
theorem e_Ub_market_8 (a0 a1 a2 a3 : AV) (σ : aM) (s0 : Int) : ev 89 8 [a0, a1, a2, a3] [aI s0] σ = evK 89 11 [a0, a1, a2, a3] [] (ev 119 0 [aI s0] [] σ) := ev_call f_Ub_market_8 rfl rfl
theorem f_Ub_market_11 : fetch 89 11 = some (.ifCond .ne 9) := by decide +kernel
theorem e_Ub_market_11 (a0 a1 a2 a3 : AV) (σ : aM) (x : Int) (r : List AV) : ev 89 11 [a0, a1, a2, a3] (aI x :: r) σ = if ¬ x = 0 then ev 89 20 [a0, a1, a2, a3] r σ else ev 89 14 [a0, a1, a2, a3] r σ := ev_br f_Ub_market_11 rfl bc_ne
theorem f_Ub_market_14 : fetch 89 14 = some (.aload_n 0) := by decide +kernel
theorem e_Ub_market_14 (a1 a2 a3 : AV) (σ : aM) (l0 : Option (Nat × Int)) (r : List AV)  : ev 89 14 [aQ l0, a1, a2, a3] (r) σ = ev 89 15 [aQ l0, a1, a2, a3] (aQ l0 :: r) σ := ev_go f_Ub_market_14 rfl
theorem f_Ub_market_15 : fetch 89 15 = some (.iconst (-1)) := by decide +kernel
theorem e_Ub_market_15 (a0 a1 a2 a3 : AV) (σ : aM) (r : List AV)  : ev 89 15 [a0, a1, a2, a3] (r) σ = ev 89 16 [a0, a1, a2, a3] (aI (-1) :: r) σ := ev_go f_Ub_market_15 rfl
theorem f_Ub_market_16 : fetch 89 16 = some (.invokevirtual 71) := by decide +kernel
theorem e_Ub_market_16 (a0 a1 a2 a3 : AV) (σ : aM) (s0 : Int) (s1 : Int) : ev 89 16 [a0, a1, a2, a3] [aI s1, aR 0 s0] σ = evK 89 19 [a0, a1, a2, a3] [] (ev 113 0 [aR 0 s0, aI s1] [] σ) := ev_call f_Ub_market_16 rfl rfl
theorem f_Ub_market_19 : fetch 89 19 = some (.ireturn) := by decide +kernel
theorem e_Ub_market_19 (a0 a1 a2 a3 : AV) (σ : aM) (x : Int) : ev 89 19 [a0, a1, a2, a3] [aI x] σ = some ((some (aI x)), σ) := ev_ret f_Ub_market_19 rfl
theorem f_Ub_market_20 : fetch 89 20 = some (.iload_n 3) := by decide +kernel
theorem e_Ub_market_20 (a0 a1 a2 : AV) (σ : aM) (l3 : Int) (r : List AV)  : ev 89 20 [a0, a1, a2, aI l3] (r) σ = ev 89 21 [a0, a1, a2, aI l3] (aI l3 :: r) σ := ev_go f_Ub_market_20 rfl
theorem f_Ub_market_21 : fetch 89 21 = some (.invokestatic 143) := by decide +kernel
theorem e_Ub_market_21 (a0 a1 a2 a3 : AV) (σ : aM) (s0 : Int) : ev 89 21 [a0, a1, a2, a3] [aI s0] σ = evK 89 24 [a0, a1, a2, a3] [] (ev 120 0 [aI s0] [] σ) := ev_call f_Ub_market_21 rfl rfl
theorem f_Ub_market_24 : fetch 89 24 = some (.ifCond .eq 14) := by decide +kernel
theorem e_Ub_market_24 (a0 a1 a2 a3 : AV) (σ : aM) (x : Int) (r : List AV) : ev 89 24 [a0, a1, a2, a3] (aI x :: r) σ = if x = 0 then ev 89 38 [a0, a1, a2, a3] r σ else ev 89 27 [a0, a1, a2, a3] r σ := ev_br f_Ub_market_24 rfl bc_eq
theorem f_Ub_market_27 : fetch 89 27 = some (.aload_n 0) := by decide +kernel
theorem e_Ub_market_27 (a1 a2 a3 : AV) (σ : aM) (l0 : Option (Nat × Int)) (r : List AV)  : ev 89 27 [aQ l0, a1, a2, a3] (r) σ = ev 89 28 [aQ l0, a1, a2, a3] (aQ l0 :: r) σ := ev_go f_Ub_market_27 rfl
theorem f_Ub_market_28 : fetch 89 28 = some (.getfield 30) := by decide +kernel
theorem e_Ub_market_28 (a0 a1 a2 a3 : AV) (σ : aM) (i : Int) (r : List AV)  : ev 89 28 [a0, a1, a2, a3] (aR 0 i :: r) σ = ev 89 31 [a0, a1, a2, a3] (aR 6 0 :: r) σ := ev_go f_Ub_market_28 rfl
theorem f_Ub_market_31 : fetch 89 31 = some (.getfield 160) := by decide +kernel
theorem e_Ub_market_31 (a0 a1 a2 a3 : AV) (σ : aM) (i : Int) (r : List AV)  : ev 89 31 [a0, a1, a2, a3] (aR 6 i :: r) σ = ev 89 34 [a0, a1, a2, a3] (aI (gI σ 6 i 3) :: r) σ := ev_go f_Ub_market_31 rfl
theorem f_Ub_market_34 : fetch 89 34 = some (.iconst 1) := by decide +kernel
theorem e_Ub_market_34 (a0 a1 a2 a3 : AV) (σ : aM) (r : List AV)  : ev 89 34 [a0, a1, a2, a3] (r) σ = ev 89 35 [a0, a1, a2, a3] (aI 1 :: r) σ := ev_go f_Ub_market_34 rfl
theorem f_Ub_market_35 : fetch 89 35 = some (.if_icmp .eq 10) := by decide +kernel
theorem e_Ub_market_35 (a0 a1 a2 a3 : AV) (σ : aM) (x z : Int) (r : List AV) : ev 89 35 [a0, a1, a2, a3] (aI z :: aI x :: r) σ = if x = z then ev 89 45 [a0, a1, a2, a3] r σ else ev 89 38 [a0, a1, a2, a3] r σ := ev_br f_Ub_market_35 rfl bc_eq
theorem f_Ub_market_38 : fetch 89 38 = some (.aload_n 0) := by decide +kernel
theorem e_Ub_market_38 (a1 a2 a3 : AV) (σ : aM) (l0 : Option (Nat × Int)) (r : List AV)  : ev 89 38 [aQ l0, a1, a2, a3] (r) σ = ev 89 39 [aQ l0, a1, a2, a3] (aQ l0 :: r) σ := ev_go f_Ub_market_38 rfl
theorem f_Ub_market_39 : fetch 89 39 = some (.bipush (-6)) := by decide +kernel
theorem e_Ub_market_39 (a0 a1 a2 a3 : AV) (σ : aM) (r : List AV)  : ev 89 39 [a0, a1, a2, a3] (r) σ = ev 89 41 [a0, a1, a2, a3] (aI (-6) :: r) σ := ev_go f_Ub_market_39 rfl
theorem f_Ub_market_41 : fetch 89 41 = some (.invokevirtual 71) := by decide +kernel
theorem e_Ub_market_41 (a0 a1 a2 a3 : AV) (σ : aM) (s0 : Int) (s1 : Int) : ev 89 41 [a0, a1, a2, a3] [aI s1, aR 0 s0] σ = evK 89 44 [a0, a1, a2, a3] [] (ev 113 0 [aR 0 s0, aI s1] [] σ) := ev_call f_Ub_market_41 rfl rfl
theorem f_Ub_market_44 : fetch 89 44 = some (.ireturn) := by decide +kernel
theorem e_Ub_market_44 (a0 a1 a2 a3 : AV) (σ : aM) (x : Int) : ev 89 44 [a0, a1, a2, a3] [aI x] σ = some ((some (aI x)), σ) := ev_ret f_Ub_market_44 rfl
theorem f_Ub_market_45 : fetch 89 45 = some (.aload_n 0) := by decide +kernel
theorem e_Ub_market_45 (a1 a2 a3 : AV) (σ : aM) (l0 : Option (Nat × Int)) (r : List AV)  : ev 89 45 [aQ l0, a1, a2, a3] (r) σ = ev 89 46 [aQ l0, a1, a2, a3] (aQ l0 :: r) σ := ev_go f_Ub_market_45 rfl
theorem f_Ub_market_46 : fetch 89 46 = some (.getfield 22) := by decide +kernel
theorem e_Ub_market_46 (a0 a1 a2 a3 : AV) (σ : aM) (i : Int) (r : List AV)  : ev 89 46 [a0, a1, a2, a3] (aR 0 i :: r) σ = ev 89 49 [a0, a1, a2, a3] (aR 5 0 :: r) σ := ev_go f_Ub_market_46 rfl
theorem f_Ub_market_49 : fetch 89 49 = some (.iload_n 1) := by decide +kernel
theorem e_Ub_market_49 (a0 a2 a3 : AV) (σ : aM) (l1 : Int) (r : List AV)  : ev 89 49 [a0, aI l1, a2, a3] (r) σ = ev 89 50 [a0, aI l1, a2, a3] (aI l1 :: r) σ := ev_go f_Ub_market_49 rfl
theorem f_Ub_market_50 : fetch 89 50 = some (.iload_n 2) := by decide +kernel
theorem e_Ub_market_50 (a0 a1 a3 : AV) (σ : aM) (l2 : Int) (r : List AV)  : ev 89 50 [a0, a1, aI l2, a3] (r) σ = ev 89 51 [a0, a1, aI l2, a3] (aI l2 :: r) σ := ev_go f_Ub_market_50 rfl
theorem f_Ub_market_51 : fetch 89 51 = some (.iload_n 3) := by decide +kernel
theorem e_Ub_market_51 (a0 a1 a2 : AV) (σ : aM) (l3 : Int) (r : List AV)  : ev 89 51 [a0, a1, a2, aI l3] (r) σ = ev 89 52 [a0, a1, a2, aI l3] (aI l3 :: r) σ := ev_go f_Ub_market_51 rfl
theorem f_Ub_market_52 : fetch 89 52 = some (.invokevirtual 163) := by decide +kernel
theorem e_Ub_market_52 (a0 a1 a2 a3 : AV) (σ : aM) (s0 : Int) (s1 : Int) (s2 : Int) (s3 : Int) : ev 89 52 [a0, a1, a2, a3] [aI s3, aI s2, aI s1, aR 5 s0] σ = evK 89 55 [a0, a1, a2, a3] [] (ev 15 0 [aR 5 s0, aI s1, aI s2, aI s3] [] σ) := ev_call f_Ub_market_52 rfl rfl
theorem f_Ub_market_55 : fetch 89 55 = some (.ireturn) := by decide +kernel
theorem e_Ub_market_55 (a0 a1 a2 a3 : AV) (σ : aM) (x : Int) : ev 89 55 [a0, a1, a2, a3] [aI x] σ = some ((some (aI x)), σ) := ev_ret f_Ub_market_55 rfl
theorem f_Ub_read_0 : fetch 90 0 = some (.aload_n 0) := by decide +kernel
theorem e_Ub_read_0 (a1 a2 a3 a4 : AV) (σ : aM) (l0 : Option (Nat × Int)) (r : List AV)  : ev 90 0 [aQ l0, a1, a2, a3, a4] (r) σ = ev 90 1 [aQ l0, a1, a2, a3, a4] (aQ l0 :: r) σ := ev_go f_Ub_read_0 rfl
theorem f_Ub_read_1 : fetch 90 1 = some (.iload_n 1) := by decide +kernel
theorem e_Ub_read_1 (a0 a2 a3 a4 : AV) (σ : aM) (l1 : Int) (r : List AV)  : ev 90 1 [a0, aI l1, a2, a3, a4] (r) σ = ev 90 2 [a0, aI l1, a2, a3, a4] (aI l1 :: r) σ := ev_go f_Ub_read_1 rfl
theorem f_Ub_read_2 : fetch 90 2 = some (.invokevirtual 79) := by decide +kernel
theorem e_Ub_read_2 (a0 a1 a2 a3 a4 : AV) (σ : aM) (s0 : Int) (s1 : Int) : ev 90 2 [a0, a1, a2, a3, a4] [aI s1, aR 0 s0] σ = evK 90 5 [a0, a1, a2, a3, a4] [] (ev 115 0 [aR 0 s0, aI s1] [] σ) := ev_call f_Ub_read_2 rfl rfl
theorem f_Ub_read_5 : fetch 90 5 = some (.istore_n 2) := by decide +kernel
theorem e_Ub_read_5 (a0 a2 a3 a4 : AV) (σ : aM) (x : Int) (l1 : Int) (r : List AV)  : ev 90 5 [a0, aI l1, a2, a3, a4] (aI x :: r) σ = ev 90 6 [a0, aI l1, aI x, a3, a4] (r) σ := ev_go f_Ub_read_5 rfl
theorem f_Ub_read_6 : fetch 90 6 = some (.iload_n 2) := by decide +kernel
theorem e_Ub_read_6 (a0 a1 a3 a4 : AV) (σ : aM) (l2 : Int) (r : List AV)  : ev 90 6 [a0, a1, aI l2, a3, a4] (r) σ = ev 90 7 [a0, a1, aI l2, a3, a4] (aI l2 :: r) σ := ev_go f_Ub_read_6 rfl
theorem f_Ub_read_7 : fetch 90 7 = some (.ifCond .eq 9) := by decide +kernel
theorem e_Ub_read_7 (a0 a1 a2 a3 a4 : AV) (σ : aM) (x : Int) (r : List AV) : ev 90 7 [a0, a1, a2, a3, a4] (aI x :: r) σ = if x = 0 then ev 90 16 [a0, a1, a2, a3, a4] r σ else ev 90 10 [a0, a1, a2, a3, a4] r σ := ev_br f_Ub_read_7 rfl bc_eq
theorem f_Ub_read_10 : fetch 90 10 = some (.aload_n 0) := by decide +kernel
theorem e_Ub_read_10 (a1 a2 a3 a4 : AV) (σ : aM) (l0 : Option (Nat × Int)) (r : List AV)  : ev 90 10 [aQ l0, a1, a2, a3, a4] (r) σ = ev 90 11 [aQ l0, a1, a2, a3, a4] (aQ l0 :: r) σ := ev_go f_Ub_read_10 rfl
theorem f_Ub_read_11 : fetch 90 11 = some (.iload_n 2) := by decide +kernel
theorem e_Ub_read_11 (a0 a1 a3 a4 : AV) (σ : aM) (l2 : Int) (r : List AV)  : ev 90 11 [a0, a1, aI l2, a3, a4] (r) σ = ev 90 12 [a0, a1, aI l2, a3, a4] (aI l2 :: r) σ := ev_go f_Ub_read_11 rfl
theorem f_Ub_read_12 : fetch 90 12 = some (.invokevirtual 71) := by decide +kernel
theorem e_Ub_read_12 (a0 a1 a2 a3 a4 : AV) (σ : aM) (s0 : Int) (s1 : Int) : ev 90 12 [a0, a1, a2, a3, a4] [aI s1, aR 0 s0] σ = evK 90 15 [a0, a1, a2, a3, a4] [] (ev 113 0 [aR 0 s0, aI s1] [] σ) := ev_call f_Ub_read_12 rfl rfl
theorem f_Ub_read_15 : fetch 90 15 = some (.ireturn) := by decide +kernel
theorem e_Ub_read_15 (a0 a1 a2 a3 a4 : AV) (σ : aM) (x : Int) : ev 90 15 [a0, a1, a2, a3, a4] [aI x] σ = some ((some (aI x)), σ) := ev_ret f_Ub_read_15 rfl
theorem f_Ub_read_16 : fetch 90 16 = some (.aload_n 0) := by decide +kernel
theorem e_Ub_read_16 (a1 a2 a3 a4 : AV) (σ : aM) (l0 : Option (Nat × Int)) (r : List AV)  : ev 90 16 [aQ l0, a1, a2, a3, a4] (r) σ = ev 90 17 [aQ l0, a1, a2, a3, a4] (aQ l0 :: r) σ := ev_go f_Ub_read_16 rfl
theorem f_Ub_read_17 : fetch 90 17 = some (.aload_n 0) := by decide +kernel
theorem e_Ub_read_17 (a1 a2 a3 a4 : AV) (σ : aM) (l0 : Option (Nat × Int)) (r : List AV)  : ev 90 17 [aQ l0, a1, a2, a3, a4] (r) σ = ev 90 18 [aQ l0, a1, a2, a3, a4] (aQ l0 :: r) σ := ev_go f_Ub_read_17 rfl
theorem f_Ub_read_18 : fetch 90 18 = some (.getfield 48) := by decide +kernel
theorem e_Ub_read_18 (a0 a1 a2 a3 a4 : AV) (σ : aM) (i : Int) (r : List AV)  : ev 90 18 [a0, a1, a2, a3, a4] (aR 0 i :: r) σ = ev 90 21 [a0, a1, a2, a3, a4] (aR 19 0 :: r) σ := ev_go f_Ub_read_18 rfl
theorem f_Ub_read_21 : fetch 90 21 = some (.aload_n 0) := by decide +kernel
theorem e_Ub_read_21 (a1 a2 a3 a4 : AV) (σ : aM) (l0 : Option (Nat × Int)) (r : List AV)  : ev 90 21 [aQ l0, a1, a2, a3, a4] (r) σ = ev 90 22 [aQ l0, a1, a2, a3, a4] (aQ l0 :: r) σ := ev_go f_Ub_read_21 rfl
theorem f_Ub_read_22 : fetch 90 22 = some (.getfield 11) := by decide +kernel
theorem e_Ub_read_22 (a0 a1 a2 a3 a4 : AV) (σ : aM) (i : Int) (r : List AV)  : ev 90 22 [a0, a1, a2, a3, a4] (aR 0 i :: r) σ = ev 90 25 [a0, a1, a2, a3, a4] (aR 1 0 :: r) σ := ev_go f_Ub_read_22 rfl
theorem f_Ub_read_25 : fetch 90 25 = some (.iload_n 1) := by decide +kernel
theorem e_Ub_read_25 (a0 a2 a3 a4 : AV) (σ : aM) (l1 : Int) (r : List AV)  : ev 90 25 [a0, aI l1, a2, a3, a4] (r) σ = ev 90 26 [a0, aI l1, a2, a3, a4] (aI l1 :: r) σ := ev_go f_Ub_read_25 rfl
theorem f_Ub_read_26 : fetch 90 26 = some (.aaload) := by decide +kernel
theorem e_Ub_read_26 (a0 a1 a2 a3 a4 : AV) (σ : aM) (x : Int) (i : Int) (r : List AV) (h : 0 ≤ x ∧ x < 8) : ev 90 26 [a0, a1, a2, a3, a4] (aI x :: aR 1 i :: r) σ = ev 90 27 [a0, a1, a2, a3, a4] (aR 2 x :: r) σ := ev_cd f_Ub_read_26 rfl ⟨by decide, by decide, h.1, by rw [aLen_n (by decide) rfl]; exact h.2⟩
theorem f_Ub_read_27 : fetch 90 27 = some (.invokevirtual 167) := by decide +kernel
theorem e_Ub_read_27 (a0 a1 a2 a3 a4 : AV) (σ : aM) (s0 : Option (Nat × Int)) (s1 : Int) (s2 : Option (Nat × Int)) : ev 90 27 [a0, a1, a2, a3, a4] [aQ s2, aR 19 s1, aQ s0] σ = evK 90 30 [a0, a1, a2, a3, a4] [aQ s0] (ev 64 0 [aR 19 s1, aQ s2, aU] [] σ) := ev_call f_Ub_read_27 rfl rfl
theorem f_Ub_read_30 : fetch 90 30 = some (.putfield 62) := by decide +kernel
theorem e_Ub_read_30 (a0 a1 a2 a3 a4 : AV) (σ : aM) (i : Int) (x : Int) (r : List AV)  : ev 90 30 [a0, a1, a2, a3, a4] (aI x :: aR 0 i :: r) σ = ev 90 33 [a0, a1, a2, a3, a4] (r) (uI σ 0 i 9 x) := ev_go f_Ub_read_30 rfl
theorem f_Ub_read_33 : fetch 90 33 = some (.aload_n 0) := by decide +kernel
theorem e_Ub_read_33 (a1 a2 a3 a4 : AV) (σ : aM) (l0 : Option (Nat × Int)) (r : List AV)  : ev 90 33 [aQ l0, a1, a2, a3, a4] (r) σ = ev 90 34 [aQ l0, a1, a2, a3, a4] (aQ l0 :: r) σ := ev_go f_Ub_read_33 rfl
theorem f_Ub_read_34 : fetch 90 34 = some (.getfield 62) := by decide +kernel
theorem e_Ub_read_34 (a0 a1 a2 a3 a4 : AV) (σ : aM) (i : Int) (r : List AV)  : ev 90 34 [a0, a1, a2, a3, a4] (aR 0 i :: r) σ = ev 90 37 [a0, a1, a2, a3, a4] (aI (gI σ 0 i 9) :: r) σ := ev_go f_Ub_read_34 rfl
theorem f_Ub_read_37 : fetch 90 37 = some (.iconst (-1)) := by decide +kernel
theorem e_Ub_read_37 (a0 a1 a2 a3 a4 : AV) (σ : aM) (r : List AV)  : ev 90 37 [a0, a1, a2, a3, a4] (r) σ = ev 90 38 [a0, a1, a2, a3, a4] (aI (-1) :: r) σ := ev_go f_Ub_read_37 rfl
theorem f_Ub_read_38 : fetch 90 38 = some (.if_icmp .eq 10) := by decide +kernel
theorem e_Ub_read_38 (a0 a1 a2 a3 a4 : AV) (σ : aM) (x z : Int) (r : List AV) : ev 90 38 [a0, a1, a2, a3, a4] (aI z :: aI x :: r) σ = if x = z then ev 90 48 [a0, a1, a2, a3, a4] r σ else ev 90 41 [a0, a1, a2, a3, a4] r σ := ev_br f_Ub_read_38 rfl bc_eq
theorem f_Ub_read_41 : fetch 90 41 = some (.aload_n 0) := by decide +kernel
theorem e_Ub_read_41 (a1 a2 a3 a4 : AV) (σ : aM) (l0 : Option (Nat × Int)) (r : List AV)  : ev 90 41 [aQ l0, a1, a2, a3, a4] (r) σ = ev 90 42 [aQ l0, a1, a2, a3, a4] (aQ l0 :: r) σ := ev_go f_Ub_read_41 rfl
theorem f_Ub_read_42 : fetch 90 42 = some (.bipush (-6)) := by decide +kernel
theorem e_Ub_read_42 (a0 a1 a2 a3 a4 : AV) (σ : aM) (r : List AV)  : ev 90 42 [a0, a1, a2, a3, a4] (r) σ = ev 90 44 [a0, a1, a2, a3, a4] (aI (-6) :: r) σ := ev_go f_Ub_read_42 rfl
theorem f_Ub_read_44 : fetch 90 44 = some (.invokevirtual 71) := by decide +kernel
theorem e_Ub_read_44 (a0 a1 a2 a3 a4 : AV) (σ : aM) (s0 : Int) (s1 : Int) : ev 90 44 [a0, a1, a2, a3, a4] [aI s1, aR 0 s0] σ = evK 90 47 [a0, a1, a2, a3, a4] [] (ev 113 0 [aR 0 s0, aI s1] [] σ) := ev_call f_Ub_read_44 rfl rfl
theorem f_Ub_read_47 : fetch 90 47 = some (.ireturn) := by decide +kernel
theorem e_Ub_read_47 (a0 a1 a2 a3 a4 : AV) (σ : aM) (x : Int) : ev 90 47 [a0, a1, a2, a3, a4] [aI x] σ = some ((some (aI x)), σ) := ev_ret f_Ub_read_47 rfl
theorem f_Ub_read_48 : fetch 90 48 = some (.aload_n 0) := by decide +kernel
theorem e_Ub_read_48 (a1 a2 a3 a4 : AV) (σ : aM) (l0 : Option (Nat × Int)) (r : List AV)  : ev 90 48 [aQ l0, a1, a2, a3, a4] (r) σ = ev 90 49 [aQ l0, a1, a2, a3, a4] (aQ l0 :: r) σ := ev_go f_Ub_read_48 rfl
theorem f_Ub_read_49 : fetch 90 49 = some (.getfield 48) := by decide +kernel
theorem e_Ub_read_49 (a0 a1 a2 a3 a4 : AV) (σ : aM) (i : Int) (r : List AV)  : ev 90 49 [a0, a1, a2, a3, a4] (aR 0 i :: r) σ = ev 90 52 [a0, a1, a2, a3, a4] (aR 19 0 :: r) σ := ev_go f_Ub_read_49 rfl
theorem f_Ub_read_52 : fetch 90 52 = some (.getfield 171) := by decide +kernel
theorem e_Ub_read_52 (a0 a1 a2 a3 a4 : AV) (σ : aM) (i : Int) (r : List AV)  : ev 90 52 [a0, a1, a2, a3, a4] (aR 19 i :: r) σ = ev 90 55 [a0, a1, a2, a3, a4] (aI (gI σ 19 i 5) :: r) σ := ev_go f_Ub_read_52 rfl
theorem f_Ub_read_55 : fetch 90 55 = some (.bipush 60) := by decide +kernel
theorem e_Ub_read_55 (a0 a1 a2 a3 a4 : AV) (σ : aM) (r : List AV)  : ev 90 55 [a0, a1, a2, a3, a4] (r) σ = ev 90 57 [a0, a1, a2, a3, a4] (aI 60 :: r) σ := ev_go f_Ub_read_55 rfl
theorem f_Ub_read_57 : fetch 90 57 = some (.aload_n 0) := by decide +kernel
theorem e_Ub_read_57 (a1 a2 a3 a4 : AV) (σ : aM) (l0 : Option (Nat × Int)) (r : List AV)  : ev 90 57 [aQ l0, a1, a2, a3, a4] (r) σ = ev 90 58 [aQ l0, a1, a2, a3, a4] (aQ l0 :: r) σ := ev_go f_Ub_read_57 rfl
theorem f_Ub_read_58 : fetch 90 58 = some (.getfield 30) := by decide +kernel
theorem e_Ub_read_58 (a0 a1 a2 a3 a4 : AV) (σ : aM) (i : Int) (r : List AV)  : ev 90 58 [a0, a1, a2, a3, a4] (aR 0 i :: r) σ = ev 90 61 [a0, a1, a2, a3, a4] (aR 6 0 :: r) σ := ev_go f_Ub_read_58 rfl
theorem f_Ub_read_61 : fetch 90 61 = some (.getfield 174) := by decide +kernel
theorem e_Ub_read_61 (a0 a1 a2 a3 a4 : AV) (σ : aM) (i : Int) (r : List AV)  : ev 90 61 [a0, a1, a2, a3, a4] (aR 6 i :: r) σ = ev 90 64 [a0, a1, a2, a3, a4] (aI (gI σ 6 i 2) :: r) σ := ev_go f_Ub_read_61 rfl
theorem f_Ub_read_64 : fetch 90 64 = some (.isub) := by decide +kernel
theorem e_Ub_read_64 (a0 a1 a2 a3 a4 : AV) (σ : aM) (x z : Int) (r : List AV)  : ev 90 64 [a0, a1, a2, a3, a4] (aI z :: aI x :: r) σ = ev 90 65 [a0, a1, a2, a3, a4] (aI (wr (x - z)) :: r) σ := ev_go f_Ub_read_64 rfl
theorem f_Ub_read_65 : fetch 90 65 = some (.if_icmp .le 10) := by decide +kernel
theorem e_Ub_read_65 (a0 a1 a2 a3 a4 : AV) (σ : aM) (x z : Int) (r : List AV) : ev 90 65 [a0, a1, a2, a3, a4] (aI z :: aI x :: r) σ = if x ≤ z then ev 90 75 [a0, a1, a2, a3, a4] r σ else ev 90 68 [a0, a1, a2, a3, a4] r σ := ev_br f_Ub_read_65 rfl bc_le
theorem f_Ub_read_68 : fetch 90 68 = some (.aload_n 0) := by decide +kernel
theorem e_Ub_read_68 (a1 a2 a3 a4 : AV) (σ : aM) (l0 : Option (Nat × Int)) (r : List AV)  : ev 90 68 [aQ l0, a1, a2, a3, a4] (r) σ = ev 90 69 [aQ l0, a1, a2, a3, a4] (aQ l0 :: r) σ := ev_go f_Ub_read_68 rfl
theorem f_Ub_read_69 : fetch 90 69 = some (.bipush (-7)) := by decide +kernel
theorem e_Ub_read_69 (a0 a1 a2 a3 a4 : AV) (σ : aM) (r : List AV)  : ev 90 69 [a0, a1, a2, a3, a4] (r) σ = ev 90 71 [a0, a1, a2, a3, a4] (aI (-7) :: r) σ := ev_go f_Ub_read_69 rfl
theorem f_Ub_read_71 : fetch 90 71 = some (.invokevirtual 71) := by decide +kernel
theorem e_Ub_read_71 (a0 a1 a2 a3 a4 : AV) (σ : aM) (s0 : Int) (s1 : Int) : ev 90 71 [a0, a1, a2, a3, a4] [aI s1, aR 0 s0] σ = evK 90 74 [a0, a1, a2, a3, a4] [] (ev 113 0 [aR 0 s0, aI s1] [] σ) := ev_call f_Ub_read_71 rfl rfl
theorem f_Ub_read_74 : fetch 90 74 = some (.ireturn) := by decide +kernel
theorem e_Ub_read_74 (a0 a1 a2 a3 a4 : AV) (σ : aM) (x : Int) : ev 90 74 [a0, a1, a2, a3, a4] [aI x] σ = some ((some (aI x)), σ) := ev_ret f_Ub_read_74 rfl
theorem f_Ub_read_75 : fetch 90 75 = some (.iconst 0) := by decide +kernel
theorem e_Ub_read_75 (a0 a1 a2 a3 a4 : AV) (σ : aM) (r : List AV)  : ev 90 75 [a0, a1, a2, a3, a4] (r) σ = ev 90 76 [a0, a1, a2, a3, a4] (aI 0 :: r) σ := ev_go f_Ub_read_75 rfl
theorem f_Ub_read_76 : fetch 90 76 = some (.istore_n 3) := by decide +kernel
theorem e_Ub_read_76 (a0 a1 a3 a4 : AV) (σ : aM) (x : Int) (l2 : Int) (r : List AV)  : ev 90 76 [a0, a1, aI l2, a3, a4] (aI x :: r) σ = ev 90 77 [a0, a1, aI l2, aI x, a4] (r) σ := ev_go f_Ub_read_76 rfl
theorem f_Ub_read_77 : fetch 90 77 = some (.iload_n 3) := by decide +kernel
theorem e_Ub_read_77 (a0 a1 a2 a4 : AV) (σ : aM) (l3 : Int) (r : List AV)  : ev 90 77 [a0, a1, a2, aI l3, a4] (r) σ = ev 90 78 [a0, a1, a2, aI l3, a4] (aI l3 :: r) σ := ev_go f_Ub_read_77 rfl
theorem f_Ub_read_78 : fetch 90 78 = some (.aload_n 0) := by decide +kernel
theorem e_Ub_read_78 (a1 a2 a3 a4 : AV) (σ : aM) (l0 : Option (Nat × Int)) (r : List AV)  : ev 90 78 [aQ l0, a1, a2, a3, a4] (r) σ = ev 90 79 [aQ l0, a1, a2, a3, a4] (aQ l0 :: r) σ := ev_go f_Ub_read_78 rfl
theorem f_Ub_read_79 : fetch 90 79 = some (.getfield 48) := by decide +kernel
theorem e_Ub_read_79 (a0 a1 a2 a3 a4 : AV) (σ : aM) (i : Int) (r : List AV)  : ev 90 79 [a0, a1, a2, a3, a4] (aR 0 i :: r) σ = ev 90 82 [a0, a1, a2, a3, a4] (aR 19 0 :: r) σ := ev_go f_Ub_read_79 rfl
theorem f_Ub_read_82 : fetch 90 82 = some (.getfield 171) := by decide +kernel
theorem e_Ub_read_82 (a0 a1 a2 a3 a4 : AV) (σ : aM) (i : Int) (r : List AV)  : ev 90 82 [a0, a1, a2, a3, a4] (aR 19 i :: r) σ = ev 90 85 [a0, a1, a2, a3, a4] (aI (gI σ 19 i 5) :: r) σ := ev_go f_Ub_read_82 rfl
theorem f_Ub_read_85 : fetch 90 85 = some (.if_icmp .ge 84) := by decide +kernel
theorem e_Ub_read_85 (a0 a1 a2 a3 a4 : AV) (σ : aM) (x z : Int) (r : List AV) : ev 90 85 [a0, a1, a2, a3, a4] (aI z :: aI x :: r) σ = if z ≤ x then ev 90 169 [a0, a1, a2, a3, a4] r σ else ev 90 88 [a0, a1, a2, a3, a4] r σ := ev_br f_Ub_read_85 rfl bc_ge
theorem f_Ub_read_88 : fetch 90 88 = some (.aload_n 0) := by decide +kernel
theorem e_Ub_read_88 (a1 a2 a3 a4 : AV) (σ : aM) (l0 : Option (Nat × Int)) (r : List AV)  : ev 90 88 [aQ l0, a1, a2, a3, a4] (r) σ = ev 90 89 [aQ l0, a1, a2, a3, a4] (aQ l0 :: r) σ := ev_go f_Ub_read_88 rfl
theorem f_Ub_read_89 : fetch 90 89 = some (.getfield 48) := by decide +kernel
theorem e_Ub_read_89 (a0 a1 a2 a3 a4 : AV) (σ : aM) (i : Int) (r : List AV)  : ev 90 89 [a0, a1, a2, a3, a4] (aR 0 i :: r) σ = ev 90 92 [a0, a1, a2, a3, a4] (aR 19 0 :: r) σ := ev_go f_Ub_read_89 rfl
theorem f_Ub_read_92 : fetch 90 92 = some (.getfield 175) := by decide +kernel
theorem e_Ub_read_92 (a0 a1 a2 a3 a4 : AV) (σ : aM) (i : Int) (r : List AV)  : ev 90 92 [a0, a1, a2, a3, a4] (aR 19 i :: r) σ = ev 90 95 [a0, a1, a2, a3, a4] (aR 24 0 :: r) σ := ev_go f_Ub_read_92 rfl
theorem f_Ub_read_95 : fetch 90 95 = some (.iload_n 3) := by decide +kernel
theorem e_Ub_read_95 (a0 a1 a2 a4 : AV) (σ : aM) (l3 : Int) (r : List AV)  : ev 90 95 [a0, a1, a2, aI l3, a4] (r) σ = ev 90 96 [a0, a1, a2, aI l3, a4] (aI l3 :: r) σ := ev_go f_Ub_read_95 rfl
theorem f_Ub_read_96 : fetch 90 96 = some (.iaload) := by decide +kernel
theorem e_Ub_read_96 (a0 a1 a2 a3 a4 : AV) (σ : aM) (x : Int) (i : Int) (r : List AV) (h : 0 ≤ x ∧ x < 27) : ev 90 96 [a0, a1, a2, a3, a4] (aI x :: aR 24 i :: r) σ = ev 90 97 [a0, a1, a2, a3, a4] (aI (gI σ 24 i x) :: r) σ := ev_ld (j := i) f_Ub_read_96 rfl rfl (by decide) rfl h
theorem f_Ub_read_97 : fetch 90 97 = some (.ifCond .ne 7) := by decide +kernel
theorem e_Ub_read_97 (a0 a1 a2 a3 a4 : AV) (σ : aM) (x : Int) (r : List AV) : ev 90 97 [a0, a1, a2, a3, a4] (aI x :: r) σ = if ¬ x = 0 then ev 90 104 [a0, a1, a2, a3, a4] r σ else ev 90 100 [a0, a1, a2, a3, a4] r σ := ev_br f_Ub_read_97 rfl bc_ne
theorem f_Ub_read_100 : fetch 90 100 = some (.iconst 1) := by decide +kernel
theorem e_Ub_read_100 (a0 a1 a2 a3 a4 : AV) (σ : aM) (r : List AV)  : ev 90 100 [a0, a1, a2, a3, a4] (r) σ = ev 90 101 [a0, a1, a2, a3, a4] (aI 1 :: r) σ := ev_go f_Ub_read_100 rfl
theorem f_Ub_read_101 : fetch 90 101 = some (.goto 4) := by decide +kernel
theorem e_Ub_read_101 (a0 a1 a2 a3 a4 : AV) (σ : aM) (r : List AV)  : ev 90 101 [a0, a1, a2, a3, a4] (r) σ = ev 90 105 [a0, a1, a2, a3, a4] (r) σ := ev_go f_Ub_read_101 rfl
theorem f_Ub_read_104 : fetch 90 104 = some (.iconst 2) := by decide +kernel
theorem e_Ub_read_104 (a0 a1 a2 a3 a4 : AV) (σ : aM) (r : List AV)  : ev 90 104 [a0, a1, a2, a3, a4] (r) σ = ev 90 105 [a0, a1, a2, a3, a4] (aI 2 :: r) σ := ev_go f_Ub_read_104 rfl
theorem f_Ub_read_105 : fetch 90 105 = some (.istore 4) := by decide +kernel
theorem e_Ub_read_105 (a0 a1 a2 a4 : AV) (σ : aM) (x : Int) (l3 : Int) (r : List AV)  : ev 90 105 [a0, a1, a2, aI l3, a4] (aI x :: r) σ = ev 90 107 [a0, a1, a2, aI l3, aI x] (r) σ := ev_go f_Ub_read_105 rfl
theorem f_Ub_read_107 : fetch 90 107 = some (.aload_n 0) := by decide +kernel
theorem e_Ub_read_107 (a1 a2 a3 a4 : AV) (σ : aM) (l0 : Option (Nat × Int)) (r : List AV)  : ev 90 107 [aQ l0, a1, a2, a3, a4] (r) σ = ev 90 108 [aQ l0, a1, a2, a3, a4] (aQ l0 :: r) σ := ev_go f_Ub_read_107 rfl
theorem f_Ub_read_108 : fetch 90 108 = some (.getfield 22) := by decide +kernel
theorem e_Ub_read_108 (a0 a1 a2 a3 a4 : AV) (σ : aM) (i : Int) (r : List AV)  : ev 90 108 [a0, a1, a2, a3, a4] (aR 0 i :: r) σ = ev 90 111 [a0, a1, a2, a3, a4] (aR 5 0 :: r) σ := ev_go f_Ub_read_108 rfl
theorem f_Ub_read_111 : fetch 90 111 = some (.iload 4) := by decide +kernel
theorem e_Ub_read_111 (a0 a1 a2 a3 : AV) (σ : aM) (l4 : Int) (r : List AV)  : ev 90 111 [a0, a1, a2, a3, aI l4] (r) σ = ev 90 113 [a0, a1, a2, a3, aI l4] (aI l4 :: r) σ := ev_go f_Ub_read_111 rfl
theorem f_Ub_read_113 : fetch 90 113 = some (.aload_n 0) := by decide +kernel
theorem e_Ub_read_113 (a1 a2 a3 a4 : AV) (σ : aM) (l0 : Option (Nat × Int)) (r : List AV)  : ev 90 113 [aQ l0, a1, a2, a3, a4] (r) σ = ev 90 114 [aQ l0, a1, a2, a3, a4] (aQ l0 :: r) σ := ev_go f_Ub_read_113 rfl
theorem f_Ub_read_114 : fetch 90 114 = some (.getfield 48) := by decide +kernel
theorem e_Ub_read_114 (a0 a1 a2 a3 a4 : AV) (σ : aM) (i : Int) (r : List AV)  : ev 90 114 [a0, a1, a2, a3, a4] (aR 0 i :: r) σ = ev 90 117 [a0, a1, a2, a3, a4] (aR 19 0 :: r) σ := ev_go f_Ub_read_114 rfl
theorem f_Ub_read_117 : fetch 90 117 = some (.getfield 178) := by decide +kernel
theorem e_Ub_read_117 (a0 a1 a2 a3 a4 : AV) (σ : aM) (i : Int) (r : List AV)  : ev 90 117 [a0, a1, a2, a3, a4] (aR 19 i :: r) σ = ev 90 120 [a0, a1, a2, a3, a4] (aR 20 0 :: r) σ := ev_go f_Ub_read_117 rfl
theorem f_Ub_read_120 : fetch 90 120 = some (.iload_n 3) := by decide +kernel
theorem e_Ub_read_120 (a0 a1 a2 a4 : AV) (σ : aM) (l3 : Int) (r : List AV)  : ev 90 120 [a0, a1, a2, aI l3, a4] (r) σ = ev 90 121 [a0, a1, a2, aI l3, a4] (aI l3 :: r) σ := ev_go f_Ub_read_120 rfl
theorem f_Ub_read_121 : fetch 90 121 = some (.iaload) := by decide +kernel
theorem e_Ub_read_121 (a0 a1 a2 a3 a4 : AV) (σ : aM) (x : Int) (i : Int) (r : List AV) (h : 0 ≤ x ∧ x < 27) : ev 90 121 [a0, a1, a2, a3, a4] (aI x :: aR 20 i :: r) σ = ev 90 122 [a0, a1, a2, a3, a4] (aI (gI σ 20 i x) :: r) σ := ev_ld (j := i) f_Ub_read_121 rfl rfl (by decide) rfl h
theorem f_Ub_read_122 : fetch 90 122 = some (.aload_n 0) := by decide +kernel
theorem e_Ub_read_122 (a1 a2 a3 a4 : AV) (σ : aM) (l0 : Option (Nat × Int)) (r : List AV)  : ev 90 122 [aQ l0, a1, a2, a3, a4] (r) σ = ev 90 123 [aQ l0, a1, a2, a3, a4] (aQ l0 :: r) σ := ev_go f_Ub_read_122 rfl
theorem f_Ub_read_123 : fetch 90 123 = some (.getfield 48) := by decide +kernel
theorem e_Ub_read_123 (a0 a1 a2 a3 a4 : AV) (σ : aM) (i : Int) (r : List AV)  : ev 90 123 [a0, a1, a2, a3, a4] (aR 0 i :: r) σ = ev 90 126 [a0, a1, a2, a3, a4] (aR 19 0 :: r) σ := ev_go f_Ub_read_123 rfl
theorem f_Ub_read_126 : fetch 90 126 = some (.getfield 181) := by decide +kernel
theorem e_Ub_read_126 (a0 a1 a2 a3 a4 : AV) (σ : aM) (i : Int) (r : List AV)  : ev 90 126 [a0, a1, a2, a3, a4] (aR 19 i :: r) σ = ev 90 129 [a0, a1, a2, a3, a4] (aR 21 0 :: r) σ := ev_go f_Ub_read_126 rfl
theorem f_Ub_read_129 : fetch 90 129 = some (.iload_n 3) := by decide +kernel
theorem e_Ub_read_129 (a0 a1 a2 a4 : AV) (σ : aM) (l3 : Int) (r : List AV)  : ev 90 129 [a0, a1, a2, aI l3, a4] (r) σ = ev 90 130 [a0, a1, a2, aI l3, a4] (aI l3 :: r) σ := ev_go f_Ub_read_129 rfl
theorem f_Ub_read_130 : fetch 90 130 = some (.iaload) := by decide +kernel
theorem e_Ub_read_130 (a0 a1 a2 a3 a4 : AV) (σ : aM) (x : Int) (i : Int) (r : List AV) (h : 0 ≤ x ∧ x < 27) : ev 90 130 [a0, a1, a2, a3, a4] (aI x :: aR 21 i :: r) σ = ev 90 131 [a0, a1, a2, a3, a4] (aI (gI σ 21 i x) :: r) σ := ev_ld (j := i) f_Ub_read_130 rfl rfl (by decide) rfl h
theorem f_Ub_read_131 : fetch 90 131 = some (.aload_n 0) := by decide +kernel
theorem e_Ub_read_131 (a1 a2 a3 a4 : AV) (σ : aM) (l0 : Option (Nat × Int)) (r : List AV)  : ev 90 131 [aQ l0, a1, a2, a3, a4] (r) σ = ev 90 132 [aQ l0, a1, a2, a3, a4] (aQ l0 :: r) σ := ev_go f_Ub_read_131 rfl
theorem f_Ub_read_132 : fetch 90 132 = some (.getfield 48) := by decide +kernel
theorem e_Ub_read_132 (a0 a1 a2 a3 a4 : AV) (σ : aM) (i : Int) (r : List AV)  : ev 90 132 [a0, a1, a2, a3, a4] (aR 0 i :: r) σ = ev 90 135 [a0, a1, a2, a3, a4] (aR 19 0 :: r) σ := ev_go f_Ub_read_132 rfl
theorem f_Ub_read_135 : fetch 90 135 = some (.getfield 184) := by decide +kernel
theorem e_Ub_read_135 (a0 a1 a2 a3 a4 : AV) (σ : aM) (i : Int) (r : List AV)  : ev 90 135 [a0, a1, a2, a3, a4] (aR 19 i :: r) σ = ev 90 138 [a0, a1, a2, a3, a4] (aR 22 0 :: r) σ := ev_go f_Ub_read_135 rfl
theorem f_Ub_read_138 : fetch 90 138 = some (.iload_n 3) := by decide +kernel
theorem e_Ub_read_138 (a0 a1 a2 a4 : AV) (σ : aM) (l3 : Int) (r : List AV)  : ev 90 138 [a0, a1, a2, aI l3, a4] (r) σ = ev 90 139 [a0, a1, a2, aI l3, a4] (aI l3 :: r) σ := ev_go f_Ub_read_138 rfl
theorem f_Ub_read_139 : fetch 90 139 = some (.iaload) := by decide +kernel
theorem e_Ub_read_139 (a0 a1 a2 a3 a4 : AV) (σ : aM) (x : Int) (i : Int) (r : List AV) (h : 0 ≤ x ∧ x < 27) : ev 90 139 [a0, a1, a2, a3, a4] (aI x :: aR 22 i :: r) σ = ev 90 140 [a0, a1, a2, a3, a4] (aI (gI σ 22 i x) :: r) σ := ev_ld (j := i) f_Ub_read_139 rfl rfl (by decide) rfl h
theorem f_Ub_read_140 : fetch 90 140 = some (.aload_n 0) := by decide +kernel
theorem e_Ub_read_140 (a1 a2 a3 a4 : AV) (σ : aM) (l0 : Option (Nat × Int)) (r : List AV)  : ev 90 140 [aQ l0, a1, a2, a3, a4] (r) σ = ev 90 141 [aQ l0, a1, a2, a3, a4] (aQ l0 :: r) σ := ev_go f_Ub_read_140 rfl
theorem f_Ub_read_141 : fetch 90 141 = some (.getfield 48) := by decide +kernel
theorem e_Ub_read_141 (a0 a1 a2 a3 a4 : AV) (σ : aM) (i : Int) (r : List AV)  : ev 90 141 [a0, a1, a2, a3, a4] (aR 0 i :: r) σ = ev 90 144 [a0, a1, a2, a3, a4] (aR 19 0 :: r) σ := ev_go f_Ub_read_141 rfl
theorem f_Ub_read_144 : fetch 90 144 = some (.getfield 187) := by decide +kernel
theorem e_Ub_read_144 (a0 a1 a2 a3 a4 : AV) (σ : aM) (i : Int) (r : List AV)  : ev 90 144 [a0, a1, a2, a3, a4] (aR 19 i :: r) σ = ev 90 147 [a0, a1, a2, a3, a4] (aR 23 0 :: r) σ := ev_go f_Ub_read_144 rfl
theorem f_Ub_read_147 : fetch 90 147 = some (.iload_n 3) := by decide +kernel
theorem e_Ub_read_147 (a0 a1 a2 a4 : AV) (σ : aM) (l3 : Int) (r : List AV)  : ev 90 147 [a0, a1, a2, aI l3, a4] (r) σ = ev 90 148 [a0, a1, a2, aI l3, a4] (aI l3 :: r) σ := ev_go f_Ub_read_147 rfl
theorem f_Ub_read_148 : fetch 90 148 = some (.iaload) := by decide +kernel
theorem e_Ub_read_148 (a0 a1 a2 a3 a4 : AV) (σ : aM) (x : Int) (i : Int) (r : List AV) (h : 0 ≤ x ∧ x < 27) : ev 90 148 [a0, a1, a2, a3, a4] (aI x :: aR 23 i :: r) σ = ev 90 149 [a0, a1, a2, a3, a4] (aI (gI σ 23 i x) :: r) σ := ev_ld (j := i) f_Ub_read_148 rfl rfl (by decide) rfl h
theorem f_Ub_read_149 : fetch 90 149 = some (.aload_n 0) := by decide +kernel
theorem e_Ub_read_149 (a1 a2 a3 a4 : AV) (σ : aM) (l0 : Option (Nat × Int)) (r : List AV)  : ev 90 149 [aQ l0, a1, a2, a3, a4] (r) σ = ev 90 150 [aQ l0, a1, a2, a3, a4] (aQ l0 :: r) σ := ev_go f_Ub_read_149 rfl
theorem f_Ub_read_150 : fetch 90 150 = some (.getfield 48) := by decide +kernel
theorem e_Ub_read_150 (a0 a1 a2 a3 a4 : AV) (σ : aM) (i : Int) (r : List AV)  : ev 90 150 [a0, a1, a2, a3, a4] (aR 0 i :: r) σ = ev 90 153 [a0, a1, a2, a3, a4] (aR 19 0 :: r) σ := ev_go f_Ub_read_150 rfl
theorem f_Ub_read_153 : fetch 90 153 = some (.getfield 175) := by decide +kernel
theorem e_Ub_read_153 (a0 a1 a2 a3 a4 : AV) (σ : aM) (i : Int) (r : List AV)  : ev 90 153 [a0, a1, a2, a3, a4] (aR 19 i :: r) σ = ev 90 156 [a0, a1, a2, a3, a4] (aR 24 0 :: r) σ := ev_go f_Ub_read_153 rfl
theorem f_Ub_read_156 : fetch 90 156 = some (.iload_n 3) := by decide +kernel
theorem e_Ub_read_156 (a0 a1 a2 a4 : AV) (σ : aM) (l3 : Int) (r : List AV)  : ev 90 156 [a0, a1, a2, aI l3, a4] (r) σ = ev 90 157 [a0, a1, a2, aI l3, a4] (aI l3 :: r) σ := ev_go f_Ub_read_156 rfl
theorem f_Ub_read_157 : fetch 90 157 = some (.iaload) := by decide +kernel
theorem e_Ub_read_157 (a0 a1 a2 a3 a4 : AV) (σ : aM) (x : Int) (i : Int) (r : List AV) (h : 0 ≤ x ∧ x < 27) : ev 90 157 [a0, a1, a2, a3, a4] (aI x :: aR 24 i :: r) σ = ev 90 158 [a0, a1, a2, a3, a4] (aI (gI σ 24 i x) :: r) σ := ev_ld (j := i) f_Ub_read_157 rfl rfl (by decide) rfl h
theorem f_Ub_read_158 : fetch 90 158 = some (.iconst 0) := by decide +kernel
theorem e_Ub_read_158 (a0 a1 a2 a3 a4 : AV) (σ : aM) (r : List AV)  : ev 90 158 [a0, a1, a2, a3, a4] (r) σ = ev 90 159 [a0, a1, a2, a3, a4] (aI 0 :: r) σ := ev_go f_Ub_read_158 rfl
theorem f_Ub_read_159 : fetch 90 159 = some (.invokevirtual 150) := by decide +kernel
theorem e_Ub_read_159 (a0 a1 a2 a3 a4 : AV) (σ : aM) (s0 : Int) (s1 : Int) (s2 : Int) (s3 : Int) (s4 : Int) (s5 : Int) (s6 : Int) (s7 : Int) : ev 90 159 [a0, a1, a2, a3, a4] [aI s7, aI s6, aI s5, aI s4, aI s3, aI s2, aI s1, aR 5 s0] σ = evK 90 162 [a0, a1, a2, a3, a4] [] (ev 14 0 [aR 5 s0, aI s1, aI s2, aI s3, aI s4, aI s5, aI s6, aI s7, aU] [] σ) := ev_call f_Ub_read_159 rfl rfl
theorem f_Ub_read_162 : fetch 90 162 = some (.pop) := by decide +kernel
theorem e_Ub_read_162 (a0 a1 a2 a3 a4 : AV) (σ : aM) (x : Int) (r : List AV)  : ev 90 162 [a0, a1, a2, a3, a4] (aI x :: r) σ = ev 90 163 [a0, a1, a2, a3, a4] (r) σ := ev_go f_Ub_read_162 rfl
theorem f_Ub_read_163 : fetch 90 163 = some (.iinc 3 1) := by decide +kernel
theorem e_Ub_read_163 (a0 a1 a4 : AV) (σ : aM) (l3 : Int) (l2 : Int) (r : List AV)  : ev 90 163 [a0, a1, aI l2, aI l3, a4] (r) σ = ev 90 166 [a0, a1, aI l2, aI (wr (l3 + 1)), a4] (r) σ := ev_go f_Ub_read_163 rfl
theorem f_Ub_read_166 : fetch 90 166 = some (.goto (-89)) := by decide +kernel
theorem e_Ub_read_166 (a0 a1 a2 a3 a4 : AV) (σ : aM) (r : List AV)  : ev 90 166 [a0, a1, a2, a3, a4] (r) σ = ev 90 77 [a0, a1, a2, a3, a4] (r) σ := ev_go f_Ub_read_166 rfl
theorem f_Ub_read_169 : fetch 90 169 = some (.aload_n 0) := by decide +kernel
theorem e_Ub_read_169 (a1 a2 a3 a4 : AV) (σ : aM) (l0 : Option (Nat × Int)) (r : List AV)  : ev 90 169 [aQ l0, a1, a2, a3, a4] (r) σ = ev 90 170 [aQ l0, a1, a2, a3, a4] (aQ l0 :: r) σ := ev_go f_Ub_read_169 rfl
theorem f_Ub_read_170 : fetch 90 170 = some (.getfield 48) := by decide +kernel
theorem e_Ub_read_170 (a0 a1 a2 a3 a4 : AV) (σ : aM) (i : Int) (r : List AV)  : ev 90 170 [a0, a1, a2, a3, a4] (aR 0 i :: r) σ = ev 90 173 [a0, a1, a2, a3, a4] (aR 19 0 :: r) σ := ev_go f_Ub_read_170 rfl
theorem f_Ub_read_173 : fetch 90 173 = some (.getfield 171) := by decide +kernel
theorem e_Ub_read_173 (a0 a1 a2 a3 a4 : AV) (σ : aM) (i : Int) (r : List AV)  : ev 90 173 [a0, a1, a2, a3, a4] (aR 19 i :: r) σ = ev 90 176 [a0, a1, a2, a3, a4] (aI (gI σ 19 i 5) :: r) σ := ev_go f_Ub_read_173 rfl
theorem f_Ub_read_176 : fetch 90 176 = some (.ireturn) := by decide +kernel
theorem e_Ub_read_176 (a0 a1 a2 a3 a4 : AV) (σ : aM) (x : Int) : ev 90 176 [a0, a1, a2, a3, a4] [aI x] σ = some ((some (aI x)), σ) := ev_ret f_Ub_read_176 rfl
theorem f_Ub_fault_0 : fetch 91 0 = some (.aload_n 0) := by decide +kernel
theorem e_Ub_fault_0 (σ : aM) (l0 : Option (Nat × Int)) (r : List AV)  : ev 91 0 [aQ l0] (r) σ = ev 91 1 [aQ l0] (aQ l0 :: r) σ := ev_go f_Ub_fault_0 rfl
theorem f_Ub_fault_1 : fetch 91 1 = some (.getfield 62) := by decide +kernel
theorem e_Ub_fault_1 (a0 : AV) (σ : aM) (i : Int) (r : List AV)  : ev 91 1 [a0] (aR 0 i :: r) σ = ev 91 4 [a0] (aI (gI σ 0 i 9) :: r) σ := ev_go f_Ub_fault_1 rfl
theorem f_Ub_fault_4 : fetch 91 4 = some (.ireturn) := by decide +kernel
theorem e_Ub_fault_4 (a0 : AV) (σ : aM) (x : Int) : ev 91 4 [a0] [aI x] σ = some ((some (aI x)), σ) := ev_ret f_Ub_fault_4 rfl
theorem f_Ub_cancel_0 : fetch 92 0 = some (.aload_n 0) := by decide +kernel
theorem e_Ub_cancel_0 (a1 a2 : AV) (σ : aM) (l0 : Option (Nat × Int)) (r : List AV)  : ev 92 0 [aQ l0, a1, a2] (r) σ = ev 92 1 [aQ l0, a1, a2] (aQ l0 :: r) σ := ev_go f_Ub_cancel_0 rfl
theorem f_Ub_cancel_1 : fetch 92 1 = some (.getfield 30) := by decide +kernel
theorem e_Ub_cancel_1 (a0 a1 a2 : AV) (σ : aM) (i : Int) (r : List AV)  : ev 92 1 [a0, a1, a2] (aR 0 i :: r) σ = ev 92 4 [a0, a1, a2] (aR 6 0 :: r) σ := ev_go f_Ub_cancel_1 rfl
theorem f_Ub_cancel_4 : fetch 92 4 = some (.iload_n 1) := by decide +kernel
theorem e_Ub_cancel_4 (a0 a2 : AV) (σ : aM) (l1 : Int) (r : List AV)  : ev 92 4 [a0, aI l1, a2] (r) σ = ev 92 5 [a0, aI l1, a2] (aI l1 :: r) σ := ev_go f_Ub_cancel_4 rfl
theorem f_Ub_cancel_5 : fetch 92 5 = some (.invokevirtual 116) := by decide +kernel
theorem e_Ub_cancel_5 (a0 a1 a2 : AV) (σ : aM) (s0 : Int) (s1 : Int) : ev 92 5 [a0, a1, a2] [aI s1, aR 6 s0] σ = evK 92 8 [a0, a1, a2] [] (ev 5 0 [aR 6 s0, aI s1] [] σ) := ev_call f_Ub_cancel_5 rfl rfl
theorem f_Ub_cancel_8 : fetch 92 8 = some (.astore_n 2) := by decide +kernel
theorem e_Ub_cancel_8 (a0 a2 : AV) (σ : aM) (q : Option (Nat × Int)) (l1 : Int) (r : List AV)  : ev 92 8 [a0, aI l1, a2] (aQ q :: r) σ = ev 92 9 [a0, aI l1, aQ q] (r) σ := ev_go f_Ub_cancel_8 rfl
theorem f_Ub_cancel_9 : fetch 92 9 = some (.aload_n 2) := by decide +kernel
theorem e_Ub_cancel_9 (a0 a1 : AV) (σ : aM) (l2 : Option (Nat × Int)) (r : List AV)  : ev 92 9 [a0, a1, aQ l2] (r) σ = ev 92 10 [a0, a1, aQ l2] (aQ l2 :: r) σ := ev_go f_Ub_cancel_9 rfl
theorem f_Ub_cancel_10 : fetch 92 10 = some (.ifnonnull 9) := by decide +kernel
theorem e_Ub_cancel_10 (a0 a1 a2 : AV) (σ : aM) (q : Option (Nat × Int)) (r : List AV) : ev 92 10 [a0, a1, a2] (aQ q :: r) σ = if ¬ q = none then ev 92 19 [a0, a1, a2] r σ else ev 92 13 [a0, a1, a2] r σ := ev_br f_Ub_cancel_10 rfl bc_som
theorem f_Ub_cancel_13 : fetch 92 13 = some (.aload_n 0) := by decide +kernel
theorem e_Ub_cancel_13 (a1 a2 : AV) (σ : aM) (l0 : Option (Nat × Int)) (r : List AV)  : ev 92 13 [aQ l0, a1, a2] (r) σ = ev 92 14 [aQ l0, a1, a2] (aQ l0 :: r) σ := ev_go f_Ub_cancel_13 rfl
theorem f_Ub_cancel_14 : fetch 92 14 = some (.iconst (-1)) := by decide +kernel
theorem e_Ub_cancel_14 (a0 a1 a2 : AV) (σ : aM) (r : List AV)  : ev 92 14 [a0, a1, a2] (r) σ = ev 92 15 [a0, a1, a2] (aI (-1) :: r) σ := ev_go f_Ub_cancel_14 rfl
theorem f_Ub_cancel_15 : fetch 92 15 = some (.invokevirtual 71) := by decide +kernel
theorem e_Ub_cancel_15 (a0 a1 a2 : AV) (σ : aM) (s0 : Int) (s1 : Int) : ev 92 15 [a0, a1, a2] [aI s1, aR 0 s0] σ = evK 92 18 [a0, a1, a2] [] (ev 113 0 [aR 0 s0, aI s1] [] σ) := ev_call f_Ub_cancel_15 rfl rfl
theorem f_Ub_cancel_18 : fetch 92 18 = some (.ireturn) := by decide +kernel
theorem e_Ub_cancel_18 (a0 a1 a2 : AV) (σ : aM) (x : Int) : ev 92 18 [a0, a1, a2] [aI x] σ = some ((some (aI x)), σ) := ev_ret f_Ub_cancel_18 rfl
theorem f_Ub_cancel_19 : fetch 92 19 = some (.aload_n 2) := by decide +kernel
theorem e_Ub_cancel_19 (a0 a1 : AV) (σ : aM) (l2 : Option (Nat × Int)) (r : List AV)  : ev 92 19 [a0, a1, aQ l2] (r) σ = ev 92 20 [a0, a1, aQ l2] (aQ l2 :: r) σ := ev_go f_Ub_cancel_19 rfl
theorem f_Ub_cancel_20 : fetch 92 20 = some (.getfield 190) := by decide +kernel
theorem e_Ub_cancel_20 (a0 a1 a2 : AV) (σ : aM) (i : Int) (r : List AV)  : ev 92 20 [a0, a1, a2] (aR 8 i :: r) σ = ev 92 23 [a0, a1, a2] (aI (gI σ 8 i 5) :: r) σ := ev_go f_Ub_cancel_20 rfl
theorem f_Ub_cancel_23 : fetch 92 23 = some (.iconst 1) := by decide +kernel
theorem e_Ub_cancel_23 (a0 a1 a2 : AV) (σ : aM) (r : List AV)  : ev 92 23 [a0, a1, a2] (r) σ = ev 92 24 [a0, a1, a2] (aI 1 :: r) σ := ev_go f_Ub_cancel_23 rfl
theorem f_Ub_cancel_24 : fetch 92 24 = some (.if_icmp .eq 17) := by decide +kernel
theorem e_Ub_cancel_24 (a0 a1 a2 : AV) (σ : aM) (x z : Int) (r : List AV) : ev 92 24 [a0, a1, a2] (aI z :: aI x :: r) σ = if x = z then ev 92 41 [a0, a1, a2] r σ else ev 92 27 [a0, a1, a2] r σ := ev_br f_Ub_cancel_24 rfl bc_eq
theorem f_Ub_cancel_27 : fetch 92 27 = some (.aload_n 2) := by decide +kernel
theorem e_Ub_cancel_27 (a0 a1 : AV) (σ : aM) (l2 : Option (Nat × Int)) (r : List AV)  : ev 92 27 [a0, a1, aQ l2] (r) σ = ev 92 28 [a0, a1, aQ l2] (aQ l2 :: r) σ := ev_go f_Ub_cancel_27 rfl
theorem f_Ub_cancel_28 : fetch 92 28 = some (.getfield 190) := by decide +kernel
theorem e_Ub_cancel_28 (a0 a1 a2 : AV) (σ : aM) (i : Int) (r : List AV)  : ev 92 28 [a0, a1, a2] (aR 8 i :: r) σ = ev 92 31 [a0, a1, a2] (aI (gI σ 8 i 5) :: r) σ := ev_go f_Ub_cancel_28 rfl
theorem f_Ub_cancel_31 : fetch 92 31 = some (.ifCond .eq 10) := by decide +kernel
theorem e_Ub_cancel_31 (a0 a1 a2 : AV) (σ : aM) (x : Int) (r : List AV) : ev 92 31 [a0, a1, a2] (aI x :: r) σ = if x = 0 then ev 92 41 [a0, a1, a2] r σ else ev 92 34 [a0, a1, a2] r σ := ev_br f_Ub_cancel_31 rfl bc_eq
theorem f_Ub_cancel_34 : fetch 92 34 = some (.aload_n 0) := by decide +kernel
theorem e_Ub_cancel_34 (a1 a2 : AV) (σ : aM) (l0 : Option (Nat × Int)) (r : List AV)  : ev 92 34 [aQ l0, a1, a2] (r) σ = ev 92 35 [aQ l0, a1, a2] (aQ l0 :: r) σ := ev_go f_Ub_cancel_34 rfl
theorem f_Ub_cancel_35 : fetch 92 35 = some (.bipush (-6)) := by decide +kernel
theorem e_Ub_cancel_35 (a0 a1 a2 : AV) (σ : aM) (r : List AV)  : ev 92 35 [a0, a1, a2] (r) σ = ev 92 37 [a0, a1, a2] (aI (-6) :: r) σ := ev_go f_Ub_cancel_35 rfl
theorem f_Ub_cancel_37 : fetch 92 37 = some (.invokevirtual 71) := by decide +kernel
theorem e_Ub_cancel_37 (a0 a1 a2 : AV) (σ : aM) (s0 : Int) (s1 : Int) : ev 92 37 [a0, a1, a2] [aI s1, aR 0 s0] σ = evK 92 40 [a0, a1, a2] [] (ev 113 0 [aR 0 s0, aI s1] [] σ) := ev_call f_Ub_cancel_37 rfl rfl
theorem f_Ub_cancel_40 : fetch 92 40 = some (.ireturn) := by decide +kernel
theorem e_Ub_cancel_40 (a0 a1 a2 : AV) (σ : aM) (x : Int) : ev 92 40 [a0, a1, a2] [aI x] σ = some ((some (aI x)), σ) := ev_ret f_Ub_cancel_40 rfl
theorem f_Ub_cancel_41 : fetch 92 41 = some (.aload_n 2) := by decide +kernel
theorem e_Ub_cancel_41 (a0 a1 : AV) (σ : aM) (l2 : Option (Nat × Int)) (r : List AV)  : ev 92 41 [a0, a1, aQ l2] (r) σ = ev 92 42 [a0, a1, aQ l2] (aQ l2 :: r) σ := ev_go f_Ub_cancel_41 rfl
theorem f_Ub_cancel_42 : fetch 92 42 = some (.iconst 3) := by decide +kernel
theorem e_Ub_cancel_42 (a0 a1 a2 : AV) (σ : aM) (r : List AV)  : ev 92 42 [a0, a1, a2] (r) σ = ev 92 43 [a0, a1, a2] (aI 3 :: r) σ := ev_go f_Ub_cancel_42 rfl
theorem f_Ub_cancel_43 : fetch 92 43 = some (.putfield 190) := by decide +kernel
theorem e_Ub_cancel_43 (a0 a1 a2 : AV) (σ : aM) (i : Int) (x : Int) (r : List AV)  : ev 92 43 [a0, a1, a2] (aI x :: aR 8 i :: r) σ = ev 92 46 [a0, a1, a2] (r) (uI σ 8 i 5 x) := ev_go f_Ub_cancel_43 rfl
theorem f_Ub_cancel_46 : fetch 92 46 = some (.aload_n 2) := by decide +kernel
theorem e_Ub_cancel_46 (a0 a1 : AV) (σ : aM) (l2 : Option (Nat × Int)) (r : List AV)  : ev 92 46 [a0, a1, aQ l2] (r) σ = ev 92 47 [a0, a1, aQ l2] (aQ l2 :: r) σ := ev_go f_Ub_cancel_46 rfl
theorem f_Ub_cancel_47 : fetch 92 47 = some (.getfield 132) := by decide +kernel
theorem e_Ub_cancel_47 (a0 a1 a2 : AV) (σ : aM) (i : Int) (r : List AV)  : ev 92 47 [a0, a1, a2] (aR 8 i :: r) σ = ev 92 50 [a0, a1, a2] (aI (gI σ 8 i 4) :: r) σ := ev_go f_Ub_cancel_47 rfl
theorem f_Ub_cancel_50 : fetch 92 50 = some (.ireturn) := by decide +kernel
theorem e_Ub_cancel_50 (a0 a1 a2 : AV) (σ : aM) (x : Int) : ev 92 50 [a0, a1, a2] [aI x] σ = some ((some (aI x)), σ) := ev_ret f_Ub_cancel_50 rfl
theorem f_Ub_amend_0 : fetch 93 0 = some (.aload_n 0) := by decide +kernel
theorem e_Ub_amend_0 (a1 a2 a3 a4 a5 : AV) (σ : aM) (l0 : Option (Nat × Int)) (r : List AV)  : ev 93 0 [aQ l0, a1, a2, a3, a4, a5] (r) σ = ev 93 1 [aQ l0, a1, a2, a3, a4, a5] (aQ l0 :: r) σ := ev_go f_Ub_amend_0 rfl
theorem f_Ub_amend_1 : fetch 93 1 = some (.getfield 30) := by decide +kernel
theorem e_Ub_amend_1 (a0 a1 a2 a3 a4 a5 : AV) (σ : aM) (i : Int) (r : List AV)  : ev 93 1 [a0, a1, a2, a3, a4, a5] (aR 0 i :: r) σ = ev 93 4 [a0, a1, a2, a3, a4, a5] (aR 6 0 :: r) σ := ev_go f_Ub_amend_1 rfl
theorem f_Ub_amend_4 : fetch 93 4 = some (.iload_n 1) := by decide +kernel
theorem e_Ub_amend_4 (a0 a2 a3 a4 a5 : AV) (σ : aM) (l1 : Int) (r : List AV)  : ev 93 4 [a0, aI l1, a2, a3, a4, a5] (r) σ = ev 93 5 [a0, aI l1, a2, a3, a4, a5] (aI l1 :: r) σ := ev_go f_Ub_amend_4 rfl
theorem f_Ub_amend_5 : fetch 93 5 = some (.invokevirtual 116) := by decide +kernel
theorem e_Ub_amend_5 (a0 a1 a2 a3 a4 a5 : AV) (σ : aM) (s0 : Int) (s1 : Int) : ev 93 5 [a0, a1, a2, a3, a4, a5] [aI s1, aR 6 s0] σ = evK 93 8 [a0, a1, a2, a3, a4, a5] [] (ev 5 0 [aR 6 s0, aI s1] [] σ) := ev_call f_Ub_amend_5 rfl rfl
theorem f_Ub_amend_8 : fetch 93 8 = some (.astore 4) := by decide +kernel
theorem e_Ub_amend_8 (a0 a1 a2 a4 a5 : AV) (σ : aM) (q : Option (Nat × Int)) (l3 : Int) (r : List AV)  : ev 93 8 [a0, a1, a2, aI l3, a4, a5] (aQ q :: r) σ = ev 93 10 [a0, a1, a2, aI l3, aQ q, a5] (r) σ := ev_go f_Ub_amend_8 rfl
theorem f_Ub_amend_10 : fetch 93 10 = some (.aload 4) := by decide +kernel
theorem e_Ub_amend_10 (a0 a1 a2 a3 a5 : AV) (σ : aM) (l4 : Option (Nat × Int)) (r : List AV)  : ev 93 10 [a0, a1, a2, a3, aQ l4, a5] (r) σ = ev 93 12 [a0, a1, a2, a3, aQ l4, a5] (aQ l4 :: r) σ := ev_go f_Ub_amend_10 rfl
theorem f_Ub_amend_12 : fetch 93 12 = some (.ifnonnull 9) := by decide +kernel
theorem e_Ub_amend_12 (a0 a1 a2 a3 a4 a5 : AV) (σ : aM) (q : Option (Nat × Int)) (r : List AV) : ev 93 12 [a0, a1, a2, a3, a4, a5] (aQ q :: r) σ = if ¬ q = none then ev 93 21 [a0, a1, a2, a3, a4, a5] r σ else ev 93 15 [a0, a1, a2, a3, a4, a5] r σ := ev_br f_Ub_amend_12 rfl bc_som
theorem f_Ub_amend_15 : fetch 93 15 = some (.aload_n 0) := by decide +kernel
theorem e_Ub_amend_15 (a1 a2 a3 a4 a5 : AV) (σ : aM) (l0 : Option (Nat × Int)) (r : List AV)  : ev 93 15 [aQ l0, a1, a2, a3, a4, a5] (r) σ = ev 93 16 [aQ l0, a1, a2, a3, a4, a5] (aQ l0 :: r) σ := ev_go f_Ub_amend_15 rfl
theorem f_Ub_amend_16 : fetch 93 16 = some (.iconst (-1)) := by decide +kernel
theorem e_Ub_amend_16 (a0 a1 a2 a3 a4 a5 : AV) (σ : aM) (r : List AV)  : ev 93 16 [a0, a1, a2, a3, a4, a5] (r) σ = ev 93 17 [a0, a1, a2, a3, a4, a5] (aI (-1) :: r) σ := ev_go f_Ub_amend_16 rfl
theorem f_Ub_amend_17 : fetch 93 17 = some (.invokevirtual 71) := by decide +kernel
theorem e_Ub_amend_17 (a0 a1 a2 a3 a4 a5 : AV) (σ : aM) (s0 : Int) (s1 : Int) : ev 93 17 [a0, a1, a2, a3, a4, a5] [aI s1, aR 0 s0] σ = evK 93 20 [a0, a1, a2, a3, a4, a5] [] (ev 113 0 [aR 0 s0, aI s1] [] σ) := ev_call f_Ub_amend_17 rfl rfl
theorem f_Ub_amend_20 : fetch 93 20 = some (.ireturn) := by decide +kernel
theorem e_Ub_amend_20 (a0 a1 a2 a3 a4 a5 : AV) (σ : aM) (x : Int) : ev 93 20 [a0, a1, a2, a3, a4, a5] [aI x] σ = some ((some (aI x)), σ) := ev_ret f_Ub_amend_20 rfl
theorem f_Ub_amend_21 : fetch 93 21 = some (.iload_n 2) := by decide +kernel
theorem e_Ub_amend_21 (a0 a1 a3 a4 a5 : AV) (σ : aM) (l2 : Int) (r : List AV)  : ev 93 21 [a0, a1, aI l2, a3, a4, a5] (r) σ = ev 93 22 [a0, a1, aI l2, a3, a4, a5] (aI l2 :: r) σ := ev_go f_Ub_amend_21 rfl
theorem f_Ub_amend_22 : fetch 93 22 = some (.invokestatic 143) := by decide +kernel
theorem e_Ub_amend_22 (a0 a1 a2 a3 a4 a5 : AV) (σ : aM) (s0 : Int) : ev 93 22 [a0, a1, a2, a3, a4, a5] [aI s0] σ = evK 93 25 [a0, a1, a2, a3, a4, a5] [] (ev 120 0 [aI s0] [] σ) := ev_call f_Ub_amend_22 rfl rfl
theorem f_Ub_amend_25 : fetch 93 25 = some (.ifCond .eq 18) := by decide +kernel
theorem e_Ub_amend_25 (a0 a1 a2 a3 a4 a5 : AV) (σ : aM) (x : Int) (r : List AV) : ev 93 25 [a0, a1, a2, a3, a4, a5] (aI x :: r) σ = if x = 0 then ev 93 43 [a0, a1, a2, a3, a4, a5] r σ else ev 93 28 [a0, a1, a2, a3, a4, a5] r σ := ev_br f_Ub_amend_25 rfl bc_eq
theorem f_Ub_amend_28 : fetch 93 28 = some (.iload_n 3) := by decide +kernel
theorem e_Ub_amend_28 (a0 a1 a2 a4 a5 : AV) (σ : aM) (l3 : Int) (r : List AV)  : ev 93 28 [a0, a1, a2, aI l3, a4, a5] (r) σ = ev 93 29 [a0, a1, a2, aI l3, a4, a5] (aI l3 :: r) σ := ev_go f_Ub_amend_28 rfl
theorem f_Ub_amend_29 : fetch 93 29 = some (.invokestatic 143) := by decide +kernel
theorem e_Ub_amend_29 (a0 a1 a2 a3 a4 a5 : AV) (σ : aM) (s0 : Int) : ev 93 29 [a0, a1, a2, a3, a4, a5] [aI s0] σ = evK 93 32 [a0, a1, a2, a3, a4, a5] [] (ev 120 0 [aI s0] [] σ) := ev_call f_Ub_amend_29 rfl rfl
theorem f_Ub_amend_32 : fetch 93 32 = some (.ifCond .eq 11) := by decide +kernel
theorem e_Ub_amend_32 (a0 a1 a2 a3 a4 a5 : AV) (σ : aM) (x : Int) (r : List AV) : ev 93 32 [a0, a1, a2, a3, a4, a5] (aI x :: r) σ = if x = 0 then ev 93 43 [a0, a1, a2, a3, a4, a5] r σ else ev 93 35 [a0, a1, a2, a3, a4, a5] r σ := ev_br f_Ub_amend_32 rfl bc_eq
theorem f_Ub_amend_35 : fetch 93 35 = some (.aload 4) := by decide +kernel
theorem e_Ub_amend_35 (a0 a1 a2 a3 a5 : AV) (σ : aM) (l4 : Option (Nat × Int)) (r : List AV)  : ev 93 35 [a0, a1, a2, a3, aQ l4, a5] (r) σ = ev 93 37 [a0, a1, a2, a3, aQ l4, a5] (aQ l4 :: r) σ := ev_go f_Ub_amend_35 rfl
theorem f_Ub_amend_37 : fetch 93 37 = some (.invokevirtual 193) := by decide +kernel
theorem e_Ub_amend_37 (a0 a1 a2 a3 a4 a5 : AV) (σ : aM) (s0 : Int) : ev 93 37 [a0, a1, a2, a3, a4, a5] [aR 8 s0] σ = evK 93 40 [a0, a1, a2, a3, a4, a5] [] (ev 37 0 [aR 8 s0] [] σ) := ev_call f_Ub_amend_37 rfl rfl
theorem f_Ub_amend_40 : fetch 93 40 = some (.ifCond .ne 10) := by decide +kernel
theorem e_Ub_amend_40 (a0 a1 a2 a3 a4 a5 : AV) (σ : aM) (x : Int) (r : List AV) : ev 93 40 [a0, a1, a2, a3, a4, a5] (aI x :: r) σ = if ¬ x = 0 then ev 93 50 [a0, a1, a2, a3, a4, a5] r σ else ev 93 43 [a0, a1, a2, a3, a4, a5] r σ := ev_br f_Ub_amend_40 rfl bc_ne
theorem f_Ub_amend_43 : fetch 93 43 = some (.aload_n 0) := by decide +kernel
theorem e_Ub_amend_43 (a1 a2 a3 a4 a5 : AV) (σ : aM) (l0 : Option (Nat × Int)) (r : List AV)  : ev 93 43 [aQ l0, a1, a2, a3, a4, a5] (r) σ = ev 93 44 [aQ l0, a1, a2, a3, a4, a5] (aQ l0 :: r) σ := ev_go f_Ub_amend_43 rfl
theorem f_Ub_amend_44 : fetch 93 44 = some (.bipush (-6)) := by decide +kernel
theorem e_Ub_amend_44 (a0 a1 a2 a3 a4 a5 : AV) (σ : aM) (r : List AV)  : ev 93 44 [a0, a1, a2, a3, a4, a5] (r) σ = ev 93 46 [a0, a1, a2, a3, a4, a5] (aI (-6) :: r) σ := ev_go f_Ub_amend_44 rfl
theorem f_Ub_amend_46 : fetch 93 46 = some (.invokevirtual 71) := by decide +kernel
theorem e_Ub_amend_46 (a0 a1 a2 a3 a4 a5 : AV) (σ : aM) (s0 : Int) (s1 : Int) : ev 93 46 [a0, a1, a2, a3, a4, a5] [aI s1, aR 0 s0] σ = evK 93 49 [a0, a1, a2, a3, a4, a5] [] (ev 113 0 [aR 0 s0, aI s1] [] σ) := ev_call f_Ub_amend_46 rfl rfl
theorem f_Ub_amend_49 : fetch 93 49 = some (.ireturn) := by decide +kernel
theorem e_Ub_amend_49 (a0 a1 a2 a3 a4 a5 : AV) (σ : aM) (x : Int) : ev 93 49 [a0, a1, a2, a3, a4, a5] [aI x] σ = some ((some (aI x)), σ) := ev_ret f_Ub_amend_49 rfl
theorem f_Ub_amend_50 : fetch 93 50 = some (.aload 4) := by decide +kernel
theorem e_Ub_amend_50 (a0 a1 a2 a3 a5 : AV) (σ : aM) (l4 : Option (Nat × Int)) (r : List AV)  : ev 93 50 [a0, a1, a2, a3, aQ l4, a5] (r) σ = ev 93 52 [a0, a1, a2, a3, aQ l4, a5] (aQ l4 :: r) σ := ev_go f_Ub_amend_50 rfl
theorem f_Ub_amend_52 : fetch 93 52 = some (.getfield 196) := by decide +kernel
theorem e_Ub_amend_52 (a0 a1 a2 a3 a4 a5 : AV) (σ : aM) (i : Int) (r : List AV)  : ev 93 52 [a0, a1, a2, a3, a4, a5] (aR 8 i :: r) σ = ev 93 55 [a0, a1, a2, a3, a4, a5] (aI (gI σ 8 i 6) :: r) σ := ev_go f_Ub_amend_52 rfl
theorem f_Ub_amend_55 : fetch 93 55 = some (.istore 5) := by decide +kernel
theorem e_Ub_amend_55 (a0 a1 a2 a3 a5 : AV) (σ : aM) (x : Int) (l4 : Option (Nat × Int)) (r : List AV)  : ev 93 55 [a0, a1, a2, a3, aQ l4, a5] (aI x :: r) σ = ev 93 57 [a0, a1, a2, a3, aQ l4, aI x] (r) σ := ev_go f_Ub_amend_55 rfl
theorem f_Ub_amend_57 : fetch 93 57 = some (.aload_n 0) := by decide +kernel
theorem e_Ub_amend_57 (a1 a2 a3 a4 a5 : AV) (σ : aM) (l0 : Option (Nat × Int)) (r : List AV)  : ev 93 57 [aQ l0, a1, a2, a3, a4, a5] (r) σ = ev 93 58 [aQ l0, a1, a2, a3, a4, a5] (aQ l0 :: r) σ := ev_go f_Ub_amend_57 rfl
theorem f_Ub_amend_58 : fetch 93 58 = some (.getfield 22) := by decide +kernel
theorem e_Ub_amend_58 (a0 a1 a2 a3 a4 a5 : AV) (σ : aM) (i : Int) (r : List AV)  : ev 93 58 [a0, a1, a2, a3, a4, a5] (aR 0 i :: r) σ = ev 93 61 [a0, a1, a2, a3, a4, a5] (aR 5 0 :: r) σ := ev_go f_Ub_amend_58 rfl
theorem f_Ub_amend_61 : fetch 93 61 = some (.aload 4) := by decide +kernel
theorem e_Ub_amend_61 (a0 a1 a2 a3 a5 : AV) (σ : aM) (l4 : Option (Nat × Int)) (r : List AV)  : ev 93 61 [a0, a1, a2, a3, aQ l4, a5] (r) σ = ev 93 63 [a0, a1, a2, a3, aQ l4, a5] (aQ l4 :: r) σ := ev_go f_Ub_amend_61 rfl
theorem f_Ub_amend_63 : fetch 93 63 = some (.iload_n 2) := by decide +kernel
theorem e_Ub_amend_63 (a0 a1 a3 a4 a5 : AV) (σ : aM) (l2 : Int) (r : List AV)  : ev 93 63 [a0, a1, aI l2, a3, a4, a5] (r) σ = ev 93 64 [a0, a1, aI l2, a3, a4, a5] (aI l2 :: r) σ := ev_go f_Ub_amend_63 rfl
theorem f_Ub_amend_64 : fetch 93 64 = some (.iload_n 3) := by decide +kernel
theorem e_Ub_amend_64 (a0 a1 a2 a4 a5 : AV) (σ : aM) (l3 : Int) (r : List AV)  : ev 93 64 [a0, a1, a2, aI l3, a4, a5] (r) σ = ev 93 65 [a0, a1, a2, aI l3, a4, a5] (aI l3 :: r) σ := ev_go f_Ub_amend_64 rfl
theorem f_Ub_amend_65 : fetch 93 65 = some (.invokevirtual 199) := by decide +kernel
theorem e_Ub_amend_65 (a0 a1 a2 a3 a4 a5 : AV) (σ : aM) (s0 : Int) (s1 : Option (Nat × Int)) (s2 : Int) (s3 : Int) : ev 93 65 [a0, a1, a2, a3, a4, a5] [aI s3, aI s2, aQ s1, aR 5 s0] σ = evK 93 68 [a0, a1, a2, a3, a4, a5] [] (ev 16 0 [aR 5 s0, aQ s1, aI s2, aI s3] [] σ) := ev_call f_Ub_amend_65 rfl rfl
theorem f_Ub_amend_68 : fetch 93 68 = some (.aload 4) := by decide +kernel
theorem e_Ub_amend_68 (a0 a1 a2 a3 a5 : AV) (σ : aM) (l4 : Option (Nat × Int)) (r : List AV)  : ev 93 68 [a0, a1, a2, a3, aQ l4, a5] (r) σ = ev 93 70 [a0, a1, a2, a3, aQ l4, a5] (aQ l4 :: r) σ := ev_go f_Ub_amend_68 rfl
theorem f_Ub_amend_70 : fetch 93 70 = some (.getfield 196) := by decide +kernel
theorem e_Ub_amend_70 (a0 a1 a2 a3 a4 a5 : AV) (σ : aM) (i : Int) (r : List AV)  : ev 93 70 [a0, a1, a2, a3, a4, a5] (aR 8 i :: r) σ = ev 93 73 [a0, a1, a2, a3, a4, a5] (aI (gI σ 8 i 6) :: r) σ := ev_go f_Ub_amend_70 rfl
theorem f_Ub_amend_73 : fetch 93 73 = some (.iload 5) := by decide +kernel
theorem e_Ub_amend_73 (a0 a1 a2 a3 a4 : AV) (σ : aM) (l5 : Int) (r : List AV)  : ev 93 73 [a0, a1, a2, a3, a4, aI l5] (r) σ = ev 93 75 [a0, a1, a2, a3, a4, aI l5] (aI l5 :: r) σ := ev_go f_Ub_amend_73 rfl
theorem f_Ub_amend_75 : fetch 93 75 = some (.isub) := by decide +kernel
theorem e_Ub_amend_75 (a0 a1 a2 a3 a4 a5 : AV) (σ : aM) (x z : Int) (r : List AV)  : ev 93 75 [a0, a1, a2, a3, a4, a5] (aI z :: aI x :: r) σ = ev 93 76 [a0, a1, a2, a3, a4, a5] (aI (wr (x - z)) :: r) σ := ev_go f_Ub_amend_75 rfl
theorem f_Ub_amend_76 : fetch 93 76 = some (.ireturn) := by decide +kernel
theorem e_Ub_amend_76 (a0 a1 a2 a3 a4 a5 : AV) (σ : aM) (x : Int) : ev 93 76 [a0, a1, a2, a3, a4, a5] [aI x] σ = some ((some (aI x)), σ) := ev_ret f_Ub_amend_76 rfl
theorem f_Ub_rule_0 : fetch 94 0 = some (.iload_n 1) := by decide +kernel
theorem e_Ub_rule_0 (a0 a2 : AV) (σ : aM) (l1 : Int) (r : List AV)  : ev 94 0 [a0, aI l1, a2] (r) σ = ev 94 1 [a0, aI l1, a2] (aI l1 :: r) σ := ev_go f_Ub_rule_0 rfl
theorem f_Ub_rule_1 : fetch 94 1 = some (.ifCond .lt 8) := by decide +kernel
theorem e_Ub_rule_1 (a0 a1 a2 : AV) (σ : aM) (x : Int) (r : List AV) : ev 94 1 [a0, a1, a2] (aI x :: r) σ = if x < 0 then ev 94 9 [a0, a1, a2] r σ else ev 94 4 [a0, a1, a2] r σ := ev_br f_Ub_rule_1 rfl bc_lt
theorem f_Ub_rule_4 : fetch 94 4 = some (.iload_n 1) := by decide +kernel
theorem e_Ub_rule_4 (a0 a2 : AV) (σ : aM) (l1 : Int) (r : List AV)  : ev 94 4 [a0, aI l1, a2] (r) σ = ev 94 5 [a0, aI l1, a2] (aI l1 :: r) σ := ev_go f_Ub_rule_4 rfl
theorem f_Ub_rule_5 : fetch 94 5 = some (.iconst 3) := by decide +kernel
theorem e_Ub_rule_5 (a0 a1 a2 : AV) (σ : aM) (r : List AV)  : ev 94 5 [a0, a1, a2] (r) σ = ev 94 6 [a0, a1, a2] (aI 3 :: r) σ := ev_go f_Ub_rule_5 rfl
theorem f_Ub_rule_6 : fetch 94 6 = some (.if_icmp .le 10) := by decide +kernel
theorem e_Ub_rule_6 (a0 a1 a2 : AV) (σ : aM) (x z : Int) (r : List AV) : ev 94 6 [a0, a1, a2] (aI z :: aI x :: r) σ = if x ≤ z then ev 94 16 [a0, a1, a2] r σ else ev 94 9 [a0, a1, a2] r σ := ev_br f_Ub_rule_6 rfl bc_le
theorem f_Ub_rule_9 : fetch 94 9 = some (.aload_n 0) := by decide +kernel
theorem e_Ub_rule_9 (a1 a2 : AV) (σ : aM) (l0 : Option (Nat × Int)) (r : List AV)  : ev 94 9 [aQ l0, a1, a2] (r) σ = ev 94 10 [aQ l0, a1, a2] (aQ l0 :: r) σ := ev_go f_Ub_rule_9 rfl
theorem f_Ub_rule_10 : fetch 94 10 = some (.bipush (-6)) := by decide +kernel
theorem e_Ub_rule_10 (a0 a1 a2 : AV) (σ : aM) (r : List AV)  : ev 94 10 [a0, a1, a2] (r) σ = ev 94 12 [a0, a1, a2] (aI (-6) :: r) σ := ev_go f_Ub_rule_10 rfl
theorem f_Ub_rule_12 : fetch 94 12 = some (.invokevirtual 71) := by decide +kernel
theorem e_Ub_rule_12 (a0 a1 a2 : AV) (σ : aM) (s0 : Int) (s1 : Int) : ev 94 12 [a0, a1, a2] [aI s1, aR 0 s0] σ = evK 94 15 [a0, a1, a2] [] (ev 113 0 [aR 0 s0, aI s1] [] σ) := ev_call f_Ub_rule_12 rfl rfl
theorem f_Ub_rule_15 : fetch 94 15 = some (.ireturn) := by decide +kernel
theorem e_Ub_rule_15 (a0 a1 a2 : AV) (σ : aM) (x : Int) : ev 94 15 [a0, a1, a2] [aI x] σ = some ((some (aI x)), σ) := ev_ret f_Ub_rule_15 rfl
theorem f_Ub_rule_16 : fetch 94 16 = some (.aload_n 0) := by decide +kernel
theorem e_Ub_rule_16 (a1 a2 : AV) (σ : aM) (l0 : Option (Nat × Int)) (r : List AV)  : ev 94 16 [aQ l0, a1, a2] (r) σ = ev 94 17 [aQ l0, a1, a2] (aQ l0 :: r) σ := ev_go f_Ub_rule_16 rfl
theorem f_Ub_rule_17 : fetch 94 17 = some (.getfield 30) := by decide +kernel
theorem e_Ub_rule_17 (a0 a1 a2 : AV) (σ : aM) (i : Int) (r : List AV)  : ev 94 17 [a0, a1, a2] (aR 0 i :: r) σ = ev 94 20 [a0, a1, a2] (aR 6 0 :: r) σ := ev_go f_Ub_rule_17 rfl
theorem f_Ub_rule_20 : fetch 94 20 = some (.getfield 203) := by decide +kernel
theorem e_Ub_rule_20 (a0 a1 a2 : AV) (σ : aM) (i : Int) (r : List AV)  : ev 94 20 [a0, a1, a2] (aR 6 i :: r) σ = ev 94 23 [a0, a1, a2] (aI (gI σ 6 i 4) :: r) σ := ev_go f_Ub_rule_20 rfl
theorem f_Ub_rule_23 : fetch 94 23 = some (.istore_n 2) := by decide +kernel
theorem e_Ub_rule_23 (a0 a2 : AV) (σ : aM) (x : Int) (l1 : Int) (r : List AV)  : ev 94 23 [a0, aI l1, a2] (aI x :: r) σ = ev 94 24 [a0, aI l1, aI x] (r) σ := ev_go f_Ub_rule_23 rfl
theorem f_Ub_rule_24 : fetch 94 24 = some (.aload_n 0) := by decide +kernel
theorem e_Ub_rule_24 (a1 a2 : AV) (σ : aM) (l0 : Option (Nat × Int)) (r : List AV)  : ev 94 24 [aQ l0, a1, a2] (r) σ = ev 94 25 [aQ l0, a1, a2] (aQ l0 :: r) σ := ev_go f_Ub_rule_24 rfl
theorem f_Ub_rule_25 : fetch 94 25 = some (.getfield 30) := by decide +kernel
theorem e_Ub_rule_25 (a0 a1 a2 : AV) (σ : aM) (i : Int) (r : List AV)  : ev 94 25 [a0, a1, a2] (aR 0 i :: r) σ = ev 94 28 [a0, a1, a2] (aR 6 0 :: r) σ := ev_go f_Ub_rule_25 rfl
theorem f_Ub_rule_28 : fetch 94 28 = some (.iload_n 1) := by decide +kernel
theorem e_Ub_rule_28 (a0 a2 : AV) (σ : aM) (l1 : Int) (r : List AV)  : ev 94 28 [a0, aI l1, a2] (r) σ = ev 94 29 [a0, aI l1, a2] (aI l1 :: r) σ := ev_go f_Ub_rule_28 rfl
theorem f_Ub_rule_29 : fetch 94 29 = some (.putfield 203) := by decide +kernel
theorem e_Ub_rule_29 (a0 a1 a2 : AV) (σ : aM) (i : Int) (x : Int) (r : List AV)  : ev 94 29 [a0, a1, a2] (aI x :: aR 6 i :: r) σ = ev 94 32 [a0, a1, a2] (r) (uI σ 6 i 4 x) := ev_go f_Ub_rule_29 rfl
theorem f_Ub_rule_32 : fetch 94 32 = some (.iload_n 2) := by decide +kernel
theorem e_Ub_rule_32 (a0 a1 : AV) (σ : aM) (l2 : Int) (r : List AV)  : ev 94 32 [a0, a1, aI l2] (r) σ = ev 94 33 [a0, a1, aI l2] (aI l2 :: r) σ := ev_go f_Ub_rule_32 rfl
theorem f_Ub_rule_33 : fetch 94 33 = some (.ireturn) := by decide +kernel
theorem e_Ub_rule_33 (a0 a1 a2 : AV) (σ : aM) (x : Int) : ev 94 33 [a0, a1, a2] [aI x] σ = some ((some (aI x)), σ) := ev_ret f_Ub_rule_33 rfl
theorem f_Ub_uncross_0 : fetch 95 0 = some (.aload_n 0) := by decide +kernel
theorem e_Ub_uncross_0 (σ : aM) (l0 : Option (Nat × Int)) (r : List AV)  : ev 95 0 [aQ l0] (r) σ = ev 95 1 [aQ l0] (aQ l0 :: r) σ := ev_go f_Ub_uncross_0 rfl
theorem f_Ub_uncross_1 : fetch 95 1 = some (.getfield 30) := by decide +kernel
theorem e_Ub_uncross_1 (a0 : AV) (σ : aM) (i : Int) (r : List AV)  : ev 95 1 [a0] (aR 0 i :: r) σ = ev 95 4 [a0] (aR 6 0 :: r) σ := ev_go f_Ub_uncross_1 rfl
theorem f_Ub_uncross_4 : fetch 95 4 = some (.getfield 160) := by decide +kernel
theorem e_Ub_uncross_4 (a0 : AV) (σ : aM) (i : Int) (r : List AV)  : ev 95 4 [a0] (aR 6 i :: r) σ = ev 95 7 [a0] (aI (gI σ 6 i 3) :: r) σ := ev_go f_Ub_uncross_4 rfl
theorem f_Ub_uncross_7 : fetch 95 7 = some (.ifCond .eq 10) := by decide +kernel
theorem e_Ub_uncross_7 (a0 : AV) (σ : aM) (x : Int) (r : List AV) : ev 95 7 [a0] (aI x :: r) σ = if x = 0 then ev 95 17 [a0] r σ else ev 95 10 [a0] r σ := ev_br f_Ub_uncross_7 rfl bc_eq
theorem f_Ub_uncross_10 : fetch 95 10 = some (.aload_n 0) := by decide +kernel
theorem e_Ub_uncross_10 (σ : aM) (l0 : Option (Nat × Int)) (r : List AV)  : ev 95 10 [aQ l0] (r) σ = ev 95 11 [aQ l0] (aQ l0 :: r) σ := ev_go f_Ub_uncross_10 rfl
theorem f_Ub_uncross_11 : fetch 95 11 = some (.bipush (-6)) := by decide +kernel
theorem e_Ub_uncross_11 (a0 : AV) (σ : aM) (r : List AV)  : ev 95 11 [a0] (r) σ = ev 95 13 [a0] (aI (-6) :: r) σ := ev_go f_Ub_uncross_11 rfl
theorem f_Ub_uncross_13 : fetch 95 13 = some (.invokevirtual 71) := by decide +kernel
theorem e_Ub_uncross_13 (a0 : AV) (σ : aM) (s0 : Int) (s1 : Int) : ev 95 13 [a0] [aI s1, aR 0 s0] σ = evK 95 16 [a0] [] (ev 113 0 [aR 0 s0, aI s1] [] σ) := ev_call f_Ub_uncross_13 rfl rfl
theorem f_Ub_uncross_16 : fetch 95 16 = some (.ireturn) := by decide +kernel
theorem e_Ub_uncross_16 (a0 : AV) (σ : aM) (x : Int) : ev 95 16 [a0] [aI x] σ = some ((some (aI x)), σ) := ev_ret f_Ub_uncross_16 rfl
theorem f_Ub_uncross_17 : fetch 95 17 = some (.aload_n 0) := by decide +kernel
theorem e_Ub_uncross_17 (σ : aM) (l0 : Option (Nat × Int)) (r : List AV)  : ev 95 17 [aQ l0] (r) σ = ev 95 18 [aQ l0] (aQ l0 :: r) σ := ev_go f_Ub_uncross_17 rfl
theorem f_Ub_uncross_18 : fetch 95 18 = some (.getfield 34) := by decide +kernel
theorem e_Ub_uncross_18 (a0 : AV) (σ : aM) (i : Int) (r : List AV)  : ev 95 18 [a0] (aR 0 i :: r) σ = ev 95 21 [a0] (aR 13 0 :: r) σ := ev_go f_Ub_uncross_18 rfl
theorem f_Ub_uncross_21 : fetch 95 21 = some (.aload_n 0) := by decide +kernel
theorem e_Ub_uncross_21 (σ : aM) (l0 : Option (Nat × Int)) (r : List AV)  : ev 95 21 [aQ l0] (r) σ = ev 95 22 [aQ l0] (aQ l0 :: r) σ := ev_go f_Ub_uncross_21 rfl
theorem f_Ub_uncross_22 : fetch 95 22 = some (.getfield 30) := by decide +kernel
theorem e_Ub_uncross_22 (a0 : AV) (σ : aM) (i : Int) (r : List AV)  : ev 95 22 [a0] (aR 0 i :: r) σ = ev 95 25 [a0] (aR 6 0 :: r) σ := ev_go f_Ub_uncross_22 rfl
theorem f_Ub_uncross_25 : fetch 95 25 = some (.invokevirtual 206) := by decide +kernel
theorem e_Ub_uncross_25 (a0 : AV) (σ : aM) (s0 : Int) (s1 : Option (Nat × Int)) : ev 95 25 [a0] [aQ s1, aR 13 s0] σ = evK 95 28 [a0] [] (ev 1 0 [aR 13 s0, aQ s1, aU, aU, aU, aU, aU, aU, aU, aU] [] σ) := ev_call f_Ub_uncross_25 rfl rfl
theorem f_Ub_uncross_28 : fetch 95 28 = some (.aload_n 0) := by decide +kernel
theorem e_Ub_uncross_28 (σ : aM) (l0 : Option (Nat × Int)) (r : List AV)  : ev 95 28 [aQ l0] (r) σ = ev 95 29 [aQ l0] (aQ l0 :: r) σ := ev_go f_Ub_uncross_28 rfl
theorem f_Ub_uncross_29 : fetch 95 29 = some (.getfield 22) := by decide +kernel
theorem e_Ub_uncross_29 (a0 : AV) (σ : aM) (i : Int) (r : List AV)  : ev 95 29 [a0] (aR 0 i :: r) σ = ev 95 32 [a0] (aR 5 0 :: r) σ := ev_go f_Ub_uncross_29 rfl
theorem f_Ub_uncross_32 : fetch 95 32 = some (.aload_n 0) := by decide +kernel
theorem e_Ub_uncross_32 (σ : aM) (l0 : Option (Nat × Int)) (r : List AV)  : ev 95 32 [aQ l0] (r) σ = ev 95 33 [aQ l0] (aQ l0 :: r) σ := ev_go f_Ub_uncross_32 rfl
theorem f_Ub_uncross_33 : fetch 95 33 = some (.getfield 34) := by decide +kernel
theorem e_Ub_uncross_33 (a0 : AV) (σ : aM) (i : Int) (r : List AV)  : ev 95 33 [a0] (aR 0 i :: r) σ = ev 95 36 [a0] (aR 13 0 :: r) σ := ev_go f_Ub_uncross_33 rfl
theorem f_Ub_uncross_36 : fetch 95 36 = some (.getfield 210) := by decide +kernel
theorem e_Ub_uncross_36 (a0 : AV) (σ : aM) (i : Int) (r : List AV)  : ev 95 36 [a0] (aR 13 i :: r) σ = ev 95 39 [a0] (aI (gI σ 13 i 2) :: r) σ := ev_go f_Ub_uncross_36 rfl
theorem f_Ub_uncross_39 : fetch 95 39 = some (.aload_n 0) := by decide +kernel
theorem e_Ub_uncross_39 (σ : aM) (l0 : Option (Nat × Int)) (r : List AV)  : ev 95 39 [aQ l0] (r) σ = ev 95 40 [aQ l0] (aQ l0 :: r) σ := ev_go f_Ub_uncross_39 rfl
theorem f_Ub_uncross_40 : fetch 95 40 = some (.getfield 34) := by decide +kernel
theorem e_Ub_uncross_40 (a0 : AV) (σ : aM) (i : Int) (r : List AV)  : ev 95 40 [a0] (aR 0 i :: r) σ = ev 95 43 [a0] (aR 13 0 :: r) σ := ev_go f_Ub_uncross_40 rfl
theorem f_Ub_uncross_43 : fetch 95 43 = some (.getfield 213) := by decide +kernel
theorem e_Ub_uncross_43 (a0 : AV) (σ : aM) (i : Int) (r : List AV)  : ev 95 43 [a0] (aR 13 i :: r) σ = ev 95 46 [a0] (aI (gI σ 13 i 3) :: r) σ := ev_go f_Ub_uncross_43 rfl
theorem f_Ub_uncross_46 : fetch 95 46 = some (.invokevirtual 216) := by decide +kernel
theorem e_Ub_uncross_46 (a0 : AV) (σ : aM) (s0 : Int) (s1 : Int) (s2 : Int) : ev 95 46 [a0] [aI s2, aI s1, aR 5 s0] σ = evK 95 49 [a0] [] (ev 17 0 [aR 5 s0, aI s1, aI s2, aU, aU, aU, aU, aU] [] σ) := ev_call f_Ub_uncross_46 rfl rfl
theorem f_Ub_uncross_49 : fetch 95 49 = some (.aload_n 0) := by decide +kernel
theorem e_Ub_uncross_49 (σ : aM) (l0 : Option (Nat × Int)) (r : List AV)  : ev 95 49 [aQ l0] (r) σ = ev 95 50 [aQ l0] (aQ l0 :: r) σ := ev_go f_Ub_uncross_49 rfl
theorem f_Ub_uncross_50 : fetch 95 50 = some (.getfield 34) := by decide +kernel
theorem e_Ub_uncross_50 (a0 : AV) (σ : aM) (i : Int) (r : List AV)  : ev 95 50 [a0] (aR 0 i :: r) σ = ev 95 53 [a0] (aR 13 0 :: r) σ := ev_go f_Ub_uncross_50 rfl
theorem f_Ub_uncross_53 : fetch 95 53 = some (.getfield 213) := by decide +kernel
theorem e_Ub_uncross_53 (a0 : AV) (σ : aM) (i : Int) (r : List AV)  : ev 95 53 [a0] (aR 13 i :: r) σ = ev 95 56 [a0] (aI (gI σ 13 i 3) :: r) σ := ev_go f_Ub_uncross_53 rfl
theorem f_Ub_uncross_56 : fetch 95 56 = some (.ireturn) := by decide +kernel
theorem e_Ub_uncross_56 (a0 : AV) (σ : aM) (x : Int) : ev 95 56 [a0] [aI x] σ = some ((some (aI x)), σ) := ev_ret f_Ub_uncross_56 rfl
theorem f_Ub_close_0 : fetch 96 0 = some (.aload_n 0) := by decide +kernel
theorem e_Ub_close_0 (σ : aM) (l0 : Option (Nat × Int)) (r : List AV)  : ev 96 0 [aQ l0] (r) σ = ev 96 1 [aQ l0] (aQ l0 :: r) σ := ev_go f_Ub_close_0 rfl
theorem f_Ub_close_1 : fetch 96 1 = some (.getfield 30) := by decide +kernel
theorem e_Ub_close_1 (a0 : AV) (σ : aM) (i : Int) (r : List AV)  : ev 96 1 [a0] (aR 0 i :: r) σ = ev 96 4 [a0] (aR 6 0 :: r) σ := ev_go f_Ub_close_1 rfl
theorem f_Ub_close_4 : fetch 96 4 = some (.getfield 160) := by decide +kernel
theorem e_Ub_close_4 (a0 : AV) (σ : aM) (i : Int) (r : List AV)  : ev 96 4 [a0] (aR 6 i :: r) σ = ev 96 7 [a0] (aI (gI σ 6 i 3) :: r) σ := ev_go f_Ub_close_4 rfl
theorem f_Ub_close_7 : fetch 96 7 = some (.iconst 1) := by decide +kernel
theorem e_Ub_close_7 (a0 : AV) (σ : aM) (r : List AV)  : ev 96 7 [a0] (r) σ = ev 96 8 [a0] (aI 1 :: r) σ := ev_go f_Ub_close_7 rfl
theorem f_Ub_close_8 : fetch 96 8 = some (.if_icmp .eq 10) := by decide +kernel
theorem e_Ub_close_8 (a0 : AV) (σ : aM) (x z : Int) (r : List AV) : ev 96 8 [a0] (aI z :: aI x :: r) σ = if x = z then ev 96 18 [a0] r σ else ev 96 11 [a0] r σ := ev_br f_Ub_close_8 rfl bc_eq
theorem f_Ub_close_11 : fetch 96 11 = some (.aload_n 0) := by decide +kernel
theorem e_Ub_close_11 (σ : aM) (l0 : Option (Nat × Int)) (r : List AV)  : ev 96 11 [aQ l0] (r) σ = ev 96 12 [aQ l0] (aQ l0 :: r) σ := ev_go f_Ub_close_11 rfl
theorem f_Ub_close_12 : fetch 96 12 = some (.bipush (-6)) := by decide +kernel
theorem e_Ub_close_12 (a0 : AV) (σ : aM) (r : List AV)  : ev 96 12 [a0] (r) σ = ev 96 14 [a0] (aI (-6) :: r) σ := ev_go f_Ub_close_12 rfl
theorem f_Ub_close_14 : fetch 96 14 = some (.invokevirtual 71) := by decide +kernel
theorem e_Ub_close_14 (a0 : AV) (σ : aM) (s0 : Int) (s1 : Int) : ev 96 14 [a0] [aI s1, aR 0 s0] σ = evK 96 17 [a0] [] (ev 113 0 [aR 0 s0, aI s1] [] σ) := ev_call f_Ub_close_14 rfl rfl
theorem f_Ub_close_17 : fetch 96 17 = some (.ireturn) := by decide +kernel
theorem e_Ub_close_17 (a0 : AV) (σ : aM) (x : Int) : ev 96 17 [a0] [aI x] σ = some ((some (aI x)), σ) := ev_ret f_Ub_close_17 rfl
theorem f_Ub_close_18 : fetch 96 18 = some (.aload_n 0) := by decide +kernel
theorem e_Ub_close_18 (σ : aM) (l0 : Option (Nat × Int)) (r : List AV)  : ev 96 18 [aQ l0] (r) σ = ev 96 19 [aQ l0] (aQ l0 :: r) σ := ev_go f_Ub_close_18 rfl
theorem f_Ub_close_19 : fetch 96 19 = some (.getfield 30) := by decide +kernel
theorem e_Ub_close_19 (a0 : AV) (σ : aM) (i : Int) (r : List AV)  : ev 96 19 [a0] (aR 0 i :: r) σ = ev 96 22 [a0] (aR 6 0 :: r) σ := ev_go f_Ub_close_19 rfl
theorem f_Ub_close_22 : fetch 96 22 = some (.iconst 0) := by decide +kernel
theorem e_Ub_close_22 (a0 : AV) (σ : aM) (r : List AV)  : ev 96 22 [a0] (r) σ = ev 96 23 [a0] (aI 0 :: r) σ := ev_go f_Ub_close_22 rfl
theorem f_Ub_close_23 : fetch 96 23 = some (.putfield 160) := by decide +kernel
theorem e_Ub_close_23 (a0 : AV) (σ : aM) (i : Int) (x : Int) (r : List AV)  : ev 96 23 [a0] (aI x :: aR 6 i :: r) σ = ev 96 26 [a0] (r) (uI σ 6 i 3 x) := ev_go f_Ub_close_23 rfl
theorem f_Ub_close_26 : fetch 96 26 = some (.aload_n 0) := by decide +kernel
theorem e_Ub_close_26 (σ : aM) (l0 : Option (Nat × Int)) (r : List AV)  : ev 96 26 [aQ l0] (r) σ = ev 96 27 [aQ l0] (aQ l0 :: r) σ := ev_go f_Ub_close_26 rfl
theorem f_Ub_close_27 : fetch 96 27 = some (.getfield 30) := by decide +kernel
theorem e_Ub_close_27 (a0 : AV) (σ : aM) (i : Int) (r : List AV)  : ev 96 27 [a0] (aR 0 i :: r) σ = ev 96 30 [a0] (aR 6 0 :: r) σ := ev_go f_Ub_close_27 rfl
theorem f_Ub_close_30 : fetch 96 30 = some (.iconst 1) := by decide +kernel
theorem e_Ub_close_30 (a0 : AV) (σ : aM) (r : List AV)  : ev 96 30 [a0] (r) σ = ev 96 31 [a0] (aI 1 :: r) σ := ev_go f_Ub_close_30 rfl
theorem f_Ub_close_31 : fetch 96 31 = some (.invokevirtual 219) := by decide +kernel
theorem e_Ub_close_31 (a0 : AV) (σ : aM) (s0 : Int) (s1 : Int) : ev 96 31 [a0] [aI s1, aR 6 s0] σ = evK 96 34 [a0] [] (ev 11 0 [aR 6 s0, aI s1, aU, aU] [] σ) := ev_call f_Ub_close_31 rfl rfl
theorem f_Ub_close_34 : fetch 96 34 = some (.ireturn) := by decide +kernel
theorem e_Ub_close_34 (a0 : AV) (σ : aM) (x : Int) : ev 96 34 [a0] [aI x] σ = some ((some (aI x)), σ) := ev_ret f_Ub_close_34 rfl
theorem f_Ub_crossing_0 : fetch 97 0 = some (.iload_n 1) := by decide +kernel
theorem e_Ub_crossing_0 (a0 : AV) (σ : aM) (l1 : Int) (r : List AV)  : ev 97 0 [a0, aI l1] (r) σ = ev 97 1 [a0, aI l1] (aI l1 :: r) σ := ev_go f_Ub_crossing_0 rfl
theorem f_Ub_crossing_1 : fetch 97 1 = some (.ifCond .lt 8) := by decide +kernel
theorem e_Ub_crossing_1 (a0 a1 : AV) (σ : aM) (x : Int) (r : List AV) : ev 97 1 [a0, a1] (aI x :: r) σ = if x < 0 then ev 97 9 [a0, a1] r σ else ev 97 4 [a0, a1] r σ := ev_br f_Ub_crossing_1 rfl bc_lt
theorem f_Ub_crossing_4 : fetch 97 4 = some (.iload_n 1) := by decide +kernel
theorem e_Ub_crossing_4 (a0 : AV) (σ : aM) (l1 : Int) (r : List AV)  : ev 97 4 [a0, aI l1] (r) σ = ev 97 5 [a0, aI l1] (aI l1 :: r) σ := ev_go f_Ub_crossing_4 rfl
theorem f_Ub_crossing_5 : fetch 97 5 = some (.iconst 1) := by decide +kernel
theorem e_Ub_crossing_5 (a0 a1 : AV) (σ : aM) (r : List AV)  : ev 97 5 [a0, a1] (r) σ = ev 97 6 [a0, a1] (aI 1 :: r) σ := ev_go f_Ub_crossing_5 rfl
theorem f_Ub_crossing_6 : fetch 97 6 = some (.if_icmp .le 10) := by decide +kernel
theorem e_Ub_crossing_6 (a0 a1 : AV) (σ : aM) (x z : Int) (r : List AV) : ev 97 6 [a0, a1] (aI z :: aI x :: r) σ = if x ≤ z then ev 97 16 [a0, a1] r σ else ev 97 9 [a0, a1] r σ := ev_br f_Ub_crossing_6 rfl bc_le
theorem f_Ub_crossing_9 : fetch 97 9 = some (.aload_n 0) := by decide +kernel
theorem e_Ub_crossing_9 (a1 : AV) (σ : aM) (l0 : Option (Nat × Int)) (r : List AV)  : ev 97 9 [aQ l0, a1] (r) σ = ev 97 10 [aQ l0, a1] (aQ l0 :: r) σ := ev_go f_Ub_crossing_9 rfl
theorem f_Ub_crossing_10 : fetch 97 10 = some (.bipush (-5)) := by decide +kernel
theorem e_Ub_crossing_10 (a0 a1 : AV) (σ : aM) (r : List AV)  : ev 97 10 [a0, a1] (r) σ = ev 97 12 [a0, a1] (aI (-5) :: r) σ := ev_go f_Ub_crossing_10 rfl
theorem f_Ub_crossing_12 : fetch 97 12 = some (.invokevirtual 71) := by decide +kernel
theorem e_Ub_crossing_12 (a0 a1 : AV) (σ : aM) (s0 : Int) (s1 : Int) : ev 97 12 [a0, a1] [aI s1, aR 0 s0] σ = evK 97 15 [a0, a1] [] (ev 113 0 [aR 0 s0, aI s1] [] σ) := ev_call f_Ub_crossing_12 rfl rfl
theorem f_Ub_crossing_15 : fetch 97 15 = some (.ireturn) := by decide +kernel
theorem e_Ub_crossing_15 (a0 a1 : AV) (σ : aM) (x : Int) : ev 97 15 [a0, a1] [aI x] σ = some ((some (aI x)), σ) := ev_ret f_Ub_crossing_15 rfl
theorem f_Ub_crossing_16 : fetch 97 16 = some (.aload_n 0) := by decide +kernel
theorem e_Ub_crossing_16 (a1 : AV) (σ : aM) (l0 : Option (Nat × Int)) (r : List AV)  : ev 97 16 [aQ l0, a1] (r) σ = ev 97 17 [aQ l0, a1] (aQ l0 :: r) σ := ev_go f_Ub_crossing_16 rfl
theorem f_Ub_crossing_17 : fetch 97 17 = some (.getfield 30) := by decide +kernel
theorem e_Ub_crossing_17 (a0 a1 : AV) (σ : aM) (i : Int) (r : List AV)  : ev 97 17 [a0, a1] (aR 0 i :: r) σ = ev 97 20 [a0, a1] (aR 6 0 :: r) σ := ev_go f_Ub_crossing_17 rfl
theorem f_Ub_crossing_20 : fetch 97 20 = some (.getfield 160) := by decide +kernel
theorem e_Ub_crossing_20 (a0 a1 : AV) (σ : aM) (i : Int) (r : List AV)  : ev 97 20 [a0, a1] (aR 6 i :: r) σ = ev 97 23 [a0, a1] (aI (gI σ 6 i 3) :: r) σ := ev_go f_Ub_crossing_20 rfl
theorem f_Ub_crossing_23 : fetch 97 23 = some (.ifCond .eq 10) := by decide +kernel
theorem e_Ub_crossing_23 (a0 a1 : AV) (σ : aM) (x : Int) (r : List AV) : ev 97 23 [a0, a1] (aI x :: r) σ = if x = 0 then ev 97 33 [a0, a1] r σ else ev 97 26 [a0, a1] r σ := ev_br f_Ub_crossing_23 rfl bc_eq
theorem f_Ub_crossing_26 : fetch 97 26 = some (.aload_n 0) := by decide +kernel
theorem e_Ub_crossing_26 (a1 : AV) (σ : aM) (l0 : Option (Nat × Int)) (r : List AV)  : ev 97 26 [aQ l0, a1] (r) σ = ev 97 27 [aQ l0, a1] (aQ l0 :: r) σ := ev_go f_Ub_crossing_26 rfl
theorem f_Ub_crossing_27 : fetch 97 27 = some (.bipush (-6)) := by decide +kernel
theorem e_Ub_crossing_27 (a0 a1 : AV) (σ : aM) (r : List AV)  : ev 97 27 [a0, a1] (r) σ = ev 97 29 [a0, a1] (aI (-6) :: r) σ := ev_go f_Ub_crossing_27 rfl
theorem f_Ub_crossing_29 : fetch 97 29 = some (.invokevirtual 71) := by decide +kernel
theorem e_Ub_crossing_29 (a0 a1 : AV) (σ : aM) (s0 : Int) (s1 : Int) : ev 97 29 [a0, a1] [aI s1, aR 0 s0] σ = evK 97 32 [a0, a1] [] (ev 113 0 [aR 0 s0, aI s1] [] σ) := ev_call f_Ub_crossing_29 rfl rfl
theorem f_Ub_crossing_32 : fetch 97 32 = some (.ireturn) := by decide +kernel
theorem e_Ub_crossing_32 (a0 a1 : AV) (σ : aM) (x : Int) : ev 97 32 [a0, a1] [aI x] σ = some ((some (aI x)), σ) := ev_ret f_Ub_crossing_32 rfl
theorem f_Ub_crossing_33 : fetch 97 33 = some (.aload_n 0) := by decide +kernel
theorem e_Ub_crossing_33 (a1 : AV) (σ : aM) (l0 : Option (Nat × Int)) (r : List AV)  : ev 97 33 [aQ l0, a1] (r) σ = ev 97 34 [aQ l0, a1] (aQ l0 :: r) σ := ev_go f_Ub_crossing_33 rfl
theorem f_Ub_crossing_34 : fetch 97 34 = some (.getfield 34) := by decide +kernel
theorem e_Ub_crossing_34 (a0 a1 : AV) (σ : aM) (i : Int) (r : List AV)  : ev 97 34 [a0, a1] (aR 0 i :: r) σ = ev 97 37 [a0, a1] (aR 13 0 :: r) σ := ev_go f_Ub_crossing_34 rfl
theorem f_Ub_crossing_37 : fetch 97 37 = some (.aload_n 0) := by decide +kernel
theorem e_Ub_crossing_37 (a1 : AV) (σ : aM) (l0 : Option (Nat × Int)) (r : List AV)  : ev 97 37 [aQ l0, a1] (r) σ = ev 97 38 [aQ l0, a1] (aQ l0 :: r) σ := ev_go f_Ub_crossing_37 rfl
theorem f_Ub_crossing_38 : fetch 97 38 = some (.getfield 30) := by decide +kernel
theorem e_Ub_crossing_38 (a0 a1 : AV) (σ : aM) (i : Int) (r : List AV)  : ev 97 38 [a0, a1] (aR 0 i :: r) σ = ev 97 41 [a0, a1] (aR 6 0 :: r) σ := ev_go f_Ub_crossing_38 rfl
theorem f_Ub_crossing_41 : fetch 97 41 = some (.invokevirtual 206) := by decide +kernel
theorem e_Ub_crossing_41 (a0 a1 : AV) (σ : aM) (s0 : Int) (s1 : Option (Nat × Int)) : ev 97 41 [a0, a1] [aQ s1, aR 13 s0] σ = evK 97 44 [a0, a1] [] (ev 1 0 [aR 13 s0, aQ s1, aU, aU, aU, aU, aU, aU, aU, aU] [] σ) := ev_call f_Ub_crossing_41 rfl rfl
theorem f_Ub_crossing_44 : fetch 97 44 = some (.iload_n 1) := by decide +kernel
theorem e_Ub_crossing_44 (a0 : AV) (σ : aM) (l1 : Int) (r : List AV)  : ev 97 44 [a0, aI l1] (r) σ = ev 97 45 [a0, aI l1] (aI l1 :: r) σ := ev_go f_Ub_crossing_44 rfl
theorem f_Ub_crossing_45 : fetch 97 45 = some (.ifCond .ne 13) := by decide +kernel
theorem e_Ub_crossing_45 (a0 a1 : AV) (σ : aM) (x : Int) (r : List AV) : ev 97 45 [a0, a1] (aI x :: r) σ = if ¬ x = 0 then ev 97 58 [a0, a1] r σ else ev 97 48 [a0, a1] r σ := ev_br f_Ub_crossing_45 rfl bc_ne
theorem f_Ub_crossing_48 : fetch 97 48 = some (.aload_n 0) := by decide +kernel
theorem e_Ub_crossing_48 (a1 : AV) (σ : aM) (l0 : Option (Nat × Int)) (r : List AV)  : ev 97 48 [aQ l0, a1] (r) σ = ev 97 49 [aQ l0, a1] (aQ l0 :: r) σ := ev_go f_Ub_crossing_48 rfl
theorem f_Ub_crossing_49 : fetch 97 49 = some (.getfield 34) := by decide +kernel
theorem e_Ub_crossing_49 (a0 a1 : AV) (σ : aM) (i : Int) (r : List AV)  : ev 97 49 [a0, a1] (aR 0 i :: r) σ = ev 97 52 [a0, a1] (aR 13 0 :: r) σ := ev_go f_Ub_crossing_49 rfl
theorem f_Ub_crossing_52 : fetch 97 52 = some (.getfield 210) := by decide +kernel
theorem e_Ub_crossing_52 (a0 a1 : AV) (σ : aM) (i : Int) (r : List AV)  : ev 97 52 [a0, a1] (aR 13 i :: r) σ = ev 97 55 [a0, a1] (aI (gI σ 13 i 2) :: r) σ := ev_go f_Ub_crossing_52 rfl
theorem f_Ub_crossing_55 : fetch 97 55 = some (.goto 10) := by decide +kernel
theorem e_Ub_crossing_55 (a0 a1 : AV) (σ : aM) (r : List AV)  : ev 97 55 [a0, a1] (r) σ = ev 97 65 [a0, a1] (r) σ := ev_go f_Ub_crossing_55 rfl
theorem f_Ub_crossing_58 : fetch 97 58 = some (.aload_n 0) := by decide +kernel
theorem e_Ub_crossing_58 (a1 : AV) (σ : aM) (l0 : Option (Nat × Int)) (r : List AV)  : ev 97 58 [aQ l0, a1] (r) σ = ev 97 59 [aQ l0, a1] (aQ l0 :: r) σ := ev_go f_Ub_crossing_58 rfl
theorem f_Ub_crossing_59 : fetch 97 59 = some (.getfield 34) := by decide +kernel
theorem e_Ub_crossing_59 (a0 a1 : AV) (σ : aM) (i : Int) (r : List AV)  : ev 97 59 [a0, a1] (aR 0 i :: r) σ = ev 97 62 [a0, a1] (aR 13 0 :: r) σ := ev_go f_Ub_crossing_59 rfl
theorem f_Ub_crossing_62 : fetch 97 62 = some (.getfield 213) := by decide +kernel
theorem e_Ub_crossing_62 (a0 a1 : AV) (σ : aM) (i : Int) (r : List AV)  : ev 97 62 [a0, a1] (aR 13 i :: r) σ = ev 97 65 [a0, a1] (aI (gI σ 13 i 3) :: r) σ := ev_go f_Ub_crossing_62 rfl
theorem f_Ub_crossing_65 : fetch 97 65 = some (.ireturn) := by decide +kernel
theorem e_Ub_crossing_65 (a0 a1 : AV) (σ : aM) (x : Int) : ev 97 65 [a0, a1] [aI x] σ = some ((some (aI x)), σ) := ev_ret f_Ub_crossing_65 rfl
theorem f_Ub_orderOf_0 : fetch 98 0 = some (.aload_n 0) := by decide +kernel
theorem e_Ub_orderOf_0 (a1 a2 a3 : AV) (σ : aM) (l0 : Option (Nat × Int)) (r : List AV)  : ev 98 0 [aQ l0, a1, a2, a3] (r) σ = ev 98 1 [aQ l0, a1, a2, a3] (aQ l0 :: r) σ := ev_go f_Ub_orderOf_0 rfl
theorem f_Ub_orderOf_1 : fetch 98 1 = some (.getfield 30) := by decide +kernel
theorem e_Ub_orderOf_1 (a0 a1 a2 a3 : AV) (σ : aM) (i : Int) (r : List AV)  : ev 98 1 [a0, a1, a2, a3] (aR 0 i :: r) σ = ev 98 4 [a0, a1, a2, a3] (aR 6 0 :: r) σ := ev_go f_Ub_orderOf_1 rfl
theorem f_Ub_orderOf_4 : fetch 98 4 = some (.iload_n 1) := by decide +kernel
theorem e_Ub_orderOf_4 (a0 a2 a3 : AV) (σ : aM) (l1 : Int) (r : List AV)  : ev 98 4 [a0, aI l1, a2, a3] (r) σ = ev 98 5 [a0, aI l1, a2, a3] (aI l1 :: r) σ := ev_go f_Ub_orderOf_4 rfl
theorem f_Ub_orderOf_5 : fetch 98 5 = some (.invokevirtual 116) := by decide +kernel
theorem e_Ub_orderOf_5 (a0 a1 a2 a3 : AV) (σ : aM) (s0 : Int) (s1 : Int) : ev 98 5 [a0, a1, a2, a3] [aI s1, aR 6 s0] σ = evK 98 8 [a0, a1, a2, a3] [] (ev 5 0 [aR 6 s0, aI s1] [] σ) := ev_call f_Ub_orderOf_5 rfl rfl
theorem f_Ub_orderOf_8 : fetch 98 8 = some (.astore_n 3) := by decide +kernel
theorem e_Ub_orderOf_8 (a0 a1 a3 : AV) (σ : aM) (q : Option (Nat × Int)) (l2 : Int) (r : List AV)  : ev 98 8 [a0, a1, aI l2, a3] (aQ q :: r) σ = ev 98 9 [a0, a1, aI l2, aQ q] (r) σ := ev_go f_Ub_orderOf_8 rfl
theorem f_Ub_orderOf_9 : fetch 98 9 = some (.aload_n 3) := by decide +kernel
theorem e_Ub_orderOf_9 (a0 a1 a2 : AV) (σ : aM) (l3 : Option (Nat × Int)) (r : List AV)  : ev 98 9 [a0, a1, a2, aQ l3] (r) σ = ev 98 10 [a0, a1, a2, aQ l3] (aQ l3 :: r) σ := ev_go f_Ub_orderOf_9 rfl
theorem f_Ub_orderOf_10 : fetch 98 10 = some (.ifnonnull 10) := by decide +kernel
theorem e_Ub_orderOf_10 (a0 a1 a2 a3 : AV) (σ : aM) (q : Option (Nat × Int)) (r : List AV) : ev 98 10 [a0, a1, a2, a3] (aQ q :: r) σ = if ¬ q = none then ev 98 20 [a0, a1, a2, a3] r σ else ev 98 13 [a0, a1, a2, a3] r σ := ev_br f_Ub_orderOf_10 rfl bc_som
theorem f_Ub_orderOf_13 : fetch 98 13 = some (.aload_n 0) := by decide +kernel
theorem e_Ub_orderOf_13 (a1 a2 a3 : AV) (σ : aM) (l0 : Option (Nat × Int)) (r : List AV)  : ev 98 13 [aQ l0, a1, a2, a3] (r) σ = ev 98 14 [aQ l0, a1, a2, a3] (aQ l0 :: r) σ := ev_go f_Ub_orderOf_13 rfl
theorem f_Ub_orderOf_14 : fetch 98 14 = some (.bipush (-5)) := by decide +kernel
theorem e_Ub_orderOf_14 (a0 a1 a2 a3 : AV) (σ : aM) (r : List AV)  : ev 98 14 [a0, a1, a2, a3] (r) σ = ev 98 16 [a0, a1, a2, a3] (aI (-5) :: r) σ := ev_go f_Ub_orderOf_14 rfl
theorem f_Ub_orderOf_16 : fetch 98 16 = some (.invokevirtual 71) := by decide +kernel
theorem e_Ub_orderOf_16 (a0 a1 a2 a3 : AV) (σ : aM) (s0 : Int) (s1 : Int) : ev 98 16 [a0, a1, a2, a3] [aI s1, aR 0 s0] σ = evK 98 19 [a0, a1, a2, a3] [] (ev 113 0 [aR 0 s0, aI s1] [] σ) := ev_call f_Ub_orderOf_16 rfl rfl
theorem f_Ub_orderOf_19 : fetch 98 19 = some (.ireturn) := by decide +kernel
theorem e_Ub_orderOf_19 (a0 a1 a2 a3 : AV) (σ : aM) (x : Int) : ev 98 19 [a0, a1, a2, a3] [aI x] σ = some ((some (aI x)), σ) := ev_ret f_Ub_orderOf_19 rfl
theorem f_Ub_orderOf_20 : fetch 98 20 = some (.iload_n 2) := by decide +kernel
theorem e_Ub_orderOf_20 (a0 a1 a3 : AV) (σ : aM) (l2 : Int) (r : List AV)  : ev 98 20 [a0, a1, aI l2, a3] (r) σ = ev 98 21 [a0, a1, aI l2, a3] (aI l2 :: r) σ := ev_go f_Ub_orderOf_20 rfl
theorem f_Ub_orderOf_21 : fetch 98 21 = some (.tableswitch 91 0 7 #[47, 52, 57, 62, 67, 72, 81, 86]) := by decide +kernel
theorem e_Ub_orderOf_21 (a0 a1 a2 a3 : AV) (σ : aM) (r : List AV) (x : Int) (h : x < 0 ∨ 7 < x) : ev 98 21 [a0, a1, a2, a3] (aI x :: r) σ = ev 98 112 [a0, a1, a2, a3] r σ := ev_sw (dflt := 91) (lo := 0) (hi := 7) (offs := #[47, 52, 57, 62, 67, 72, 81, 86]) f_Ub_orderOf_21 rfl h rfl
theorem e_Ub_orderOf_21_0 (a0 a1 a2 a3 : AV) (σ : aM) (r : List AV) : ev 98 21 [a0, a1, a2, a3] (aI 0 :: r) σ = ev 98 68 [a0, a1, a2, a3] r σ := ev_go f_Ub_orderOf_21 rfl
theorem e_Ub_orderOf_21_1 (a0 a1 a2 a3 : AV) (σ : aM) (r : List AV) : ev 98 21 [a0, a1, a2, a3] (aI 1 :: r) σ = ev 98 73 [a0, a1, a2, a3] r σ := ev_go f_Ub_orderOf_21 rfl
theorem e_Ub_orderOf_21_2 (a0 a1 a2 a3 : AV) (σ : aM) (r : List AV) : ev 98 21 [a0, a1, a2, a3] (aI 2 :: r) σ = ev 98 78 [a0, a1, a2, a3] r σ := ev_go f_Ub_orderOf_21 rfl
theorem e_Ub_orderOf_21_3 (a0 a1 a2 a3 : AV) (σ : aM) (r : List AV) : ev 98 21 [a0, a1, a2, a3] (aI 3 :: r) σ = ev 98 83 [a0, a1, a2, a3] r σ := ev_go f_Ub_orderOf_21 rfl
theorem e_Ub_orderOf_21_4 (a0 a1 a2 a3 : AV) (σ : aM) (r : List AV) : ev 98 21 [a0, a1, a2, a3] (aI 4 :: r) σ = ev 98 88 [a0, a1, a2, a3] r σ := ev_go f_Ub_orderOf_21 rfl
theorem e_Ub_orderOf_21_5 (a0 a1 a2 a3 : AV) (σ : aM) (r : List AV) : ev 98 21 [a0, a1, a2, a3] (aI 5 :: r) σ = ev 98 93 [a0, a1, a2, a3] r σ := ev_go f_Ub_orderOf_21 rfl
theorem e_Ub_orderOf_21_6 (a0 a1 a2 a3 : AV) (σ : aM) (r : List AV) : ev 98 21 [a0, a1, a2, a3] (aI 6 :: r) σ = ev 98 102 [a0, a1, a2, a3] r σ := ev_go f_Ub_orderOf_21 rfl
theorem e_Ub_orderOf_21_7 (a0 a1 a2 a3 : AV) (σ : aM) (r : List AV) : ev 98 21 [a0, a1, a2, a3] (aI 7 :: r) σ = ev 98 107 [a0, a1, a2, a3] r σ := ev_go f_Ub_orderOf_21 rfl
theorem f_Ub_orderOf_68 : fetch 98 68 = some (.aload_n 3) := by decide +kernel
theorem e_Ub_orderOf_68 (a0 a1 a2 : AV) (σ : aM) (l3 : Option (Nat × Int)) (r : List AV)  : ev 98 68 [a0, a1, a2, aQ l3] (r) σ = ev 98 69 [a0, a1, a2, aQ l3] (aQ l3 :: r) σ := ev_go f_Ub_orderOf_68 rfl
theorem f_Ub_orderOf_69 : fetch 98 69 = some (.getfield 222) := by decide +kernel
theorem e_Ub_orderOf_69 (a0 a1 a2 a3 : AV) (σ : aM) (i : Int) (r : List AV)  : ev 98 69 [a0, a1, a2, a3] (aR 8 i :: r) σ = ev 98 72 [a0, a1, a2, a3] (aI (gI σ 8 i 1) :: r) σ := ev_go f_Ub_orderOf_69 rfl
theorem f_Ub_orderOf_72 : fetch 98 72 = some (.ireturn) := by decide +kernel
theorem e_Ub_orderOf_72 (a0 a1 a2 a3 : AV) (σ : aM) (x : Int) : ev 98 72 [a0, a1, a2, a3] [aI x] σ = some ((some (aI x)), σ) := ev_ret f_Ub_orderOf_72 rfl
theorem f_Ub_orderOf_73 : fetch 98 73 = some (.aload_n 3) := by decide +kernel
theorem e_Ub_orderOf_73 (a0 a1 a2 : AV) (σ : aM) (l3 : Option (Nat × Int)) (r : List AV)  : ev 98 73 [a0, a1, a2, aQ l3] (r) σ = ev 98 74 [a0, a1, a2, aQ l3] (aQ l3 :: r) σ := ev_go f_Ub_orderOf_73 rfl
theorem f_Ub_orderOf_74 : fetch 98 74 = some (.getfield 225) := by decide +kernel
theorem e_Ub_orderOf_74 (a0 a1 a2 a3 : AV) (σ : aM) (i : Int) (r : List AV)  : ev 98 74 [a0, a1, a2, a3] (aR 8 i :: r) σ = ev 98 77 [a0, a1, a2, a3] (aI (gI σ 8 i 2) :: r) σ := ev_go f_Ub_orderOf_74 rfl
theorem f_Ub_orderOf_77 : fetch 98 77 = some (.ireturn) := by decide +kernel
theorem e_Ub_orderOf_77 (a0 a1 a2 a3 : AV) (σ : aM) (x : Int) : ev 98 77 [a0, a1, a2, a3] [aI x] σ = some ((some (aI x)), σ) := ev_ret f_Ub_orderOf_77 rfl
theorem f_Ub_orderOf_78 : fetch 98 78 = some (.aload_n 3) := by decide +kernel
theorem e_Ub_orderOf_78 (a0 a1 a2 : AV) (σ : aM) (l3 : Option (Nat × Int)) (r : List AV)  : ev 98 78 [a0, a1, a2, aQ l3] (r) σ = ev 98 79 [a0, a1, a2, aQ l3] (aQ l3 :: r) σ := ev_go f_Ub_orderOf_78 rfl
theorem f_Ub_orderOf_79 : fetch 98 79 = some (.getfield 228) := by decide +kernel
theorem e_Ub_orderOf_79 (a0 a1 a2 a3 : AV) (σ : aM) (i : Int) (r : List AV)  : ev 98 79 [a0, a1, a2, a3] (aR 8 i :: r) σ = ev 98 82 [a0, a1, a2, a3] (aI (gI σ 8 i 3) :: r) σ := ev_go f_Ub_orderOf_79 rfl
theorem f_Ub_orderOf_82 : fetch 98 82 = some (.ireturn) := by decide +kernel
theorem e_Ub_orderOf_82 (a0 a1 a2 a3 : AV) (σ : aM) (x : Int) : ev 98 82 [a0, a1, a2, a3] [aI x] σ = some ((some (aI x)), σ) := ev_ret f_Ub_orderOf_82 rfl
theorem f_Ub_orderOf_83 : fetch 98 83 = some (.aload_n 3) := by decide +kernel
theorem e_Ub_orderOf_83 (a0 a1 a2 : AV) (σ : aM) (l3 : Option (Nat × Int)) (r : List AV)  : ev 98 83 [a0, a1, a2, aQ l3] (r) σ = ev 98 84 [a0, a1, a2, aQ l3] (aQ l3 :: r) σ := ev_go f_Ub_orderOf_83 rfl
theorem f_Ub_orderOf_84 : fetch 98 84 = some (.getfield 132) := by decide +kernel
theorem e_Ub_orderOf_84 (a0 a1 a2 a3 : AV) (σ : aM) (i : Int) (r : List AV)  : ev 98 84 [a0, a1, a2, a3] (aR 8 i :: r) σ = ev 98 87 [a0, a1, a2, a3] (aI (gI σ 8 i 4) :: r) σ := ev_go f_Ub_orderOf_84 rfl
theorem f_Ub_orderOf_87 : fetch 98 87 = some (.ireturn) := by decide +kernel
theorem e_Ub_orderOf_87 (a0 a1 a2 a3 : AV) (σ : aM) (x : Int) : ev 98 87 [a0, a1, a2, a3] [aI x] σ = some ((some (aI x)), σ) := ev_ret f_Ub_orderOf_87 rfl
theorem f_Ub_orderOf_88 : fetch 98 88 = some (.aload_n 3) := by decide +kernel
theorem e_Ub_orderOf_88 (a0 a1 a2 : AV) (σ : aM) (l3 : Option (Nat × Int)) (r : List AV)  : ev 98 88 [a0, a1, a2, aQ l3] (r) σ = ev 98 89 [a0, a1, a2, aQ l3] (aQ l3 :: r) σ := ev_go f_Ub_orderOf_88 rfl
theorem f_Ub_orderOf_89 : fetch 98 89 = some (.getfield 190) := by decide +kernel
theorem e_Ub_orderOf_89 (a0 a1 a2 a3 : AV) (σ : aM) (i : Int) (r : List AV)  : ev 98 89 [a0, a1, a2, a3] (aR 8 i :: r) σ = ev 98 92 [a0, a1, a2, a3] (aI (gI σ 8 i 5) :: r) σ := ev_go f_Ub_orderOf_89 rfl
theorem f_Ub_orderOf_92 : fetch 98 92 = some (.ireturn) := by decide +kernel
theorem e_Ub_orderOf_92 (a0 a1 a2 a3 : AV) (σ : aM) (x : Int) : ev 98 92 [a0, a1, a2, a3] [aI x] σ = some ((some (aI x)), σ) := ev_ret f_Ub_orderOf_92 rfl
theorem f_Ub_orderOf_93 : fetch 98 93 = some (.aload_n 0) := by decide +kernel
theorem e_Ub_orderOf_93 (a1 a2 a3 : AV) (σ : aM) (l0 : Option (Nat × Int)) (r : List AV)  : ev 98 93 [aQ l0, a1, a2, a3] (r) σ = ev 98 94 [aQ l0, a1, a2, a3] (aQ l0 :: r) σ := ev_go f_Ub_orderOf_93 rfl
theorem f_Ub_orderOf_94 : fetch 98 94 = some (.getfield 30) := by decide +kernel
theorem e_Ub_orderOf_94 (a0 a1 a2 a3 : AV) (σ : aM) (i : Int) (r : List AV)  : ev 98 94 [a0, a1, a2, a3] (aR 0 i :: r) σ = ev 98 97 [a0, a1, a2, a3] (aR 6 0 :: r) σ := ev_go f_Ub_orderOf_94 rfl
theorem f_Ub_orderOf_97 : fetch 98 97 = some (.aload_n 3) := by decide +kernel
theorem e_Ub_orderOf_97 (a0 a1 a2 : AV) (σ : aM) (l3 : Option (Nat × Int)) (r : List AV)  : ev 98 97 [a0, a1, a2, aQ l3] (r) σ = ev 98 98 [a0, a1, a2, aQ l3] (aQ l3 :: r) σ := ev_go f_Ub_orderOf_97 rfl
theorem f_Ub_orderOf_98 : fetch 98 98 = some (.invokevirtual 139) := by decide +kernel
theorem e_Ub_orderOf_98 (a0 a1 a2 a3 : AV) (σ : aM) (s0 : Int) (s1 : Option (Nat × Int)) : ev 98 98 [a0, a1, a2, a3] [aQ s1, aR 6 s0] σ = evK 98 101 [a0, a1, a2, a3] [] (ev 10 0 [aR 6 s0, aQ s1] [] σ) := ev_call f_Ub_orderOf_98 rfl rfl
theorem f_Ub_orderOf_101 : fetch 98 101 = some (.ireturn) := by decide +kernel
theorem e_Ub_orderOf_101 (a0 a1 a2 a3 : AV) (σ : aM) (x : Int) : ev 98 101 [a0, a1, a2, a3] [aI x] σ = some ((some (aI x)), σ) := ev_ret f_Ub_orderOf_101 rfl
theorem f_Ub_orderOf_102 : fetch 98 102 = some (.aload_n 3) := by decide +kernel
theorem e_Ub_orderOf_102 (a0 a1 a2 : AV) (σ : aM) (l3 : Option (Nat × Int)) (r : List AV)  : ev 98 102 [a0, a1, a2, aQ l3] (r) σ = ev 98 103 [a0, a1, a2, aQ l3] (aQ l3 :: r) σ := ev_go f_Ub_orderOf_102 rfl
theorem f_Ub_orderOf_103 : fetch 98 103 = some (.invokevirtual 135) := by decide +kernel
theorem e_Ub_orderOf_103 (a0 a1 a2 a3 : AV) (σ : aM) (s0 : Int) : ev 98 103 [a0, a1, a2, a3] [aR 8 s0] σ = evK 98 106 [a0, a1, a2, a3] [] (ev 39 0 [aR 8 s0] [] σ) := ev_call f_Ub_orderOf_103 rfl rfl
theorem f_Ub_orderOf_106 : fetch 98 106 = some (.ireturn) := by decide +kernel
theorem e_Ub_orderOf_106 (a0 a1 a2 a3 : AV) (σ : aM) (x : Int) : ev 98 106 [a0, a1, a2, a3] [aI x] σ = some ((some (aI x)), σ) := ev_ret f_Ub_orderOf_106 rfl
theorem f_Ub_orderOf_107 : fetch 98 107 = some (.aload_n 3) := by decide +kernel
theorem e_Ub_orderOf_107 (a0 a1 a2 : AV) (σ : aM) (l3 : Option (Nat × Int)) (r : List AV)  : ev 98 107 [a0, a1, a2, aQ l3] (r) σ = ev 98 108 [a0, a1, a2, aQ l3] (aQ l3 :: r) σ := ev_go f_Ub_orderOf_107 rfl
theorem f_Ub_orderOf_108 : fetch 98 108 = some (.getfield 196) := by decide +kernel
theorem e_Ub_orderOf_108 (a0 a1 a2 a3 : AV) (σ : aM) (i : Int) (r : List AV)  : ev 98 108 [a0, a1, a2, a3] (aR 8 i :: r) σ = ev 98 111 [a0, a1, a2, a3] (aI (gI σ 8 i 6) :: r) σ := ev_go f_Ub_orderOf_108 rfl
theorem f_Ub_orderOf_111 : fetch 98 111 = some (.ireturn) := by decide +kernel
theorem e_Ub_orderOf_111 (a0 a1 a2 a3 : AV) (σ : aM) (x : Int) : ev 98 111 [a0, a1, a2, a3] [aI x] σ = some ((some (aI x)), σ) := ev_ret f_Ub_orderOf_111 rfl
theorem f_Ub_orderOf_112 : fetch 98 112 = some (.aload_n 0) := by decide +kernel
theorem e_Ub_orderOf_112 (a1 a2 a3 : AV) (σ : aM) (l0 : Option (Nat × Int)) (r : List AV)  : ev 98 112 [aQ l0, a1, a2, a3] (r) σ = ev 98 113 [aQ l0, a1, a2, a3] (aQ l0 :: r) σ := ev_go f_Ub_orderOf_112 rfl
theorem f_Ub_orderOf_113 : fetch 98 113 = some (.bipush (-5)) := by decide +kernel
theorem e_Ub_orderOf_113 (a0 a1 a2 a3 : AV) (σ : aM) (r : List AV)  : ev 98 113 [a0, a1, a2, a3] (r) σ = ev 98 115 [a0, a1, a2, a3] (aI (-5) :: r) σ := ev_go f_Ub_orderOf_113 rfl
theorem f_Ub_orderOf_115 : fetch 98 115 = some (.invokevirtual 71) := by decide +kernel
theorem e_Ub_orderOf_115 (a0 a1 a2 a3 : AV) (σ : aM) (s0 : Int) (s1 : Int) : ev 98 115 [a0, a1, a2, a3] [aI s1, aR 0 s0] σ = evK 98 118 [a0, a1, a2, a3] [] (ev 113 0 [aR 0 s0, aI s1] [] σ) := ev_call f_Ub_orderOf_115 rfl rfl
theorem f_Ub_orderOf_118 : fetch 98 118 = some (.ireturn) := by decide +kernel
theorem e_Ub_orderOf_118 (a0 a1 a2 a3 : AV) (σ : aM) (x : Int) : ev 98 118 [a0, a1, a2, a3] [aI x] σ = some ((some (aI x)), σ) := ev_ret f_Ub_orderOf_118 rfl
theorem f_Ub_rank_0 : fetch 99 0 = some (.iload_n 1) := by decide +kernel
theorem e_Ub_rank_0 (a0 a2 a3 : AV) (σ : aM) (l1 : Int) (r : List AV)  : ev 99 0 [a0, aI l1, a2, a3] (r) σ = ev 99 1 [a0, aI l1, a2, a3] (aI l1 :: r) σ := ev_go f_Ub_rank_0 rfl
theorem f_Ub_rank_1 : fetch 99 1 = some (.invokestatic 157) := by decide +kernel
theorem e_Ub_rank_1 (a0 a1 a2 a3 : AV) (σ : aM) (s0 : Int) : ev 99 1 [a0, a1, a2, a3] [aI s0] σ = evK 99 4 [a0, a1, a2, a3] [] (ev 119 0 [aI s0] [] σ) := ev_call f_Ub_rank_1 rfl rfl
theorem f_Ub_rank_4 : fetch 99 4 = some (.ifCond .ne 9) := by decide +kernel
theorem e_Ub_rank_4 (a0 a1 a2 a3 : AV) (σ : aM) (x : Int) (r : List AV) : ev 99 4 [a0, a1, a2, a3] (aI x :: r) σ = if ¬ x = 0 then ev 99 13 [a0, a1, a2, a3] r σ else ev 99 7 [a0, a1, a2, a3] r σ := ev_br f_Ub_rank_4 rfl bc_ne
theorem f_Ub_rank_7 : fetch 99 7 = some (.aload_n 0) := by decide +kernel
theorem e_Ub_rank_7 (a1 a2 a3 : AV) (σ : aM) (l0 : Option (Nat × Int)) (r : List AV)  : ev 99 7 [aQ l0, a1, a2, a3] (r) σ = ev 99 8 [aQ l0, a1, a2, a3] (aQ l0 :: r) σ := ev_go f_Ub_rank_7 rfl
theorem f_Ub_rank_8 : fetch 99 8 = some (.iconst (-1)) := by decide +kernel
theorem e_Ub_rank_8 (a0 a1 a2 a3 : AV) (σ : aM) (r : List AV)  : ev 99 8 [a0, a1, a2, a3] (r) σ = ev 99 9 [a0, a1, a2, a3] (aI (-1) :: r) σ := ev_go f_Ub_rank_8 rfl
theorem f_Ub_rank_9 : fetch 99 9 = some (.invokevirtual 231) := by decide +kernel
theorem e_Ub_rank_9 (a0 a1 a2 a3 : AV) (σ : aM) (s0 : Int) (s1 : Int) : ev 99 9 [a0, a1, a2, a3] [aI s1, aR 0 s0] σ = evK 99 12 [a0, a1, a2, a3] [] (ev 114 0 [aR 0 s0, aI s1] [] σ) := ev_call f_Ub_rank_9 rfl rfl
theorem f_Ub_rank_12 : fetch 99 12 = some (.ireturn) := by decide +kernel
theorem e_Ub_rank_12 (a0 a1 a2 a3 : AV) (σ : aM) (x : Int) : ev 99 12 [a0, a1, a2, a3] [aI x] σ = some ((some (aI x)), σ) := ev_ret f_Ub_rank_12 rfl
theorem f_Ub_rank_13 : fetch 99 13 = some (.aload_n 0) := by decide +kernel
theorem e_Ub_rank_13 (a1 a2 a3 : AV) (σ : aM) (l0 : Option (Nat × Int)) (r : List AV)  : ev 99 13 [aQ l0, a1, a2, a3] (r) σ = ev 99 14 [aQ l0, a1, a2, a3] (aQ l0 :: r) σ := ev_go f_Ub_rank_13 rfl
theorem f_Ub_rank_14 : fetch 99 14 = some (.getfield 41) := by decide +kernel
theorem e_Ub_rank_14 (a0 a1 a2 a3 : AV) (σ : aM) (i : Int) (r : List AV)  : ev 99 14 [a0, a1, a2, a3] (aR 0 i :: r) σ = ev 99 17 [a0, a1, a2, a3] (aR 16 0 :: r) σ := ev_go f_Ub_rank_14 rfl
theorem f_Ub_rank_17 : fetch 99 17 = some (.aload_n 0) := by decide +kernel
theorem e_Ub_rank_17 (a1 a2 a3 : AV) (σ : aM) (l0 : Option (Nat × Int)) (r : List AV)  : ev 99 17 [aQ l0, a1, a2, a3] (r) σ = ev 99 18 [aQ l0, a1, a2, a3] (aQ l0 :: r) σ := ev_go f_Ub_rank_17 rfl
theorem f_Ub_rank_18 : fetch 99 18 = some (.getfield 30) := by decide +kernel
theorem e_Ub_rank_18 (a0 a1 a2 a3 : AV) (σ : aM) (i : Int) (r : List AV)  : ev 99 18 [a0, a1, a2, a3] (aR 0 i :: r) σ = ev 99 21 [a0, a1, a2, a3] (aR 6 0 :: r) σ := ev_go f_Ub_rank_18 rfl
theorem f_Ub_rank_21 : fetch 99 21 = some (.iload_n 1) := by decide +kernel
theorem e_Ub_rank_21 (a0 a2 a3 : AV) (σ : aM) (l1 : Int) (r : List AV)  : ev 99 21 [a0, aI l1, a2, a3] (r) σ = ev 99 22 [a0, aI l1, a2, a3] (aI l1 :: r) σ := ev_go f_Ub_rank_21 rfl
theorem f_Ub_rank_22 : fetch 99 22 = some (.invokevirtual 234) := by decide +kernel
theorem e_Ub_rank_22 (a0 a1 a2 a3 : AV) (σ : aM) (s0 : Int) (s1 : Option (Nat × Int)) (s2 : Int) : ev 99 22 [a0, a1, a2, a3] [aI s2, aQ s1, aR 16 s0] σ = evK 99 25 [a0, a1, a2, a3] [] (ev 46 0 [aR 16 s0, aQ s1, aI s2, aU, aU, aU, aU] [] σ) := ev_call f_Ub_rank_22 rfl rfl
theorem f_Ub_rank_25 : fetch 99 25 = some (.aload_n 0) := by decide +kernel
theorem e_Ub_rank_25 (a1 a2 a3 : AV) (σ : aM) (l0 : Option (Nat × Int)) (r : List AV)  : ev 99 25 [aQ l0, a1, a2, a3] (r) σ = ev 99 26 [aQ l0, a1, a2, a3] (aQ l0 :: r) σ := ev_go f_Ub_rank_25 rfl
theorem f_Ub_rank_26 : fetch 99 26 = some (.getfield 41) := by decide +kernel
theorem e_Ub_rank_26 (a0 a1 a2 a3 : AV) (σ : aM) (i : Int) (r : List AV)  : ev 99 26 [a0, a1, a2, a3] (aR 0 i :: r) σ = ev 99 29 [a0, a1, a2, a3] (aR 16 0 :: r) σ := ev_go f_Ub_rank_26 rfl
theorem f_Ub_rank_29 : fetch 99 29 = some (.iload_n 2) := by decide +kernel
theorem e_Ub_rank_29 (a0 a1 a3 : AV) (σ : aM) (l2 : Int) (r : List AV)  : ev 99 29 [a0, a1, aI l2, a3] (r) σ = ev 99 30 [a0, a1, aI l2, a3] (aI l2 :: r) σ := ev_go f_Ub_rank_29 rfl
theorem f_Ub_rank_30 : fetch 99 30 = some (.invokevirtual 238) := by decide +kernel
theorem e_Ub_rank_30 (a0 a1 a2 a3 : AV) (σ : aM) (s0 : Int) (s1 : Int) : ev 99 30 [a0, a1, a2, a3] [aI s1, aR 16 s0] σ = evK 99 33 [a0, a1, a2, a3] [] (ev 48 0 [aR 16 s0, aI s1] [] σ) := ev_call f_Ub_rank_30 rfl rfl
theorem f_Ub_rank_33 : fetch 99 33 = some (.astore_n 3) := by decide +kernel
theorem e_Ub_rank_33 (a0 a1 a3 : AV) (σ : aM) (q : Option (Nat × Int)) (l2 : Int) (r : List AV)  : ev 99 33 [a0, a1, aI l2, a3] (aQ q :: r) σ = ev 99 34 [a0, a1, aI l2, aQ q] (r) σ := ev_go f_Ub_rank_33 rfl
theorem f_Ub_rank_34 : fetch 99 34 = some (.aload_n 3) := by decide +kernel
theorem e_Ub_rank_34 (a0 a1 a2 : AV) (σ : aM) (l3 : Option (Nat × Int)) (r : List AV)  : ev 99 34 [a0, a1, a2, aQ l3] (r) σ = ev 99 35 [a0, a1, a2, aQ l3] (aQ l3 :: r) σ := ev_go f_Ub_rank_34 rfl
theorem f_Ub_rank_35 : fetch 99 35 = some (.ifnonnull 7) := by decide +kernel
theorem e_Ub_rank_35 (a0 a1 a2 a3 : AV) (σ : aM) (q : Option (Nat × Int)) (r : List AV) : ev 99 35 [a0, a1, a2, a3] (aQ q :: r) σ = if ¬ q = none then ev 99 42 [a0, a1, a2, a3] r σ else ev 99 38 [a0, a1, a2, a3] r σ := ev_br f_Ub_rank_35 rfl bc_som
theorem f_Ub_rank_38 : fetch 99 38 = some (.iconst (-1)) := by decide +kernel
theorem e_Ub_rank_38 (a0 a1 a2 a3 : AV) (σ : aM) (r : List AV)  : ev 99 38 [a0, a1, a2, a3] (r) σ = ev 99 39 [a0, a1, a2, a3] (aI (-1) :: r) σ := ev_go f_Ub_rank_38 rfl
theorem f_Ub_rank_39 : fetch 99 39 = some (.goto 7) := by decide +kernel
theorem e_Ub_rank_39 (a0 a1 a2 a3 : AV) (σ : aM) (r : List AV)  : ev 99 39 [a0, a1, a2, a3] (r) σ = ev 99 46 [a0, a1, a2, a3] (r) σ := ev_go f_Ub_rank_39 rfl
theorem f_Ub_rank_42 : fetch 99 42 = some (.aload_n 3) := by decide +kernel
theorem e_Ub_rank_42 (a0 a1 a2 : AV) (σ : aM) (l3 : Option (Nat × Int)) (r : List AV)  : ev 99 42 [a0, a1, a2, aQ l3] (r) σ = ev 99 43 [a0, a1, a2, aQ l3] (aQ l3 :: r) σ := ev_go f_Ub_rank_42 rfl
theorem f_Ub_rank_43 : fetch 99 43 = some (.getfield 239) := by decide +kernel
theorem e_Ub_rank_43 (a0 a1 a2 a3 : AV) (σ : aM) (i : Int) (r : List AV)  : ev 99 43 [a0, a1, a2, a3] (aR 8 i :: r) σ = ev 99 46 [a0, a1, a2, a3] (aI (gI σ 8 i 0) :: r) σ := ev_go f_Ub_rank_43 rfl
theorem f_Ub_rank_46 : fetch 99 46 = some (.ireturn) := by decide +kernel
theorem e_Ub_rank_46 (a0 a1 a2 a3 : AV) (σ : aM) (x : Int) : ev 99 46 [a0, a1, a2, a3] [aI x] σ = some ((some (aI x)), σ) := ev_ret f_Ub_rank_46 rfl
theorem f_Ub_depth_0 : fetch 100 0 = some (.iload_n 1) := by decide +kernel
theorem e_Ub_depth_0 (a0 a2 a3 a4 : AV) (σ : aM) (l1 : Int) (r : List AV)  : ev 100 0 [a0, aI l1, a2, a3, a4] (r) σ = ev 100 1 [a0, aI l1, a2, a3, a4] (aI l1 :: r) σ := ev_go f_Ub_depth_0 rfl
theorem f_Ub_depth_1 : fetch 100 1 = some (.invokestatic 157) := by decide +kernel
theorem e_Ub_depth_1 (a0 a1 a2 a3 a4 : AV) (σ : aM) (s0 : Int) : ev 100 1 [a0, a1, a2, a3, a4] [aI s0] σ = evK 100 4 [a0, a1, a2, a3, a4] [] (ev 119 0 [aI s0] [] σ) := ev_call f_Ub_depth_1 rfl rfl
theorem f_Ub_depth_4 : fetch 100 4 = some (.ifCond .ne 9) := by decide +kernel
theorem e_Ub_depth_4 (a0 a1 a2 a3 a4 : AV) (σ : aM) (x : Int) (r : List AV) : ev 100 4 [a0, a1, a2, a3, a4] (aI x :: r) σ = if ¬ x = 0 then ev 100 13 [a0, a1, a2, a3, a4] r σ else ev 100 7 [a0, a1, a2, a3, a4] r σ := ev_br f_Ub_depth_4 rfl bc_ne
theorem f_Ub_depth_7 : fetch 100 7 = some (.aload_n 0) := by decide +kernel
theorem e_Ub_depth_7 (a1 a2 a3 a4 : AV) (σ : aM) (l0 : Option (Nat × Int)) (r : List AV)  : ev 100 7 [aQ l0, a1, a2, a3, a4] (r) σ = ev 100 8 [aQ l0, a1, a2, a3, a4] (aQ l0 :: r) σ := ev_go f_Ub_depth_7 rfl
theorem f_Ub_depth_8 : fetch 100 8 = some (.iconst (-1)) := by decide +kernel
theorem e_Ub_depth_8 (a0 a1 a2 a3 a4 : AV) (σ : aM) (r : List AV)  : ev 100 8 [a0, a1, a2, a3, a4] (r) σ = ev 100 9 [a0, a1, a2, a3, a4] (aI (-1) :: r) σ := ev_go f_Ub_depth_8 rfl
theorem f_Ub_depth_9 : fetch 100 9 = some (.invokevirtual 231) := by decide +kernel
theorem e_Ub_depth_9 (a0 a1 a2 a3 a4 : AV) (σ : aM) (s0 : Int) (s1 : Int) : ev 100 9 [a0, a1, a2, a3, a4] [aI s1, aR 0 s0] σ = evK 100 12 [a0, a1, a2, a3, a4] [] (ev 114 0 [aR 0 s0, aI s1] [] σ) := ev_call f_Ub_depth_9 rfl rfl
theorem f_Ub_depth_12 : fetch 100 12 = some (.ireturn) := by decide +kernel
theorem e_Ub_depth_12 (a0 a1 a2 a3 a4 : AV) (σ : aM) (x : Int) : ev 100 12 [a0, a1, a2, a3, a4] [aI x] σ = some ((some (aI x)), σ) := ev_ret f_Ub_depth_12 rfl
theorem f_Ub_depth_13 : fetch 100 13 = some (.iload_n 3) := by decide +kernel
theorem e_Ub_depth_13 (a0 a1 a2 a4 : AV) (σ : aM) (l3 : Int) (r : List AV)  : ev 100 13 [a0, a1, a2, aI l3, a4] (r) σ = ev 100 14 [a0, a1, a2, aI l3, a4] (aI l3 :: r) σ := ev_go f_Ub_depth_13 rfl
theorem f_Ub_depth_14 : fetch 100 14 = some (.ifCond .lt 8) := by decide +kernel
theorem e_Ub_depth_14 (a0 a1 a2 a3 a4 : AV) (σ : aM) (x : Int) (r : List AV) : ev 100 14 [a0, a1, a2, a3, a4] (aI x :: r) σ = if x < 0 then ev 100 22 [a0, a1, a2, a3, a4] r σ else ev 100 17 [a0, a1, a2, a3, a4] r σ := ev_br f_Ub_depth_14 rfl bc_lt
theorem f_Ub_depth_17 : fetch 100 17 = some (.iload_n 3) := by decide +kernel
theorem e_Ub_depth_17 (a0 a1 a2 a4 : AV) (σ : aM) (l3 : Int) (r : List AV)  : ev 100 17 [a0, a1, a2, aI l3, a4] (r) σ = ev 100 18 [a0, a1, a2, aI l3, a4] (aI l3 :: r) σ := ev_go f_Ub_depth_17 rfl
theorem f_Ub_depth_18 : fetch 100 18 = some (.iconst 1) := by decide +kernel
theorem e_Ub_depth_18 (a0 a1 a2 a3 a4 : AV) (σ : aM) (r : List AV)  : ev 100 18 [a0, a1, a2, a3, a4] (r) σ = ev 100 19 [a0, a1, a2, a3, a4] (aI 1 :: r) σ := ev_go f_Ub_depth_18 rfl
theorem f_Ub_depth_19 : fetch 100 19 = some (.if_icmp .le 10) := by decide +kernel
theorem e_Ub_depth_19 (a0 a1 a2 a3 a4 : AV) (σ : aM) (x z : Int) (r : List AV) : ev 100 19 [a0, a1, a2, a3, a4] (aI z :: aI x :: r) σ = if x ≤ z then ev 100 29 [a0, a1, a2, a3, a4] r σ else ev 100 22 [a0, a1, a2, a3, a4] r σ := ev_br f_Ub_depth_19 rfl bc_le
theorem f_Ub_depth_22 : fetch 100 22 = some (.aload_n 0) := by decide +kernel
theorem e_Ub_depth_22 (a1 a2 a3 a4 : AV) (σ : aM) (l0 : Option (Nat × Int)) (r : List AV)  : ev 100 22 [aQ l0, a1, a2, a3, a4] (r) σ = ev 100 23 [aQ l0, a1, a2, a3, a4] (aQ l0 :: r) σ := ev_go f_Ub_depth_22 rfl
theorem f_Ub_depth_23 : fetch 100 23 = some (.bipush (-5)) := by decide +kernel
theorem e_Ub_depth_23 (a0 a1 a2 a3 a4 : AV) (σ : aM) (r : List AV)  : ev 100 23 [a0, a1, a2, a3, a4] (r) σ = ev 100 25 [a0, a1, a2, a3, a4] (aI (-5) :: r) σ := ev_go f_Ub_depth_23 rfl
theorem f_Ub_depth_25 : fetch 100 25 = some (.invokevirtual 231) := by decide +kernel
theorem e_Ub_depth_25 (a0 a1 a2 a3 a4 : AV) (σ : aM) (s0 : Int) (s1 : Int) : ev 100 25 [a0, a1, a2, a3, a4] [aI s1, aR 0 s0] σ = evK 100 28 [a0, a1, a2, a3, a4] [] (ev 114 0 [aR 0 s0, aI s1] [] σ) := ev_call f_Ub_depth_25 rfl rfl
theorem f_Ub_depth_28 : fetch 100 28 = some (.ireturn) := by decide +kernel
theorem e_Ub_depth_28 (a0 a1 a2 a3 a4 : AV) (σ : aM) (x : Int) : ev 100 28 [a0, a1, a2, a3, a4] [aI x] σ = some ((some (aI x)), σ) := ev_ret f_Ub_depth_28 rfl
theorem f_Ub_depth_29 : fetch 100 29 = some (.aload_n 0) := by decide +kernel
theorem e_Ub_depth_29 (a1 a2 a3 a4 : AV) (σ : aM) (l0 : Option (Nat × Int)) (r : List AV)  : ev 100 29 [aQ l0, a1, a2, a3, a4] (r) σ = ev 100 30 [aQ l0, a1, a2, a3, a4] (aQ l0 :: r) σ := ev_go f_Ub_depth_29 rfl
theorem f_Ub_depth_30 : fetch 100 30 = some (.getfield 41) := by decide +kernel
theorem e_Ub_depth_30 (a0 a1 a2 a3 a4 : AV) (σ : aM) (i : Int) (r : List AV)  : ev 100 30 [a0, a1, a2, a3, a4] (aR 0 i :: r) σ = ev 100 33 [a0, a1, a2, a3, a4] (aR 16 0 :: r) σ := ev_go f_Ub_depth_30 rfl
theorem f_Ub_depth_33 : fetch 100 33 = some (.aload_n 0) := by decide +kernel
theorem e_Ub_depth_33 (a1 a2 a3 a4 : AV) (σ : aM) (l0 : Option (Nat × Int)) (r : List AV)  : ev 100 33 [aQ l0, a1, a2, a3, a4] (r) σ = ev 100 34 [aQ l0, a1, a2, a3, a4] (aQ l0 :: r) σ := ev_go f_Ub_depth_33 rfl
theorem f_Ub_depth_34 : fetch 100 34 = some (.getfield 30) := by decide +kernel
theorem e_Ub_depth_34 (a0 a1 a2 a3 a4 : AV) (σ : aM) (i : Int) (r : List AV)  : ev 100 34 [a0, a1, a2, a3, a4] (aR 0 i :: r) σ = ev 100 37 [a0, a1, a2, a3, a4] (aR 6 0 :: r) σ := ev_go f_Ub_depth_34 rfl
theorem f_Ub_depth_37 : fetch 100 37 = some (.iload_n 1) := by decide +kernel
theorem e_Ub_depth_37 (a0 a2 a3 a4 : AV) (σ : aM) (l1 : Int) (r : List AV)  : ev 100 37 [a0, aI l1, a2, a3, a4] (r) σ = ev 100 38 [a0, aI l1, a2, a3, a4] (aI l1 :: r) σ := ev_go f_Ub_depth_37 rfl
theorem f_Ub_depth_38 : fetch 100 38 = some (.invokevirtual 234) := by decide +kernel
theorem e_Ub_depth_38 (a0 a1 a2 a3 a4 : AV) (σ : aM) (s0 : Int) (s1 : Option (Nat × Int)) (s2 : Int) : ev 100 38 [a0, a1, a2, a3, a4] [aI s2, aQ s1, aR 16 s0] σ = evK 100 41 [a0, a1, a2, a3, a4] [] (ev 46 0 [aR 16 s0, aQ s1, aI s2, aU, aU, aU, aU] [] σ) := ev_call f_Ub_depth_38 rfl rfl
theorem f_Ub_depth_41 : fetch 100 41 = some (.aload_n 0) := by decide +kernel
theorem e_Ub_depth_41 (a1 a2 a3 a4 : AV) (σ : aM) (l0 : Option (Nat × Int)) (r : List AV)  : ev 100 41 [aQ l0, a1, a2, a3, a4] (r) σ = ev 100 42 [aQ l0, a1, a2, a3, a4] (aQ l0 :: r) σ := ev_go f_Ub_depth_41 rfl
theorem f_Ub_depth_42 : fetch 100 42 = some (.getfield 41) := by decide +kernel
theorem e_Ub_depth_42 (a0 a1 a2 a3 a4 : AV) (σ : aM) (i : Int) (r : List AV)  : ev 100 42 [a0, a1, a2, a3, a4] (aR 0 i :: r) σ = ev 100 45 [a0, a1, a2, a3, a4] (aR 16 0 :: r) σ := ev_go f_Ub_depth_42 rfl
theorem f_Ub_depth_45 : fetch 100 45 = some (.iload_n 2) := by decide +kernel
theorem e_Ub_depth_45 (a0 a1 a3 a4 : AV) (σ : aM) (l2 : Int) (r : List AV)  : ev 100 45 [a0, a1, aI l2, a3, a4] (r) σ = ev 100 46 [a0, a1, aI l2, a3, a4] (aI l2 :: r) σ := ev_go f_Ub_depth_45 rfl
theorem f_Ub_depth_46 : fetch 100 46 = some (.invokevirtual 242) := by decide +kernel
theorem e_Ub_depth_46 (a0 a1 a2 a3 a4 : AV) (σ : aM) (s0 : Int) (s1 : Int) : ev 100 46 [a0, a1, a2, a3, a4] [aI s1, aR 16 s0] σ = evK 100 49 [a0, a1, a2, a3, a4] [] (ev 49 0 [aR 16 s0, aI s1, aU, aU, aU] [] σ) := ev_call f_Ub_depth_46 rfl rfl
theorem f_Ub_depth_49 : fetch 100 49 = some (.istore 4) := by decide +kernel
theorem e_Ub_depth_49 (a0 a1 a2 a4 : AV) (σ : aM) (x : Int) (l3 : Int) (r : List AV)  : ev 100 49 [a0, a1, a2, aI l3, a4] (aI x :: r) σ = ev 100 51 [a0, a1, a2, aI l3, aI x] (r) σ := ev_go f_Ub_depth_49 rfl
theorem f_Ub_depth_51 : fetch 100 51 = some (.iload 4) := by decide +kernel
theorem e_Ub_depth_51 (a0 a1 a2 a3 : AV) (σ : aM) (l4 : Int) (r : List AV)  : ev 100 51 [a0, a1, a2, a3, aI l4] (r) σ = ev 100 53 [a0, a1, a2, a3, aI l4] (aI l4 :: r) σ := ev_go f_Ub_depth_51 rfl
theorem f_Ub_depth_53 : fetch 100 53 = some (.ifCond .ne 5) := by decide +kernel
theorem e_Ub_depth_53 (a0 a1 a2 a3 a4 : AV) (σ : aM) (x : Int) (r : List AV) : ev 100 53 [a0, a1, a2, a3, a4] (aI x :: r) σ = if ¬ x = 0 then ev 100 58 [a0, a1, a2, a3, a4] r σ else ev 100 56 [a0, a1, a2, a3, a4] r σ := ev_br f_Ub_depth_53 rfl bc_ne
theorem f_Ub_depth_56 : fetch 100 56 = some (.iconst (-1)) := by decide +kernel
theorem e_Ub_depth_56 (a0 a1 a2 a3 a4 : AV) (σ : aM) (r : List AV)  : ev 100 56 [a0, a1, a2, a3, a4] (r) σ = ev 100 57 [a0, a1, a2, a3, a4] (aI (-1) :: r) σ := ev_go f_Ub_depth_56 rfl
theorem f_Ub_depth_57 : fetch 100 57 = some (.ireturn) := by decide +kernel
theorem e_Ub_depth_57 (a0 a1 a2 a3 a4 : AV) (σ : aM) (x : Int) : ev 100 57 [a0, a1, a2, a3, a4] [aI x] σ = some ((some (aI x)), σ) := ev_ret f_Ub_depth_57 rfl
theorem f_Ub_depth_58 : fetch 100 58 = some (.iload_n 3) := by decide +kernel
theorem e_Ub_depth_58 (a0 a1 a2 a4 : AV) (σ : aM) (l3 : Int) (r : List AV)  : ev 100 58 [a0, a1, a2, aI l3, a4] (r) σ = ev 100 59 [a0, a1, a2, aI l3, a4] (aI l3 :: r) σ := ev_go f_Ub_depth_58 rfl
theorem f_Ub_depth_59 : fetch 100 59 = some (.ifCond .ne 8) := by decide +kernel
theorem e_Ub_depth_59 (a0 a1 a2 a3 a4 : AV) (σ : aM) (x : Int) (r : List AV) : ev 100 59 [a0, a1, a2, a3, a4] (aI x :: r) σ = if ¬ x = 0 then ev 100 67 [a0, a1, a2, a3, a4] r σ else ev 100 62 [a0, a1, a2, a3, a4] r σ := ev_br f_Ub_depth_59 rfl bc_ne
theorem f_Ub_depth_62 : fetch 100 62 = some (.iload 4) := by decide +kernel
theorem e_Ub_depth_62 (a0 a1 a2 a3 : AV) (σ : aM) (l4 : Int) (r : List AV)  : ev 100 62 [a0, a1, a2, a3, aI l4] (r) σ = ev 100 64 [a0, a1, a2, a3, aI l4] (aI l4 :: r) σ := ev_go f_Ub_depth_62 rfl
theorem f_Ub_depth_64 : fetch 100 64 = some (.goto 12) := by decide +kernel
theorem e_Ub_depth_64 (a0 a1 a2 a3 a4 : AV) (σ : aM) (r : List AV)  : ev 100 64 [a0, a1, a2, a3, a4] (r) σ = ev 100 76 [a0, a1, a2, a3, a4] (r) σ := ev_go f_Ub_depth_64 rfl
theorem f_Ub_depth_67 : fetch 100 67 = some (.aload_n 0) := by decide +kernel
theorem e_Ub_depth_67 (a1 a2 a3 a4 : AV) (σ : aM) (l0 : Option (Nat × Int)) (r : List AV)  : ev 100 67 [aQ l0, a1, a2, a3, a4] (r) σ = ev 100 68 [aQ l0, a1, a2, a3, a4] (aQ l0 :: r) σ := ev_go f_Ub_depth_67 rfl
theorem f_Ub_depth_68 : fetch 100 68 = some (.getfield 41) := by decide +kernel
theorem e_Ub_depth_68 (a0 a1 a2 a3 a4 : AV) (σ : aM) (i : Int) (r : List AV)  : ev 100 68 [a0, a1, a2, a3, a4] (aR 0 i :: r) σ = ev 100 71 [a0, a1, a2, a3, a4] (aR 16 0 :: r) σ := ev_go f_Ub_depth_68 rfl
theorem f_Ub_depth_71 : fetch 100 71 = some (.iload 4) := by decide +kernel
theorem e_Ub_depth_71 (a0 a1 a2 a3 : AV) (σ : aM) (l4 : Int) (r : List AV)  : ev 100 71 [a0, a1, a2, a3, aI l4] (r) σ = ev 100 73 [a0, a1, a2, a3, aI l4] (aI l4 :: r) σ := ev_go f_Ub_depth_71 rfl
theorem f_Ub_depth_73 : fetch 100 73 = some (.invokevirtual 245) := by decide +kernel
theorem e_Ub_depth_73 (a0 a1 a2 a3 a4 : AV) (σ : aM) (s0 : Int) (s1 : Int) : ev 100 73 [a0, a1, a2, a3, a4] [aI s1, aR 16 s0] σ = evK 100 76 [a0, a1, a2, a3, a4] [] (ev 50 0 [aR 16 s0, aI s1, aU, aU] [] σ) := ev_call f_Ub_depth_73 rfl rfl
theorem f_Ub_depth_76 : fetch 100 76 = some (.ireturn) := by decide +kernel
theorem e_Ub_depth_76 (a0 a1 a2 a3 a4 : AV) (σ : aM) (x : Int) : ev 100 76 [a0, a1, a2, a3, a4] [aI x] σ = some ((some (aI x)), σ) := ev_ret f_Ub_depth_76 rfl
theorem f_Ub_ahead_0 : fetch 101 0 = some (.aload_n 0) := by decide +kernel
theorem e_Ub_ahead_0 (a1 a2 : AV) (σ : aM) (l0 : Option (Nat × Int)) (r : List AV)  : ev 101 0 [aQ l0, a1, a2] (r) σ = ev 101 1 [aQ l0, a1, a2] (aQ l0 :: r) σ := ev_go f_Ub_ahead_0 rfl
theorem f_Ub_ahead_1 : fetch 101 1 = some (.getfield 30) := by decide +kernel
theorem e_Ub_ahead_1 (a0 a1 a2 : AV) (σ : aM) (i : Int) (r : List AV)  : ev 101 1 [a0, a1, a2] (aR 0 i :: r) σ = ev 101 4 [a0, a1, a2] (aR 6 0 :: r) σ := ev_go f_Ub_ahead_1 rfl
theorem f_Ub_ahead_4 : fetch 101 4 = some (.iload_n 1) := by decide +kernel
theorem e_Ub_ahead_4 (a0 a2 : AV) (σ : aM) (l1 : Int) (r : List AV)  : ev 101 4 [a0, aI l1, a2] (r) σ = ev 101 5 [a0, aI l1, a2] (aI l1 :: r) σ := ev_go f_Ub_ahead_4 rfl
theorem f_Ub_ahead_5 : fetch 101 5 = some (.invokevirtual 116) := by decide +kernel
theorem e_Ub_ahead_5 (a0 a1 a2 : AV) (σ : aM) (s0 : Int) (s1 : Int) : ev 101 5 [a0, a1, a2] [aI s1, aR 6 s0] σ = evK 101 8 [a0, a1, a2] [] (ev 5 0 [aR 6 s0, aI s1] [] σ) := ev_call f_Ub_ahead_5 rfl rfl
theorem f_Ub_ahead_8 : fetch 101 8 = some (.astore_n 2) := by decide +kernel
theorem e_Ub_ahead_8 (a0 a2 : AV) (σ : aM) (q : Option (Nat × Int)) (l1 : Int) (r : List AV)  : ev 101 8 [a0, aI l1, a2] (aQ q :: r) σ = ev 101 9 [a0, aI l1, aQ q] (r) σ := ev_go f_Ub_ahead_8 rfl
theorem f_Ub_ahead_9 : fetch 101 9 = some (.aload_n 2) := by decide +kernel
theorem e_Ub_ahead_9 (a0 a1 : AV) (σ : aM) (l2 : Option (Nat × Int)) (r : List AV)  : ev 101 9 [a0, a1, aQ l2] (r) σ = ev 101 10 [a0, a1, aQ l2] (aQ l2 :: r) σ := ev_go f_Ub_ahead_9 rfl
theorem f_Ub_ahead_10 : fetch 101 10 = some (.ifnonnull 9) := by decide +kernel
theorem e_Ub_ahead_10 (a0 a1 a2 : AV) (σ : aM) (q : Option (Nat × Int)) (r : List AV) : ev 101 10 [a0, a1, a2] (aQ q :: r) σ = if ¬ q = none then ev 101 19 [a0, a1, a2] r σ else ev 101 13 [a0, a1, a2] r σ := ev_br f_Ub_ahead_10 rfl bc_som
theorem f_Ub_ahead_13 : fetch 101 13 = some (.aload_n 0) := by decide +kernel
theorem e_Ub_ahead_13 (a1 a2 : AV) (σ : aM) (l0 : Option (Nat × Int)) (r : List AV)  : ev 101 13 [aQ l0, a1, a2] (r) σ = ev 101 14 [aQ l0, a1, a2] (aQ l0 :: r) σ := ev_go f_Ub_ahead_13 rfl
theorem f_Ub_ahead_14 : fetch 101 14 = some (.iconst (-1)) := by decide +kernel
theorem e_Ub_ahead_14 (a0 a1 a2 : AV) (σ : aM) (r : List AV)  : ev 101 14 [a0, a1, a2] (r) σ = ev 101 15 [a0, a1, a2] (aI (-1) :: r) σ := ev_go f_Ub_ahead_14 rfl
theorem f_Ub_ahead_15 : fetch 101 15 = some (.invokevirtual 231) := by decide +kernel
theorem e_Ub_ahead_15 (a0 a1 a2 : AV) (σ : aM) (s0 : Int) (s1 : Int) : ev 101 15 [a0, a1, a2] [aI s1, aR 0 s0] σ = evK 101 18 [a0, a1, a2] [] (ev 114 0 [aR 0 s0, aI s1] [] σ) := ev_call f_Ub_ahead_15 rfl rfl
theorem f_Ub_ahead_18 : fetch 101 18 = some (.ireturn) := by decide +kernel
theorem e_Ub_ahead_18 (a0 a1 a2 : AV) (σ : aM) (x : Int) : ev 101 18 [a0, a1, a2] [aI x] σ = some ((some (aI x)), σ) := ev_ret f_Ub_ahead_18 rfl
theorem f_Ub_ahead_19 : fetch 101 19 = some (.aload_n 0) := by decide +kernel
theorem e_Ub_ahead_19 (a1 a2 : AV) (σ : aM) (l0 : Option (Nat × Int)) (r : List AV)  : ev 101 19 [aQ l0, a1, a2] (r) σ = ev 101 20 [aQ l0, a1, a2] (aQ l0 :: r) σ := ev_go f_Ub_ahead_19 rfl
theorem f_Ub_ahead_20 : fetch 101 20 = some (.getfield 41) := by decide +kernel
theorem e_Ub_ahead_20 (a0 a1 a2 : AV) (σ : aM) (i : Int) (r : List AV)  : ev 101 20 [a0, a1, a2] (aR 0 i :: r) σ = ev 101 23 [a0, a1, a2] (aR 16 0 :: r) σ := ev_go f_Ub_ahead_20 rfl
theorem f_Ub_ahead_23 : fetch 101 23 = some (.aload_n 0) := by decide +kernel
theorem e_Ub_ahead_23 (a1 a2 : AV) (σ : aM) (l0 : Option (Nat × Int)) (r : List AV)  : ev 101 23 [aQ l0, a1, a2] (r) σ = ev 101 24 [aQ l0, a1, a2] (aQ l0 :: r) σ := ev_go f_Ub_ahead_23 rfl
theorem f_Ub_ahead_24 : fetch 101 24 = some (.getfield 30) := by decide +kernel
theorem e_Ub_ahead_24 (a0 a1 a2 : AV) (σ : aM) (i : Int) (r : List AV)  : ev 101 24 [a0, a1, a2] (aR 0 i :: r) σ = ev 101 27 [a0, a1, a2] (aR 6 0 :: r) σ := ev_go f_Ub_ahead_24 rfl
theorem f_Ub_ahead_27 : fetch 101 27 = some (.aload_n 2) := by decide +kernel
theorem e_Ub_ahead_27 (a0 a1 : AV) (σ : aM) (l2 : Option (Nat × Int)) (r : List AV)  : ev 101 27 [a0, a1, aQ l2] (r) σ = ev 101 28 [a0, a1, aQ l2] (aQ l2 :: r) σ := ev_go f_Ub_ahead_27 rfl
theorem f_Ub_ahead_28 : fetch 101 28 = some (.getfield 228) := by decide +kernel
theorem e_Ub_ahead_28 (a0 a1 a2 : AV) (σ : aM) (i : Int) (r : List AV)  : ev 101 28 [a0, a1, a2] (aR 8 i :: r) σ = ev 101 31 [a0, a1, a2] (aI (gI σ 8 i 3) :: r) σ := ev_go f_Ub_ahead_28 rfl
theorem f_Ub_ahead_31 : fetch 101 31 = some (.invokevirtual 234) := by decide +kernel
theorem e_Ub_ahead_31 (a0 a1 a2 : AV) (σ : aM) (s0 : Int) (s1 : Option (Nat × Int)) (s2 : Int) : ev 101 31 [a0, a1, a2] [aI s2, aQ s1, aR 16 s0] σ = evK 101 34 [a0, a1, a2] [] (ev 46 0 [aR 16 s0, aQ s1, aI s2, aU, aU, aU, aU] [] σ) := ev_call f_Ub_ahead_31 rfl rfl
theorem f_Ub_ahead_34 : fetch 101 34 = some (.aload_n 0) := by decide +kernel
theorem e_Ub_ahead_34 (a1 a2 : AV) (σ : aM) (l0 : Option (Nat × Int)) (r : List AV)  : ev 101 34 [aQ l0, a1, a2] (r) σ = ev 101 35 [aQ l0, a1, a2] (aQ l0 :: r) σ := ev_go f_Ub_ahead_34 rfl
theorem f_Ub_ahead_35 : fetch 101 35 = some (.getfield 41) := by decide +kernel
theorem e_Ub_ahead_35 (a0 a1 a2 : AV) (σ : aM) (i : Int) (r : List AV)  : ev 101 35 [a0, a1, a2] (aR 0 i :: r) σ = ev 101 38 [a0, a1, a2] (aR 16 0 :: r) σ := ev_go f_Ub_ahead_35 rfl
theorem f_Ub_ahead_38 : fetch 101 38 = some (.aload_n 2) := by decide +kernel
theorem e_Ub_ahead_38 (a0 a1 : AV) (σ : aM) (l2 : Option (Nat × Int)) (r : List AV)  : ev 101 38 [a0, a1, aQ l2] (r) σ = ev 101 39 [a0, a1, aQ l2] (aQ l2 :: r) σ := ev_go f_Ub_ahead_38 rfl
theorem f_Ub_ahead_39 : fetch 101 39 = some (.invokevirtual 248) := by decide +kernel
theorem e_Ub_ahead_39 (a0 a1 a2 : AV) (σ : aM) (s0 : Int) (s1 : Option (Nat × Int)) : ev 101 39 [a0, a1, a2] [aQ s1, aR 16 s0] σ = evK 101 42 [a0, a1, a2] [] (ev 51 0 [aR 16 s0, aQ s1, aU, aU] [] σ) := ev_call f_Ub_ahead_39 rfl rfl
theorem f_Ub_ahead_42 : fetch 101 42 = some (.ireturn) := by decide +kernel
theorem e_Ub_ahead_42 (a0 a1 a2 : AV) (σ : aM) (x : Int) : ev 101 42 [a0, a1, a2] [aI x] σ = some ((some (aI x)), σ) := ev_ret f_Ub_ahead_42 rfl
theorem f_Ub_sweep_0 : fetch 102 0 = some (.iload_n 1) := by decide +kernel
theorem e_Ub_sweep_0 (a0 a2 : AV) (σ : aM) (l1 : Int) (r : List AV)  : ev 102 0 [a0, aI l1, a2] (r) σ = ev 102 1 [a0, aI l1, a2] (aI l1 :: r) σ := ev_go f_Ub_sweep_0 rfl
theorem f_Ub_sweep_1 : fetch 102 1 = some (.invokestatic 157) := by decide +kernel
theorem e_Ub_sweep_1 (a0 a1 a2 : AV) (σ : aM) (s0 : Int) : ev 102 1 [a0, a1, a2] [aI s0] σ = evK 102 4 [a0, a1, a2] [] (ev 119 0 [aI s0] [] σ) := ev_call f_Ub_sweep_1 rfl rfl
theorem f_Ub_sweep_4 : fetch 102 4 = some (.ifCond .ne 9) := by decide +kernel
theorem e_Ub_sweep_4 (a0 a1 a2 : AV) (σ : aM) (x : Int) (r : List AV) : ev 102 4 [a0, a1, a2] (aI x :: r) σ = if ¬ x = 0 then ev 102 13 [a0, a1, a2] r σ else ev 102 7 [a0, a1, a2] r σ := ev_br f_Ub_sweep_4 rfl bc_ne
theorem f_Ub_sweep_7 : fetch 102 7 = some (.aload_n 0) := by decide +kernel
theorem e_Ub_sweep_7 (a1 a2 : AV) (σ : aM) (l0 : Option (Nat × Int)) (r : List AV)  : ev 102 7 [aQ l0, a1, a2] (r) σ = ev 102 8 [aQ l0, a1, a2] (aQ l0 :: r) σ := ev_go f_Ub_sweep_7 rfl
theorem f_Ub_sweep_8 : fetch 102 8 = some (.iconst (-1)) := by decide +kernel
theorem e_Ub_sweep_8 (a0 a1 a2 : AV) (σ : aM) (r : List AV)  : ev 102 8 [a0, a1, a2] (r) σ = ev 102 9 [a0, a1, a2] (aI (-1) :: r) σ := ev_go f_Ub_sweep_8 rfl
theorem f_Ub_sweep_9 : fetch 102 9 = some (.invokevirtual 231) := by decide +kernel
theorem e_Ub_sweep_9 (a0 a1 a2 : AV) (σ : aM) (s0 : Int) (s1 : Int) : ev 102 9 [a0, a1, a2] [aI s1, aR 0 s0] σ = evK 102 12 [a0, a1, a2] [] (ev 114 0 [aR 0 s0, aI s1] [] σ) := ev_call f_Ub_sweep_9 rfl rfl
theorem f_Ub_sweep_12 : fetch 102 12 = some (.ireturn) := by decide +kernel
theorem e_Ub_sweep_12 (a0 a1 a2 : AV) (σ : aM) (x : Int) : ev 102 12 [a0, a1, a2] [aI x] σ = some ((some (aI x)), σ) := ev_ret f_Ub_sweep_12 rfl
theorem f_Ub_sweep_13 : fetch 102 13 = some (.iload_n 2) := by decide +kernel
theorem e_Ub_sweep_13 (a0 a1 : AV) (σ : aM) (l2 : Int) (r : List AV)  : ev 102 13 [a0, a1, aI l2] (r) σ = ev 102 14 [a0, a1, aI l2] (aI l2 :: r) σ := ev_go f_Ub_sweep_13 rfl
theorem f_Ub_sweep_14 : fetch 102 14 = some (.iconst 1) := by decide +kernel
theorem e_Ub_sweep_14 (a0 a1 a2 : AV) (σ : aM) (r : List AV)  : ev 102 14 [a0, a1, a2] (r) σ = ev 102 15 [a0, a1, a2] (aI 1 :: r) σ := ev_go f_Ub_sweep_14 rfl
theorem f_Ub_sweep_15 : fetch 102 15 = some (.if_icmp .lt 9) := by decide +kernel
theorem e_Ub_sweep_15 (a0 a1 a2 : AV) (σ : aM) (x z : Int) (r : List AV) : ev 102 15 [a0, a1, a2] (aI z :: aI x :: r) σ = if x < z then ev 102 24 [a0, a1, a2] r σ else ev 102 18 [a0, a1, a2] r σ := ev_br f_Ub_sweep_15 rfl bc_lt
theorem f_Ub_sweep_18 : fetch 102 18 = some (.iload_n 2) := by decide +kernel
theorem e_Ub_sweep_18 (a0 a1 : AV) (σ : aM) (l2 : Int) (r : List AV)  : ev 102 18 [a0, a1, aI l2] (r) σ = ev 102 19 [a0, a1, aI l2] (aI l2 :: r) σ := ev_go f_Ub_sweep_18 rfl
theorem f_Ub_sweep_19 : fetch 102 19 = some (.ldc 251) := by decide +kernel
theorem e_Ub_sweep_19 (a0 a1 a2 : AV) (σ : aM) (r : List AV)  : ev 102 19 [a0, a1, a2] (r) σ = ev 102 21 [a0, a1, a2] (aI 99999 :: r) σ := ev_go f_Ub_sweep_19 rfl
theorem f_Ub_sweep_21 : fetch 102 21 = some (.if_icmp .le 10) := by decide +kernel
theorem e_Ub_sweep_21 (a0 a1 a2 : AV) (σ : aM) (x z : Int) (r : List AV) : ev 102 21 [a0, a1, a2] (aI z :: aI x :: r) σ = if x ≤ z then ev 102 31 [a0, a1, a2] r σ else ev 102 24 [a0, a1, a2] r σ := ev_br f_Ub_sweep_21 rfl bc_le
theorem f_Ub_sweep_24 : fetch 102 24 = some (.aload_n 0) := by decide +kernel
theorem e_Ub_sweep_24 (a1 a2 : AV) (σ : aM) (l0 : Option (Nat × Int)) (r : List AV)  : ev 102 24 [aQ l0, a1, a2] (r) σ = ev 102 25 [aQ l0, a1, a2] (aQ l0 :: r) σ := ev_go f_Ub_sweep_24 rfl
theorem f_Ub_sweep_25 : fetch 102 25 = some (.bipush (-6)) := by decide +kernel
theorem e_Ub_sweep_25 (a0 a1 a2 : AV) (σ : aM) (r : List AV)  : ev 102 25 [a0, a1, a2] (r) σ = ev 102 27 [a0, a1, a2] (aI (-6) :: r) σ := ev_go f_Ub_sweep_25 rfl
theorem f_Ub_sweep_27 : fetch 102 27 = some (.invokevirtual 231) := by decide +kernel
theorem e_Ub_sweep_27 (a0 a1 a2 : AV) (σ : aM) (s0 : Int) (s1 : Int) : ev 102 27 [a0, a1, a2] [aI s1, aR 0 s0] σ = evK 102 30 [a0, a1, a2] [] (ev 114 0 [aR 0 s0, aI s1] [] σ) := ev_call f_Ub_sweep_27 rfl rfl
theorem f_Ub_sweep_30 : fetch 102 30 = some (.ireturn) := by decide +kernel
theorem e_Ub_sweep_30 (a0 a1 a2 : AV) (σ : aM) (x : Int) : ev 102 30 [a0, a1, a2] [aI x] σ = some ((some (aI x)), σ) := ev_ret f_Ub_sweep_30 rfl
theorem f_Ub_sweep_31 : fetch 102 31 = some (.aload_n 0) := by decide +kernel
theorem e_Ub_sweep_31 (a1 a2 : AV) (σ : aM) (l0 : Option (Nat × Int)) (r : List AV)  : ev 102 31 [aQ l0, a1, a2] (r) σ = ev 102 32 [aQ l0, a1, a2] (aQ l0 :: r) σ := ev_go f_Ub_sweep_31 rfl
theorem f_Ub_sweep_32 : fetch 102 32 = some (.getfield 41) := by decide +kernel
theorem e_Ub_sweep_32 (a0 a1 a2 : AV) (σ : aM) (i : Int) (r : List AV)  : ev 102 32 [a0, a1, a2] (aR 0 i :: r) σ = ev 102 35 [a0, a1, a2] (aR 16 0 :: r) σ := ev_go f_Ub_sweep_32 rfl
theorem f_Ub_sweep_35 : fetch 102 35 = some (.aload_n 0) := by decide +kernel
theorem e_Ub_sweep_35 (a1 a2 : AV) (σ : aM) (l0 : Option (Nat × Int)) (r : List AV)  : ev 102 35 [aQ l0, a1, a2] (r) σ = ev 102 36 [aQ l0, a1, a2] (aQ l0 :: r) σ := ev_go f_Ub_sweep_35 rfl
theorem f_Ub_sweep_36 : fetch 102 36 = some (.getfield 30) := by decide +kernel
theorem e_Ub_sweep_36 (a0 a1 a2 : AV) (σ : aM) (i : Int) (r : List AV)  : ev 102 36 [a0, a1, a2] (aR 0 i :: r) σ = ev 102 39 [a0, a1, a2] (aR 6 0 :: r) σ := ev_go f_Ub_sweep_36 rfl
theorem f_Ub_sweep_39 : fetch 102 39 = some (.iload_n 1) := by decide +kernel
theorem e_Ub_sweep_39 (a0 a2 : AV) (σ : aM) (l1 : Int) (r : List AV)  : ev 102 39 [a0, aI l1, a2] (r) σ = ev 102 40 [a0, aI l1, a2] (aI l1 :: r) σ := ev_go f_Ub_sweep_39 rfl
theorem f_Ub_sweep_40 : fetch 102 40 = some (.invokestatic 252) := by decide +kernel
theorem e_Ub_sweep_40 (a0 a1 a2 : AV) (σ : aM) (s0 : Option (Nat × Int)) (s1 : Option (Nat × Int)) (s2 : Int) : ev 102 40 [a0, a1, a2] [aI s2, aQ s1, aQ s0] σ = evK 102 43 [a0, a1, a2] [aQ s1, aQ s0] (ev 121 0 [aI s2] [] σ) := ev_call f_Ub_sweep_40 rfl rfl
theorem f_Ub_sweep_43 : fetch 102 43 = some (.invokevirtual 234) := by decide +kernel
theorem e_Ub_sweep_43 (a0 a1 a2 : AV) (σ : aM) (s0 : Int) (s1 : Option (Nat × Int)) (s2 : Int) : ev 102 43 [a0, a1, a2] [aI s2, aQ s1, aR 16 s0] σ = evK 102 46 [a0, a1, a2] [] (ev 46 0 [aR 16 s0, aQ s1, aI s2, aU, aU, aU, aU] [] σ) := ev_call f_Ub_sweep_43 rfl rfl
theorem f_Ub_sweep_46 : fetch 102 46 = some (.aload_n 0) := by decide +kernel
theorem e_Ub_sweep_46 (a1 a2 : AV) (σ : aM) (l0 : Option (Nat × Int)) (r : List AV)  : ev 102 46 [aQ l0, a1, a2] (r) σ = ev 102 47 [aQ l0, a1, a2] (aQ l0 :: r) σ := ev_go f_Ub_sweep_46 rfl
theorem f_Ub_sweep_47 : fetch 102 47 = some (.getfield 41) := by decide +kernel
theorem e_Ub_sweep_47 (a0 a1 a2 : AV) (σ : aM) (i : Int) (r : List AV)  : ev 102 47 [a0, a1, a2] (aR 0 i :: r) σ = ev 102 50 [a0, a1, a2] (aR 16 0 :: r) σ := ev_go f_Ub_sweep_47 rfl
theorem f_Ub_sweep_50 : fetch 102 50 = some (.iload_n 2) := by decide +kernel
theorem e_Ub_sweep_50 (a0 a1 : AV) (σ : aM) (l2 : Int) (r : List AV)  : ev 102 50 [a0, a1, aI l2] (r) σ = ev 102 51 [a0, a1, aI l2] (aI l2 :: r) σ := ev_go f_Ub_sweep_50 rfl
theorem f_Ub_sweep_51 : fetch 102 51 = some (.invokevirtual 255) := by decide +kernel
theorem e_Ub_sweep_51 (a0 a1 a2 : AV) (σ : aM) (s0 : Int) (s1 : Int) : ev 102 51 [a0, a1, a2] [aI s1, aR 16 s0] σ = evK 102 54 [a0, a1, a2] [] (ev 52 0 [aR 16 s0, aI s1, aU, aU, aU, aU] [] σ) := ev_call f_Ub_sweep_51 rfl rfl
theorem f_Ub_sweep_54 : fetch 102 54 = some (.ireturn) := by decide +kernel
theorem e_Ub_sweep_54 (a0 a1 a2 : AV) (σ : aM) (x : Int) : ev 102 54 [a0, a1, a2] [aI x] σ = some ((some (aI x)), σ) := ev_ret f_Ub_sweep_54 rfl
theorem f_Ub_trades_0 : fetch 103 0 = some (.aload_n 0) := by decide +kernel
theorem e_Ub_trades_0 (σ : aM) (l0 : Option (Nat × Int)) (r : List AV)  : ev 103 0 [aQ l0] (r) σ = ev 103 1 [aQ l0] (aQ l0 :: r) σ := ev_go f_Ub_trades_0 rfl
theorem f_Ub_trades_1 : fetch 103 1 = some (.getfield 30) := by decide +kernel
theorem e_Ub_trades_1 (a0 : AV) (σ : aM) (i : Int) (r : List AV)  : ev 103 1 [a0] (aR 0 i :: r) σ = ev 103 4 [a0] (aR 6 0 :: r) σ := ev_go f_Ub_trades_1 rfl
theorem f_Ub_trades_4 : fetch 103 4 = some (.getfield 258) := by decide +kernel
theorem e_Ub_trades_4 (a0 : AV) (σ : aM) (i : Int) (r : List AV)  : ev 103 4 [a0] (aR 6 i :: r) σ = ev 103 7 [a0] (aR 9 i :: r) σ := ev_go f_Ub_trades_4 rfl
theorem f_Ub_trades_7 : fetch 103 7 = some (.getfield 262) := by decide +kernel
theorem e_Ub_trades_7 (a0 : AV) (σ : aM) (i : Int) (r : List AV)  : ev 103 7 [a0] (aR 9 i :: r) σ = ev 103 10 [a0] (aI (gI σ 9 i 3) :: r) σ := ev_go f_Ub_trades_7 rfl
theorem f_Ub_trades_10 : fetch 103 10 = some (.ireturn) := by decide +kernel
theorem e_Ub_trades_10 (a0 : AV) (σ : aM) (x : Int) : ev 103 10 [a0] [aI x] σ = some ((some (aI x)), σ) := ev_ret f_Ub_trades_10 rfl
theorem f_Ub_trade_0 : fetch 104 0 = some (.aload_n 0) := by decide +kernel
theorem e_Ub_trade_0 (a1 a2 : AV) (σ : aM) (l0 : Option (Nat × Int)) (r : List AV)  : ev 104 0 [aQ l0, a1, a2] (r) σ = ev 104 1 [aQ l0, a1, a2] (aQ l0 :: r) σ := ev_go f_Ub_trade_0 rfl
theorem f_Ub_trade_1 : fetch 104 1 = some (.getfield 30) := by decide +kernel
theorem e_Ub_trade_1 (a0 a1 a2 : AV) (σ : aM) (i : Int) (r : List AV)  : ev 104 1 [a0, a1, a2] (aR 0 i :: r) σ = ev 104 4 [a0, a1, a2] (aR 6 0 :: r) σ := ev_go f_Ub_trade_1 rfl
theorem f_Ub_trade_4 : fetch 104 4 = some (.getfield 258) := by decide +kernel
theorem e_Ub_trade_4 (a0 a1 a2 : AV) (σ : aM) (i : Int) (r : List AV)  : ev 104 4 [a0, a1, a2] (aR 6 i :: r) σ = ev 104 7 [a0, a1, a2] (aR 9 i :: r) σ := ev_go f_Ub_trade_4 rfl
theorem f_Ub_trade_7 : fetch 104 7 = some (.iload_n 1) := by decide +kernel
theorem e_Ub_trade_7 (a0 a2 : AV) (σ : aM) (l1 : Int) (r : List AV)  : ev 104 7 [a0, aI l1, a2] (r) σ = ev 104 8 [a0, aI l1, a2] (aI l1 :: r) σ := ev_go f_Ub_trade_7 rfl
theorem f_Ub_trade_8 : fetch 104 8 = some (.invokevirtual 265) := by decide +kernel
theorem e_Ub_trade_8 (a0 a1 a2 : AV) (σ : aM) (s0 : Int) (s1 : Int) : ev 104 8 [a0, a1, a2] [aI s1, aR 9 s0] σ = evK 104 11 [a0, a1, a2] [] (ev 74 0 [aR 9 s0, aI s1] [] σ) := ev_call f_Ub_trade_8 rfl rfl
theorem f_Ub_trade_11 : fetch 104 11 = some (.ifCond .eq 12) := by decide +kernel
theorem e_Ub_trade_11 (a0 a1 a2 : AV) (σ : aM) (x : Int) (r : List AV) : ev 104 11 [a0, a1, a2] (aI x :: r) σ = if x = 0 then ev 104 23 [a0, a1, a2] r σ else ev 104 14 [a0, a1, a2] r σ := ev_br f_Ub_trade_11 rfl bc_eq
theorem f_Ub_trade_14 : fetch 104 14 = some (.iload_n 2) := by decide +kernel
theorem e_Ub_trade_14 (a0 a1 : AV) (σ : aM) (l2 : Int) (r : List AV)  : ev 104 14 [a0, a1, aI l2] (r) σ = ev 104 15 [a0, a1, aI l2] (aI l2 :: r) σ := ev_go f_Ub_trade_14 rfl
theorem f_Ub_trade_15 : fetch 104 15 = some (.ifCond .lt 8) := by decide +kernel
theorem e_Ub_trade_15 (a0 a1 a2 : AV) (σ : aM) (x : Int) (r : List AV) : ev 104 15 [a0, a1, a2] (aI x :: r) σ = if x < 0 then ev 104 23 [a0, a1, a2] r σ else ev 104 18 [a0, a1, a2] r σ := ev_br f_Ub_trade_15 rfl bc_lt
theorem f_Ub_trade_18 : fetch 104 18 = some (.iload_n 2) := by decide +kernel
theorem e_Ub_trade_18 (a0 a1 : AV) (σ : aM) (l2 : Int) (r : List AV)  : ev 104 18 [a0, a1, aI l2] (r) σ = ev 104 19 [a0, a1, aI l2] (aI l2 :: r) σ := ev_go f_Ub_trade_18 rfl
theorem f_Ub_trade_19 : fetch 104 19 = some (.iconst 4) := by decide +kernel
theorem e_Ub_trade_19 (a0 a1 a2 : AV) (σ : aM) (r : List AV)  : ev 104 19 [a0, a1, a2] (r) σ = ev 104 20 [a0, a1, a2] (aI 4 :: r) σ := ev_go f_Ub_trade_19 rfl
theorem f_Ub_trade_20 : fetch 104 20 = some (.if_icmp .lt 10) := by decide +kernel
theorem e_Ub_trade_20 (a0 a1 a2 : AV) (σ : aM) (x z : Int) (r : List AV) : ev 104 20 [a0, a1, a2] (aI z :: aI x :: r) σ = if x < z then ev 104 30 [a0, a1, a2] r σ else ev 104 23 [a0, a1, a2] r σ := ev_br f_Ub_trade_20 rfl bc_lt
theorem f_Ub_trade_23 : fetch 104 23 = some (.aload_n 0) := by decide +kernel
theorem e_Ub_trade_23 (a1 a2 : AV) (σ : aM) (l0 : Option (Nat × Int)) (r : List AV)  : ev 104 23 [aQ l0, a1, a2] (r) σ = ev 104 24 [aQ l0, a1, a2] (aQ l0 :: r) σ := ev_go f_Ub_trade_23 rfl
theorem f_Ub_trade_24 : fetch 104 24 = some (.bipush (-5)) := by decide +kernel
theorem e_Ub_trade_24 (a0 a1 a2 : AV) (σ : aM) (r : List AV)  : ev 104 24 [a0, a1, a2] (r) σ = ev 104 26 [a0, a1, a2] (aI (-5) :: r) σ := ev_go f_Ub_trade_24 rfl
theorem f_Ub_trade_26 : fetch 104 26 = some (.invokevirtual 71) := by decide +kernel
theorem e_Ub_trade_26 (a0 a1 a2 : AV) (σ : aM) (s0 : Int) (s1 : Int) : ev 104 26 [a0, a1, a2] [aI s1, aR 0 s0] σ = evK 104 29 [a0, a1, a2] [] (ev 113 0 [aR 0 s0, aI s1] [] σ) := ev_call f_Ub_trade_26 rfl rfl
theorem f_Ub_trade_29 : fetch 104 29 = some (.ireturn) := by decide +kernel
theorem e_Ub_trade_29 (a0 a1 a2 : AV) (σ : aM) (x : Int) : ev 104 29 [a0, a1, a2] [aI x] σ = some ((some (aI x)), σ) := ev_ret f_Ub_trade_29 rfl
theorem f_Ub_trade_30 : fetch 104 30 = some (.aload_n 0) := by decide +kernel
theorem e_Ub_trade_30 (a1 a2 : AV) (σ : aM) (l0 : Option (Nat × Int)) (r : List AV)  : ev 104 30 [aQ l0, a1, a2] (r) σ = ev 104 31 [aQ l0, a1, a2] (aQ l0 :: r) σ := ev_go f_Ub_trade_30 rfl
theorem f_Ub_trade_31 : fetch 104 31 = some (.getfield 30) := by decide +kernel
theorem e_Ub_trade_31 (a0 a1 a2 : AV) (σ : aM) (i : Int) (r : List AV)  : ev 104 31 [a0, a1, a2] (aR 0 i :: r) σ = ev 104 34 [a0, a1, a2] (aR 6 0 :: r) σ := ev_go f_Ub_trade_31 rfl
theorem f_Ub_trade_34 : fetch 104 34 = some (.getfield 258) := by decide +kernel
theorem e_Ub_trade_34 (a0 a1 a2 : AV) (σ : aM) (i : Int) (r : List AV)  : ev 104 34 [a0, a1, a2] (aR 6 i :: r) σ = ev 104 37 [a0, a1, a2] (aR 9 i :: r) σ := ev_go f_Ub_trade_34 rfl
theorem f_Ub_trade_37 : fetch 104 37 = some (.iload_n 1) := by decide +kernel
theorem e_Ub_trade_37 (a0 a2 : AV) (σ : aM) (l1 : Int) (r : List AV)  : ev 104 37 [a0, aI l1, a2] (r) σ = ev 104 38 [a0, aI l1, a2] (aI l1 :: r) σ := ev_go f_Ub_trade_37 rfl
theorem f_Ub_trade_38 : fetch 104 38 = some (.iload_n 2) := by decide +kernel
theorem e_Ub_trade_38 (a0 a1 : AV) (σ : aM) (l2 : Int) (r : List AV)  : ev 104 38 [a0, a1, aI l2] (r) σ = ev 104 39 [a0, a1, aI l2] (aI l2 :: r) σ := ev_go f_Ub_trade_38 rfl
theorem f_Ub_trade_39 : fetch 104 39 = some (.invokevirtual 268) := by decide +kernel
theorem e_Ub_trade_39 (a0 a1 a2 : AV) (σ : aM) (s0 : Int) (s1 : Int) (s2 : Int) : ev 104 39 [a0, a1, a2] [aI s2, aI s1, aR 9 s0] σ = evK 104 42 [a0, a1, a2] [] (ev 75 0 [aR 9 s0, aI s1, aI s2] [] σ) := ev_call f_Ub_trade_39 rfl rfl
theorem f_Ub_trade_42 : fetch 104 42 = some (.ireturn) := by decide +kernel
theorem e_Ub_trade_42 (a0 a1 a2 : AV) (σ : aM) (x : Int) : ev 104 42 [a0, a1, a2] [aI x] σ = some ((some (aI x)), σ) := ev_ret f_Ub_trade_42 rfl
theorem f_Ub_position_0 : fetch 105 0 = some (.iload_n 1) := by decide +kernel
theorem e_Ub_position_0 (a0 : AV) (σ : aM) (l1 : Int) (r : List AV)  : ev 105 0 [a0, aI l1] (r) σ = ev 105 1 [a0, aI l1] (aI l1 :: r) σ := ev_go f_Ub_position_0 rfl
theorem f_Ub_position_1 : fetch 105 1 = some (.invokestatic 154) := by decide +kernel
theorem e_Ub_position_1 (a0 a1 : AV) (σ : aM) (s0 : Int) : ev 105 1 [a0, a1] [aI s0] σ = evK 105 4 [a0, a1] [] (ev 118 0 [aI s0] [] σ) := ev_call f_Ub_position_1 rfl rfl
theorem f_Ub_position_4 : fetch 105 4 = some (.ifCond .ne 9) := by decide +kernel
theorem e_Ub_position_4 (a0 a1 : AV) (σ : aM) (x : Int) (r : List AV) : ev 105 4 [a0, a1] (aI x :: r) σ = if ¬ x = 0 then ev 105 13 [a0, a1] r σ else ev 105 7 [a0, a1] r σ := ev_br f_Ub_position_4 rfl bc_ne
theorem f_Ub_position_7 : fetch 105 7 = some (.aload_n 0) := by decide +kernel
theorem e_Ub_position_7 (a1 : AV) (σ : aM) (l0 : Option (Nat × Int)) (r : List AV)  : ev 105 7 [aQ l0, a1] (r) σ = ev 105 8 [aQ l0, a1] (aQ l0 :: r) σ := ev_go f_Ub_position_7 rfl
theorem f_Ub_position_8 : fetch 105 8 = some (.iconst (-1)) := by decide +kernel
theorem e_Ub_position_8 (a0 a1 : AV) (σ : aM) (r : List AV)  : ev 105 8 [a0, a1] (r) σ = ev 105 9 [a0, a1] (aI (-1) :: r) σ := ev_go f_Ub_position_8 rfl
theorem f_Ub_position_9 : fetch 105 9 = some (.invokevirtual 71) := by decide +kernel
theorem e_Ub_position_9 (a0 a1 : AV) (σ : aM) (s0 : Int) (s1 : Int) : ev 105 9 [a0, a1] [aI s1, aR 0 s0] σ = evK 105 12 [a0, a1] [] (ev 113 0 [aR 0 s0, aI s1] [] σ) := ev_call f_Ub_position_9 rfl rfl
theorem f_Ub_position_12 : fetch 105 12 = some (.ireturn) := by decide +kernel
theorem e_Ub_position_12 (a0 a1 : AV) (σ : aM) (x : Int) : ev 105 12 [a0, a1] [aI x] σ = some ((some (aI x)), σ) := ev_ret f_Ub_position_12 rfl
theorem f_Ub_position_13 : fetch 105 13 = some (.ldc_w 272) := by decide +kernel
theorem e_Ub_position_13 (a0 a1 : AV) (σ : aM) (r : List AV)  : ev 105 13 [a0, a1] (r) σ = ev 105 16 [a0, a1] (aI 1000000 :: r) σ := ev_go f_Ub_position_13 rfl
theorem f_Ub_position_16 : fetch 105 16 = some (.aload_n 0) := by decide +kernel
theorem e_Ub_position_16 (a1 : AV) (σ : aM) (l0 : Option (Nat × Int)) (r : List AV)  : ev 105 16 [aQ l0, a1] (r) σ = ev 105 17 [aQ l0, a1] (aQ l0 :: r) σ := ev_go f_Ub_position_16 rfl
theorem f_Ub_position_17 : fetch 105 17 = some (.getfield 30) := by decide +kernel
theorem e_Ub_position_17 (a0 a1 : AV) (σ : aM) (i : Int) (r : List AV)  : ev 105 17 [a0, a1] (aR 0 i :: r) σ = ev 105 20 [a0, a1] (aR 6 0 :: r) σ := ev_go f_Ub_position_17 rfl
theorem f_Ub_position_20 : fetch 105 20 = some (.getfield 258) := by decide +kernel
theorem e_Ub_position_20 (a0 a1 : AV) (σ : aM) (i : Int) (r : List AV)  : ev 105 20 [a0, a1] (aR 6 i :: r) σ = ev 105 23 [a0, a1] (aR 9 i :: r) σ := ev_go f_Ub_position_20 rfl
theorem f_Ub_position_23 : fetch 105 23 = some (.getfield 273) := by decide +kernel
theorem e_Ub_position_23 (a0 a1 : AV) (σ : aM) (i : Int) (r : List AV)  : ev 105 23 [a0, a1] (aR 9 i :: r) σ = ev 105 26 [a0, a1] (aR 11 i :: r) σ := ev_go f_Ub_position_23 rfl
theorem f_Ub_position_26 : fetch 105 26 = some (.iload_n 1) := by decide +kernel
theorem e_Ub_position_26 (a0 : AV) (σ : aM) (l1 : Int) (r : List AV)  : ev 105 26 [a0, aI l1] (r) σ = ev 105 27 [a0, aI l1] (aI l1 :: r) σ := ev_go f_Ub_position_26 rfl
theorem f_Ub_position_27 : fetch 105 27 = some (.iaload) := by decide +kernel
theorem e_Ub_position_27 (a0 a1 : AV) (σ : aM) (x : Int) (i : Int) (r : List AV) (h : 0 ≤ x ∧ x < 8) : ev 105 27 [a0, a1] (aI x :: aR 11 i :: r) σ = ev 105 28 [a0, a1] (aI (gI σ 11 i x) :: r) σ := ev_ld (j := i) f_Ub_position_27 rfl rfl (by decide) rfl h
theorem f_Ub_position_28 : fetch 105 28 = some (.iadd) := by decide +kernel
theorem e_Ub_position_28 (a0 a1 : AV) (σ : aM) (x z : Int) (r : List AV)  : ev 105 28 [a0, a1] (aI z :: aI x :: r) σ = ev 105 29 [a0, a1] (aI (wr (x + z)) :: r) σ := ev_go f_Ub_position_28 rfl
theorem f_Ub_position_29 : fetch 105 29 = some (.ireturn) := by decide +kernel
theorem e_Ub_position_29 (a0 a1 : AV) (σ : aM) (x : Int) : ev 105 29 [a0, a1] [aI x] σ = some ((some (aI x)), σ) := ev_ret f_Ub_position_29 rfl
theorem f_Ub_cash_0 : fetch 106 0 = some (.iload_n 1) := by decide +kernel
theorem e_Ub_cash_0 (a0 : AV) (σ : aM) (l1 : Int) (r : List AV)  : ev 106 0 [a0, aI l1] (r) σ = ev 106 1 [a0, aI l1] (aI l1 :: r) σ := ev_go f_Ub_cash_0 rfl
theorem f_Ub_cash_1 : fetch 106 1 = some (.invokestatic 154) := by decide +kernel
theorem e_Ub_cash_1 (a0 a1 : AV) (σ : aM) (s0 : Int) : ev 106 1 [a0, a1] [aI s0] σ = evK 106 4 [a0, a1] [] (ev 118 0 [aI s0] [] σ) := ev_call f_Ub_cash_1 rfl rfl
theorem f_Ub_cash_4 : fetch 106 4 = some (.ifCond .ne 9) := by decide +kernel
theorem e_Ub_cash_4 (a0 a1 : AV) (σ : aM) (x : Int) (r : List AV) : ev 106 4 [a0, a1] (aI x :: r) σ = if ¬ x = 0 then ev 106 13 [a0, a1] r σ else ev 106 7 [a0, a1] r σ := ev_br f_Ub_cash_4 rfl bc_ne
theorem f_Ub_cash_7 : fetch 106 7 = some (.aload_n 0) := by decide +kernel
theorem e_Ub_cash_7 (a1 : AV) (σ : aM) (l0 : Option (Nat × Int)) (r : List AV)  : ev 106 7 [aQ l0, a1] (r) σ = ev 106 8 [aQ l0, a1] (aQ l0 :: r) σ := ev_go f_Ub_cash_7 rfl
theorem f_Ub_cash_8 : fetch 106 8 = some (.iconst (-1)) := by decide +kernel
theorem e_Ub_cash_8 (a0 a1 : AV) (σ : aM) (r : List AV)  : ev 106 8 [a0, a1] (r) σ = ev 106 9 [a0, a1] (aI (-1) :: r) σ := ev_go f_Ub_cash_8 rfl
theorem f_Ub_cash_9 : fetch 106 9 = some (.invokevirtual 71) := by decide +kernel
theorem e_Ub_cash_9 (a0 a1 : AV) (σ : aM) (s0 : Int) (s1 : Int) : ev 106 9 [a0, a1] [aI s1, aR 0 s0] σ = evK 106 12 [a0, a1] [] (ev 113 0 [aR 0 s0, aI s1] [] σ) := ev_call f_Ub_cash_9 rfl rfl
theorem f_Ub_cash_12 : fetch 106 12 = some (.ireturn) := by decide +kernel
theorem e_Ub_cash_12 (a0 a1 : AV) (σ : aM) (x : Int) : ev 106 12 [a0, a1] [aI x] σ = some ((some (aI x)), σ) := ev_ret f_Ub_cash_12 rfl
theorem f_Ub_cash_13 : fetch 106 13 = some (.ldc_w 276) := by decide +kernel
theorem e_Ub_cash_13 (a0 a1 : AV) (σ : aM) (r : List AV)  : ev 106 13 [a0, a1] (r) σ = ev 106 16 [a0, a1] (aI 1000000000 :: r) σ := ev_go f_Ub_cash_13 rfl
theorem f_Ub_cash_16 : fetch 106 16 = some (.aload_n 0) := by decide +kernel
theorem e_Ub_cash_16 (a1 : AV) (σ : aM) (l0 : Option (Nat × Int)) (r : List AV)  : ev 106 16 [aQ l0, a1] (r) σ = ev 106 17 [aQ l0, a1] (aQ l0 :: r) σ := ev_go f_Ub_cash_16 rfl
theorem f_Ub_cash_17 : fetch 106 17 = some (.getfield 30) := by decide +kernel
theorem e_Ub_cash_17 (a0 a1 : AV) (σ : aM) (i : Int) (r : List AV)  : ev 106 17 [a0, a1] (aR 0 i :: r) σ = ev 106 20 [a0, a1] (aR 6 0 :: r) σ := ev_go f_Ub_cash_17 rfl
theorem f_Ub_cash_20 : fetch 106 20 = some (.getfield 258) := by decide +kernel
theorem e_Ub_cash_20 (a0 a1 : AV) (σ : aM) (i : Int) (r : List AV)  : ev 106 20 [a0, a1] (aR 6 i :: r) σ = ev 106 23 [a0, a1] (aR 9 i :: r) σ := ev_go f_Ub_cash_20 rfl
theorem f_Ub_cash_23 : fetch 106 23 = some (.getfield 277) := by decide +kernel
theorem e_Ub_cash_23 (a0 a1 : AV) (σ : aM) (i : Int) (r : List AV)  : ev 106 23 [a0, a1] (aR 9 i :: r) σ = ev 106 26 [a0, a1] (aR 12 i :: r) σ := ev_go f_Ub_cash_23 rfl
theorem f_Ub_cash_26 : fetch 106 26 = some (.iload_n 1) := by decide +kernel
theorem e_Ub_cash_26 (a0 : AV) (σ : aM) (l1 : Int) (r : List AV)  : ev 106 26 [a0, aI l1] (r) σ = ev 106 27 [a0, aI l1] (aI l1 :: r) σ := ev_go f_Ub_cash_26 rfl
theorem f_Ub_cash_27 : fetch 106 27 = some (.iaload) := by decide +kernel
theorem e_Ub_cash_27 (a0 a1 : AV) (σ : aM) (x : Int) (i : Int) (r : List AV) (h : 0 ≤ x ∧ x < 8) : ev 106 27 [a0, a1] (aI x :: aR 12 i :: r) σ = ev 106 28 [a0, a1] (aI (gI σ 12 i x) :: r) σ := ev_ld (j := i) f_Ub_cash_27 rfl rfl (by decide) rfl h
theorem f_Ub_cash_28 : fetch 106 28 = some (.iadd) := by decide +kernel
theorem e_Ub_cash_28 (a0 a1 : AV) (σ : aM) (x z : Int) (r : List AV)  : ev 106 28 [a0, a1] (aI z :: aI x :: r) σ = ev 106 29 [a0, a1] (aI (wr (x + z)) :: r) σ := ev_go f_Ub_cash_28 rfl
theorem f_Ub_cash_29 : fetch 106 29 = some (.ireturn) := by decide +kernel
theorem e_Ub_cash_29 (a0 a1 : AV) (σ : aM) (x : Int) : ev 106 29 [a0, a1] [aI x] σ = some ((some (aI x)), σ) := ev_ret f_Ub_cash_29 rfl
theorem f_Ub_judge_0 : fetch 107 0 = some (.aload_n 0) := by decide +kernel
theorem e_Ub_judge_0 (a1 a2 a3 a4 : AV) (σ : aM) (l0 : Option (Nat × Int)) (r : List AV)  : ev 107 0 [aQ l0, a1, a2, a3, a4] (r) σ = ev 107 1 [aQ l0, a1, a2, a3, a4] (aQ l0 :: r) σ := ev_go f_Ub_judge_0 rfl
theorem f_Ub_judge_1 : fetch 107 1 = some (.iload_n 1) := by decide +kernel
theorem e_Ub_judge_1 (a0 a2 a3 a4 : AV) (σ : aM) (l1 : Int) (r : List AV)  : ev 107 1 [a0, aI l1, a2, a3, a4] (r) σ = ev 107 2 [a0, aI l1, a2, a3, a4] (aI l1 :: r) σ := ev_go f_Ub_judge_1 rfl
theorem f_Ub_judge_2 : fetch 107 2 = some (.invokevirtual 79) := by decide +kernel
theorem e_Ub_judge_2 (a0 a1 a2 a3 a4 : AV) (σ : aM) (s0 : Int) (s1 : Int) : ev 107 2 [a0, a1, a2, a3, a4] [aI s1, aR 0 s0] σ = evK 107 5 [a0, a1, a2, a3, a4] [] (ev 115 0 [aR 0 s0, aI s1] [] σ) := ev_call f_Ub_judge_2 rfl rfl
theorem f_Ub_judge_5 : fetch 107 5 = some (.istore_n 3) := by decide +kernel
theorem e_Ub_judge_5 (a0 a1 a3 a4 : AV) (σ : aM) (x : Int) (l2 : Int) (r : List AV)  : ev 107 5 [a0, a1, aI l2, a3, a4] (aI x :: r) σ = ev 107 6 [a0, a1, aI l2, aI x, a4] (r) σ := ev_go f_Ub_judge_5 rfl
theorem f_Ub_judge_6 : fetch 107 6 = some (.iload_n 3) := by decide +kernel
theorem e_Ub_judge_6 (a0 a1 a2 a4 : AV) (σ : aM) (l3 : Int) (r : List AV)  : ev 107 6 [a0, a1, a2, aI l3, a4] (r) σ = ev 107 7 [a0, a1, a2, aI l3, a4] (aI l3 :: r) σ := ev_go f_Ub_judge_6 rfl
theorem f_Ub_judge_7 : fetch 107 7 = some (.ifCond .eq 9) := by decide +kernel
theorem e_Ub_judge_7 (a0 a1 a2 a3 a4 : AV) (σ : aM) (x : Int) (r : List AV) : ev 107 7 [a0, a1, a2, a3, a4] (aI x :: r) σ = if x = 0 then ev 107 16 [a0, a1, a2, a3, a4] r σ else ev 107 10 [a0, a1, a2, a3, a4] r σ := ev_br f_Ub_judge_7 rfl bc_eq
theorem f_Ub_judge_10 : fetch 107 10 = some (.aload_n 0) := by decide +kernel
theorem e_Ub_judge_10 (a1 a2 a3 a4 : AV) (σ : aM) (l0 : Option (Nat × Int)) (r : List AV)  : ev 107 10 [aQ l0, a1, a2, a3, a4] (r) σ = ev 107 11 [aQ l0, a1, a2, a3, a4] (aQ l0 :: r) σ := ev_go f_Ub_judge_10 rfl
theorem f_Ub_judge_11 : fetch 107 11 = some (.iload_n 3) := by decide +kernel
theorem e_Ub_judge_11 (a0 a1 a2 a4 : AV) (σ : aM) (l3 : Int) (r : List AV)  : ev 107 11 [a0, a1, a2, aI l3, a4] (r) σ = ev 107 12 [a0, a1, a2, aI l3, a4] (aI l3 :: r) σ := ev_go f_Ub_judge_11 rfl
theorem f_Ub_judge_12 : fetch 107 12 = some (.invokevirtual 231) := by decide +kernel
theorem e_Ub_judge_12 (a0 a1 a2 a3 a4 : AV) (σ : aM) (s0 : Int) (s1 : Int) : ev 107 12 [a0, a1, a2, a3, a4] [aI s1, aR 0 s0] σ = evK 107 15 [a0, a1, a2, a3, a4] [] (ev 114 0 [aR 0 s0, aI s1] [] σ) := ev_call f_Ub_judge_12 rfl rfl
theorem f_Ub_judge_15 : fetch 107 15 = some (.ireturn) := by decide +kernel
theorem e_Ub_judge_15 (a0 a1 a2 a3 a4 : AV) (σ : aM) (x : Int) : ev 107 15 [a0, a1, a2, a3, a4] [aI x] σ = some ((some (aI x)), σ) := ev_ret f_Ub_judge_15 rfl
theorem f_Ub_judge_16 : fetch 107 16 = some (.iload_n 2) := by decide +kernel
theorem e_Ub_judge_16 (a0 a1 a3 a4 : AV) (σ : aM) (l2 : Int) (r : List AV)  : ev 107 16 [a0, a1, aI l2, a3, a4] (r) σ = ev 107 17 [a0, a1, aI l2, a3, a4] (aI l2 :: r) σ := ev_go f_Ub_judge_16 rfl
theorem f_Ub_judge_17 : fetch 107 17 = some (.ifCond .ge 10) := by decide +kernel
theorem e_Ub_judge_17 (a0 a1 a2 a3 a4 : AV) (σ : aM) (x : Int) (r : List AV) : ev 107 17 [a0, a1, a2, a3, a4] (aI x :: r) σ = if 0 ≤ x then ev 107 27 [a0, a1, a2, a3, a4] r σ else ev 107 20 [a0, a1, a2, a3, a4] r σ := ev_br f_Ub_judge_17 rfl bc_ge
theorem f_Ub_judge_20 : fetch 107 20 = some (.aload_n 0) := by decide +kernel
theorem e_Ub_judge_20 (a1 a2 a3 a4 : AV) (σ : aM) (l0 : Option (Nat × Int)) (r : List AV)  : ev 107 20 [aQ l0, a1, a2, a3, a4] (r) σ = ev 107 21 [aQ l0, a1, a2, a3, a4] (aQ l0 :: r) σ := ev_go f_Ub_judge_20 rfl
theorem f_Ub_judge_21 : fetch 107 21 = some (.bipush (-4)) := by decide +kernel
theorem e_Ub_judge_21 (a0 a1 a2 a3 a4 : AV) (σ : aM) (r : List AV)  : ev 107 21 [a0, a1, a2, a3, a4] (r) σ = ev 107 23 [a0, a1, a2, a3, a4] (aI (-4) :: r) σ := ev_go f_Ub_judge_21 rfl
theorem f_Ub_judge_23 : fetch 107 23 = some (.invokevirtual 231) := by decide +kernel
theorem e_Ub_judge_23 (a0 a1 a2 a3 a4 : AV) (σ : aM) (s0 : Int) (s1 : Int) : ev 107 23 [a0, a1, a2, a3, a4] [aI s1, aR 0 s0] σ = evK 107 26 [a0, a1, a2, a3, a4] [] (ev 114 0 [aR 0 s0, aI s1] [] σ) := ev_call f_Ub_judge_23 rfl rfl
theorem f_Ub_judge_26 : fetch 107 26 = some (.ireturn) := by decide +kernel
theorem e_Ub_judge_26 (a0 a1 a2 a3 a4 : AV) (σ : aM) (x : Int) : ev 107 26 [a0, a1, a2, a3, a4] [aI x] σ = some ((some (aI x)), σ) := ev_ret f_Ub_judge_26 rfl
theorem f_Ub_judge_27 : fetch 107 27 = some (.iload_n 2) := by decide +kernel
theorem e_Ub_judge_27 (a0 a1 a3 a4 : AV) (σ : aM) (l2 : Int) (r : List AV)  : ev 107 27 [a0, a1, aI l2, a3, a4] (r) σ = ev 107 28 [a0, a1, aI l2, a3, a4] (aI l2 :: r) σ := ev_go f_Ub_judge_27 rfl
theorem f_Ub_judge_28 : fetch 107 28 = some (.aload_n 0) := by decide +kernel
theorem e_Ub_judge_28 (a1 a2 a3 a4 : AV) (σ : aM) (l0 : Option (Nat × Int)) (r : List AV)  : ev 107 28 [aQ l0, a1, a2, a3, a4] (r) σ = ev 107 29 [aQ l0, a1, a2, a3, a4] (aQ l0 :: r) σ := ev_go f_Ub_judge_28 rfl
theorem f_Ub_judge_29 : fetch 107 29 = some (.getfield 11) := by decide +kernel
theorem e_Ub_judge_29 (a0 a1 a2 a3 a4 : AV) (σ : aM) (i : Int) (r : List AV)  : ev 107 29 [a0, a1, a2, a3, a4] (aR 0 i :: r) σ = ev 107 32 [a0, a1, a2, a3, a4] (aR 1 0 :: r) σ := ev_go f_Ub_judge_29 rfl
theorem f_Ub_judge_32 : fetch 107 32 = some (.iload_n 1) := by decide +kernel
theorem e_Ub_judge_32 (a0 a2 a3 a4 : AV) (σ : aM) (l1 : Int) (r : List AV)  : ev 107 32 [a0, aI l1, a2, a3, a4] (r) σ = ev 107 33 [a0, aI l1, a2, a3, a4] (aI l1 :: r) σ := ev_go f_Ub_judge_32 rfl
theorem f_Ub_judge_33 : fetch 107 33 = some (.aaload) := by decide +kernel
theorem e_Ub_judge_33 (a0 a1 a2 a3 a4 : AV) (σ : aM) (x : Int) (i : Int) (r : List AV) (h : 0 ≤ x ∧ x < 8) : ev 107 33 [a0, a1, a2, a3, a4] (aI x :: aR 1 i :: r) σ = ev 107 34 [a0, a1, a2, a3, a4] (aR 2 x :: r) σ := ev_cd f_Ub_judge_33 rfl ⟨by decide, by decide, h.1, by rw [aLen_n (by decide) rfl]; exact h.2⟩
theorem f_Ub_judge_34 : fetch 107 34 = some (.getfield 280) := by decide +kernel
theorem e_Ub_judge_34 (a0 a1 a2 a3 a4 : AV) (σ : aM) (i : Int) (r : List AV)  : ev 107 34 [a0, a1, a2, a3, a4] (aR 2 i :: r) σ = ev 107 37 [a0, a1, a2, a3, a4] (aI (gI σ 2 i 1) :: r) σ := ev_go f_Ub_judge_34 rfl
theorem f_Ub_judge_37 : fetch 107 37 = some (.iconst 4) := by decide +kernel
theorem e_Ub_judge_37 (a0 a1 a2 a3 a4 : AV) (σ : aM) (r : List AV)  : ev 107 37 [a0, a1, a2, a3, a4] (r) σ = ev 107 38 [a0, a1, a2, a3, a4] (aI 4 :: r) σ := ev_go f_Ub_judge_37 rfl
theorem f_Ub_judge_38 : fetch 107 38 = some (.idiv) := by decide +kernel
theorem e_Ub_judge_38 (a0 a1 a2 a3 a4 : AV) (σ : aM) (x z : Int) (r : List AV) (h : ¬ z = 0) : ev 107 38 [a0, a1, a2, a3, a4] (aI z :: aI x :: r) σ = ev 107 39 [a0, a1, a2, a3, a4] (aI (quo x z) :: r) σ := ev_cd f_Ub_judge_38 rfl h
theorem f_Ub_judge_39 : fetch 107 39 = some (.if_icmp .le 10) := by decide +kernel
theorem e_Ub_judge_39 (a0 a1 a2 a3 a4 : AV) (σ : aM) (x z : Int) (r : List AV) : ev 107 39 [a0, a1, a2, a3, a4] (aI z :: aI x :: r) σ = if x ≤ z then ev 107 49 [a0, a1, a2, a3, a4] r σ else ev 107 42 [a0, a1, a2, a3, a4] r σ := ev_br f_Ub_judge_39 rfl bc_le
theorem f_Ub_judge_42 : fetch 107 42 = some (.aload_n 0) := by decide +kernel
theorem e_Ub_judge_42 (a1 a2 a3 a4 : AV) (σ : aM) (l0 : Option (Nat × Int)) (r : List AV)  : ev 107 42 [aQ l0, a1, a2, a3, a4] (r) σ = ev 107 43 [aQ l0, a1, a2, a3, a4] (aQ l0 :: r) σ := ev_go f_Ub_judge_42 rfl
theorem f_Ub_judge_43 : fetch 107 43 = some (.bipush (-5)) := by decide +kernel
theorem e_Ub_judge_43 (a0 a1 a2 a3 a4 : AV) (σ : aM) (r : List AV)  : ev 107 43 [a0, a1, a2, a3, a4] (r) σ = ev 107 45 [a0, a1, a2, a3, a4] (aI (-5) :: r) σ := ev_go f_Ub_judge_43 rfl
theorem f_Ub_judge_45 : fetch 107 45 = some (.invokevirtual 231) := by decide +kernel
theorem e_Ub_judge_45 (a0 a1 a2 a3 a4 : AV) (σ : aM) (s0 : Int) (s1 : Int) : ev 107 45 [a0, a1, a2, a3, a4] [aI s1, aR 0 s0] σ = evK 107 48 [a0, a1, a2, a3, a4] [] (ev 114 0 [aR 0 s0, aI s1] [] σ) := ev_call f_Ub_judge_45 rfl rfl
theorem f_Ub_judge_48 : fetch 107 48 = some (.ireturn) := by decide +kernel
theorem e_Ub_judge_48 (a0 a1 a2 a3 a4 : AV) (σ : aM) (x : Int) : ev 107 48 [a0, a1, a2, a3, a4] [aI x] σ = some ((some (aI x)), σ) := ev_ret f_Ub_judge_48 rfl
theorem f_Ub_judge_49 : fetch 107 49 = some (.iload_n 2) := by decide +kernel
theorem e_Ub_judge_49 (a0 a1 a3 a4 : AV) (σ : aM) (l2 : Int) (r : List AV)  : ev 107 49 [a0, a1, aI l2, a3, a4] (r) σ = ev 107 50 [a0, a1, aI l2, a3, a4] (aI l2 :: r) σ := ev_go f_Ub_judge_49 rfl
theorem f_Ub_judge_50 : fetch 107 50 = some (.bipush 40) := by decide +kernel
theorem e_Ub_judge_50 (a0 a1 a2 a3 a4 : AV) (σ : aM) (r : List AV)  : ev 107 50 [a0, a1, a2, a3, a4] (r) σ = ev 107 52 [a0, a1, a2, a3, a4] (aI 40 :: r) σ := ev_go f_Ub_judge_50 rfl
theorem f_Ub_judge_52 : fetch 107 52 = some (.if_icmp .le 10) := by decide +kernel
theorem e_Ub_judge_52 (a0 a1 a2 a3 a4 : AV) (σ : aM) (x z : Int) (r : List AV) : ev 107 52 [a0, a1, a2, a3, a4] (aI z :: aI x :: r) σ = if x ≤ z then ev 107 62 [a0, a1, a2, a3, a4] r σ else ev 107 55 [a0, a1, a2, a3, a4] r σ := ev_br f_Ub_judge_52 rfl bc_le
theorem f_Ub_judge_55 : fetch 107 55 = some (.aload_n 0) := by decide +kernel
theorem e_Ub_judge_55 (a1 a2 a3 a4 : AV) (σ : aM) (l0 : Option (Nat × Int)) (r : List AV)  : ev 107 55 [aQ l0, a1, a2, a3, a4] (r) σ = ev 107 56 [aQ l0, a1, a2, a3, a4] (aQ l0 :: r) σ := ev_go f_Ub_judge_55 rfl
theorem f_Ub_judge_56 : fetch 107 56 = some (.bipush (-6)) := by decide +kernel
theorem e_Ub_judge_56 (a0 a1 a2 a3 a4 : AV) (σ : aM) (r : List AV)  : ev 107 56 [a0, a1, a2, a3, a4] (r) σ = ev 107 58 [a0, a1, a2, a3, a4] (aI (-6) :: r) σ := ev_go f_Ub_judge_56 rfl
theorem f_Ub_judge_58 : fetch 107 58 = some (.invokevirtual 231) := by decide +kernel
theorem e_Ub_judge_58 (a0 a1 a2 a3 a4 : AV) (σ : aM) (s0 : Int) (s1 : Int) : ev 107 58 [a0, a1, a2, a3, a4] [aI s1, aR 0 s0] σ = evK 107 61 [a0, a1, a2, a3, a4] [] (ev 114 0 [aR 0 s0, aI s1] [] σ) := ev_call f_Ub_judge_58 rfl rfl
theorem f_Ub_judge_61 : fetch 107 61 = some (.ireturn) := by decide +kernel
theorem e_Ub_judge_61 (a0 a1 a2 a3 a4 : AV) (σ : aM) (x : Int) : ev 107 61 [a0, a1, a2, a3, a4] [aI x] σ = some ((some (aI x)), σ) := ev_ret f_Ub_judge_61 rfl
theorem f_Ub_judge_62 : fetch 107 62 = some (.iconst 0) := by decide +kernel
theorem e_Ub_judge_62 (a0 a1 a2 a3 a4 : AV) (σ : aM) (r : List AV)  : ev 107 62 [a0, a1, a2, a3, a4] (r) σ = ev 107 63 [a0, a1, a2, a3, a4] (aI 0 :: r) σ := ev_go f_Ub_judge_62 rfl
theorem f_Ub_judge_63 : fetch 107 63 = some (.istore 4) := by decide +kernel
theorem e_Ub_judge_63 (a0 a1 a2 a4 : AV) (σ : aM) (x : Int) (l3 : Int) (r : List AV)  : ev 107 63 [a0, a1, a2, aI l3, a4] (aI x :: r) σ = ev 107 65 [a0, a1, a2, aI l3, aI x] (r) σ := ev_go f_Ub_judge_63 rfl
theorem f_Ub_judge_65 : fetch 107 65 = some (.iload 4) := by decide +kernel
theorem e_Ub_judge_65 (a0 a1 a2 a3 : AV) (σ : aM) (l4 : Int) (r : List AV)  : ev 107 65 [a0, a1, a2, a3, aI l4] (r) σ = ev 107 67 [a0, a1, a2, a3, aI l4] (aI l4 :: r) σ := ev_go f_Ub_judge_65 rfl
theorem f_Ub_judge_67 : fetch 107 67 = some (.iload_n 2) := by decide +kernel
theorem e_Ub_judge_67 (a0 a1 a3 a4 : AV) (σ : aM) (l2 : Int) (r : List AV)  : ev 107 67 [a0, a1, aI l2, a3, a4] (r) σ = ev 107 68 [a0, a1, aI l2, a3, a4] (aI l2 :: r) σ := ev_go f_Ub_judge_67 rfl
theorem f_Ub_judge_68 : fetch 107 68 = some (.if_icmp .ge 33) := by decide +kernel
theorem e_Ub_judge_68 (a0 a1 a2 a3 a4 : AV) (σ : aM) (x z : Int) (r : List AV) : ev 107 68 [a0, a1, a2, a3, a4] (aI z :: aI x :: r) σ = if z ≤ x then ev 107 101 [a0, a1, a2, a3, a4] r σ else ev 107 71 [a0, a1, a2, a3, a4] r σ := ev_br f_Ub_judge_68 rfl bc_ge
theorem f_Ub_judge_71 : fetch 107 71 = some (.aload_n 0) := by decide +kernel
theorem e_Ub_judge_71 (a1 a2 a3 a4 : AV) (σ : aM) (l0 : Option (Nat × Int)) (r : List AV)  : ev 107 71 [aQ l0, a1, a2, a3, a4] (r) σ = ev 107 72 [aQ l0, a1, a2, a3, a4] (aQ l0 :: r) σ := ev_go f_Ub_judge_71 rfl
theorem f_Ub_judge_72 : fetch 107 72 = some (.getfield 30) := by decide +kernel
theorem e_Ub_judge_72 (a0 a1 a2 a3 a4 : AV) (σ : aM) (i : Int) (r : List AV)  : ev 107 72 [a0, a1, a2, a3, a4] (aR 0 i :: r) σ = ev 107 75 [a0, a1, a2, a3, a4] (aR 6 0 :: r) σ := ev_go f_Ub_judge_72 rfl
theorem f_Ub_judge_75 : fetch 107 75 = some (.getfield 258) := by decide +kernel
theorem e_Ub_judge_75 (a0 a1 a2 a3 a4 : AV) (σ : aM) (i : Int) (r : List AV)  : ev 107 75 [a0, a1, a2, a3, a4] (aR 6 i :: r) σ = ev 107 78 [a0, a1, a2, a3, a4] (aR 9 i :: r) σ := ev_go f_Ub_judge_75 rfl
theorem f_Ub_judge_78 : fetch 107 78 = some (.aload_n 0) := by decide +kernel
theorem e_Ub_judge_78 (a1 a2 a3 a4 : AV) (σ : aM) (l0 : Option (Nat × Int)) (r : List AV)  : ev 107 78 [aQ l0, a1, a2, a3, a4] (r) σ = ev 107 79 [aQ l0, a1, a2, a3, a4] (aQ l0 :: r) σ := ev_go f_Ub_judge_78 rfl
theorem f_Ub_judge_79 : fetch 107 79 = some (.getfield 11) := by decide +kernel
theorem e_Ub_judge_79 (a0 a1 a2 a3 a4 : AV) (σ : aM) (i : Int) (r : List AV)  : ev 107 79 [a0, a1, a2, a3, a4] (aR 0 i :: r) σ = ev 107 82 [a0, a1, a2, a3, a4] (aR 1 0 :: r) σ := ev_go f_Ub_judge_79 rfl
theorem f_Ub_judge_82 : fetch 107 82 = some (.iload_n 1) := by decide +kernel
theorem e_Ub_judge_82 (a0 a2 a3 a4 : AV) (σ : aM) (l1 : Int) (r : List AV)  : ev 107 82 [a0, aI l1, a2, a3, a4] (r) σ = ev 107 83 [a0, aI l1, a2, a3, a4] (aI l1 :: r) σ := ev_go f_Ub_judge_82 rfl
theorem f_Ub_judge_83 : fetch 107 83 = some (.aaload) := by decide +kernel
theorem e_Ub_judge_83 (a0 a1 a2 a3 a4 : AV) (σ : aM) (x : Int) (i : Int) (r : List AV) (h : 0 ≤ x ∧ x < 8) : ev 107 83 [a0, a1, a2, a3, a4] (aI x :: aR 1 i :: r) σ = ev 107 84 [a0, a1, a2, a3, a4] (aR 2 x :: r) σ := ev_cd f_Ub_judge_83 rfl ⟨by decide, by decide, h.1, by rw [aLen_n (by decide) rfl]; exact h.2⟩
theorem f_Ub_judge_84 : fetch 107 84 = some (.iload 4) := by decide +kernel
theorem e_Ub_judge_84 (a0 a1 a2 a3 : AV) (σ : aM) (l4 : Int) (r : List AV)  : ev 107 84 [a0, a1, a2, a3, aI l4] (r) σ = ev 107 86 [a0, a1, a2, a3, aI l4] (aI l4 :: r) σ := ev_go f_Ub_judge_84 rfl
theorem f_Ub_judge_86 : fetch 107 86 = some (.invokevirtual 283) := by decide +kernel
theorem e_Ub_judge_86 (a0 a1 a2 a3 a4 : AV) (σ : aM) (s0 : Int) (s1 : Option (Nat × Int)) (s2 : Int) : ev 107 86 [a0, a1, a2, a3, a4] [aI s2, aQ s1, aR 9 s0] σ = evK 107 89 [a0, a1, a2, a3, a4] [] (ev 76 0 [aR 9 s0, aQ s1, aI s2, aU] [] σ) := ev_call f_Ub_judge_86 rfl rfl
theorem f_Ub_judge_89 : fetch 107 89 = some (.ifCond .ne 6) := by decide +kernel
theorem e_Ub_judge_89 (a0 a1 a2 a3 a4 : AV) (σ : aM) (x : Int) (r : List AV) : ev 107 89 [a0, a1, a2, a3, a4] (aI x :: r) σ = if ¬ x = 0 then ev 107 95 [a0, a1, a2, a3, a4] r σ else ev 107 92 [a0, a1, a2, a3, a4] r σ := ev_br f_Ub_judge_89 rfl bc_ne
theorem f_Ub_judge_92 : fetch 107 92 = some (.iload 4) := by decide +kernel
theorem e_Ub_judge_92 (a0 a1 a2 a3 : AV) (σ : aM) (l4 : Int) (r : List AV)  : ev 107 92 [a0, a1, a2, a3, aI l4] (r) σ = ev 107 94 [a0, a1, a2, a3, aI l4] (aI l4 :: r) σ := ev_go f_Ub_judge_92 rfl
theorem f_Ub_judge_94 : fetch 107 94 = some (.ireturn) := by decide +kernel
theorem e_Ub_judge_94 (a0 a1 a2 a3 a4 : AV) (σ : aM) (x : Int) : ev 107 94 [a0, a1, a2, a3, a4] [aI x] σ = some ((some (aI x)), σ) := ev_ret f_Ub_judge_94 rfl
theorem f_Ub_judge_95 : fetch 107 95 = some (.iinc 4 1) := by decide +kernel
theorem e_Ub_judge_95 (a0 a1 a2 : AV) (σ : aM) (l4 : Int) (l3 : Int) (r : List AV)  : ev 107 95 [a0, a1, a2, aI l3, aI l4] (r) σ = ev 107 98 [a0, a1, a2, aI l3, aI (wr (l4 + 1))] (r) σ := ev_go f_Ub_judge_95 rfl
theorem f_Ub_judge_98 : fetch 107 98 = some (.goto (-33)) := by decide +kernel
theorem e_Ub_judge_98 (a0 a1 a2 a3 a4 : AV) (σ : aM) (r : List AV)  : ev 107 98 [a0, a1, a2, a3, a4] (r) σ = ev 107 65 [a0, a1, a2, a3, a4] (r) σ := ev_go f_Ub_judge_98 rfl
theorem f_Ub_judge_101 : fetch 107 101 = some (.iconst (-1)) := by decide +kernel
theorem e_Ub_judge_101 (a0 a1 a2 a3 a4 : AV) (σ : aM) (r : List AV)  : ev 107 101 [a0, a1, a2, a3, a4] (r) σ = ev 107 102 [a0, a1, a2, a3, a4] (aI (-1) :: r) σ := ev_go f_Ub_judge_101 rfl
theorem f_Ub_judge_102 : fetch 107 102 = some (.ireturn) := by decide +kernel
theorem e_Ub_judge_102 (a0 a1 a2 a3 a4 : AV) (σ : aM) (x : Int) : ev 107 102 [a0, a1, a2, a3, a4] [aI x] σ = some ((some (aI x)), σ) := ev_ret f_Ub_judge_102 rfl
theorem f_Ub_draws_0 : fetch 108 0 = some (.iload_n 1) := by decide +kernel
theorem e_Ub_draws_0 (a0 a2 a3 a4 a5 a6 a7 : AV) (σ : aM) (l1 : Int) (r : List AV)  : ev 108 0 [a0, aI l1, a2, a3, a4, a5, a6, a7] (r) σ = ev 108 1 [a0, aI l1, a2, a3, a4, a5, a6, a7] (aI l1 :: r) σ := ev_go f_Ub_draws_0 rfl
theorem f_Ub_draws_1 : fetch 108 1 = some (.iconst 1) := by decide +kernel
theorem e_Ub_draws_1 (a0 a1 a2 a3 a4 a5 a6 a7 : AV) (σ : aM) (r : List AV)  : ev 108 1 [a0, a1, a2, a3, a4, a5, a6, a7] (r) σ = ev 108 2 [a0, a1, a2, a3, a4, a5, a6, a7] (aI 1 :: r) σ := ev_go f_Ub_draws_1 rfl
theorem f_Ub_draws_2 : fetch 108 2 = some (.if_icmp .lt 9) := by decide +kernel
theorem e_Ub_draws_2 (a0 a1 a2 a3 a4 a5 a6 a7 : AV) (σ : aM) (x z : Int) (r : List AV) : ev 108 2 [a0, a1, a2, a3, a4, a5, a6, a7] (aI z :: aI x :: r) σ = if x < z then ev 108 11 [a0, a1, a2, a3, a4, a5, a6, a7] r σ else ev 108 5 [a0, a1, a2, a3, a4, a5, a6, a7] r σ := ev_br f_Ub_draws_2 rfl bc_lt
theorem f_Ub_draws_5 : fetch 108 5 = some (.iload_n 1) := by decide +kernel
theorem e_Ub_draws_5 (a0 a2 a3 a4 a5 a6 a7 : AV) (σ : aM) (l1 : Int) (r : List AV)  : ev 108 5 [a0, aI l1, a2, a3, a4, a5, a6, a7] (r) σ = ev 108 6 [a0, aI l1, a2, a3, a4, a5, a6, a7] (aI l1 :: r) σ := ev_go f_Ub_draws_5 rfl
theorem f_Ub_draws_6 : fetch 108 6 = some (.bipush 20) := by decide +kernel
theorem e_Ub_draws_6 (a0 a1 a2 a3 a4 a5 a6 a7 : AV) (σ : aM) (r : List AV)  : ev 108 6 [a0, a1, a2, a3, a4, a5, a6, a7] (r) σ = ev 108 8 [a0, a1, a2, a3, a4, a5, a6, a7] (aI 20 :: r) σ := ev_go f_Ub_draws_6 rfl
theorem f_Ub_draws_8 : fetch 108 8 = some (.if_icmp .le 10) := by decide +kernel
theorem e_Ub_draws_8 (a0 a1 a2 a3 a4 a5 a6 a7 : AV) (σ : aM) (x z : Int) (r : List AV) : ev 108 8 [a0, a1, a2, a3, a4, a5, a6, a7] (aI z :: aI x :: r) σ = if x ≤ z then ev 108 18 [a0, a1, a2, a3, a4, a5, a6, a7] r σ else ev 108 11 [a0, a1, a2, a3, a4, a5, a6, a7] r σ := ev_br f_Ub_draws_8 rfl bc_le
theorem f_Ub_draws_11 : fetch 108 11 = some (.aload_n 0) := by decide +kernel
theorem e_Ub_draws_11 (a1 a2 a3 a4 a5 a6 a7 : AV) (σ : aM) (l0 : Option (Nat × Int)) (r : List AV)  : ev 108 11 [aQ l0, a1, a2, a3, a4, a5, a6, a7] (r) σ = ev 108 12 [aQ l0, a1, a2, a3, a4, a5, a6, a7] (aQ l0 :: r) σ := ev_go f_Ub_draws_11 rfl
theorem f_Ub_draws_12 : fetch 108 12 = some (.bipush (-6)) := by decide +kernel
theorem e_Ub_draws_12 (a0 a1 a2 a3 a4 a5 a6 a7 : AV) (σ : aM) (r : List AV)  : ev 108 12 [a0, a1, a2, a3, a4, a5, a6, a7] (r) σ = ev 108 14 [a0, a1, a2, a3, a4, a5, a6, a7] (aI (-6) :: r) σ := ev_go f_Ub_draws_12 rfl
theorem f_Ub_draws_14 : fetch 108 14 = some (.invokevirtual 71) := by decide +kernel
theorem e_Ub_draws_14 (a0 a1 a2 a3 a4 a5 a6 a7 : AV) (σ : aM) (s0 : Int) (s1 : Int) : ev 108 14 [a0, a1, a2, a3, a4, a5, a6, a7] [aI s1, aR 0 s0] σ = evK 108 17 [a0, a1, a2, a3, a4, a5, a6, a7] [] (ev 113 0 [aR 0 s0, aI s1] [] σ) := ev_call f_Ub_draws_14 rfl rfl
theorem f_Ub_draws_17 : fetch 108 17 = some (.ireturn) := by decide +kernel
theorem e_Ub_draws_17 (a0 a1 a2 a3 a4 a5 a6 a7 : AV) (σ : aM) (x : Int) : ev 108 17 [a0, a1, a2, a3, a4, a5, a6, a7] [aI x] σ = some ((some (aI x)), σ) := ev_ret f_Ub_draws_17 rfl
theorem f_Ub_draws_18 : fetch 108 18 = some (.iconst 0) := by decide +kernel
theorem e_Ub_draws_18 (a0 a1 a2 a3 a4 a5 a6 a7 : AV) (σ : aM) (r : List AV)  : ev 108 18 [a0, a1, a2, a3, a4, a5, a6, a7] (r) σ = ev 108 19 [a0, a1, a2, a3, a4, a5, a6, a7] (aI 0 :: r) σ := ev_go f_Ub_draws_18 rfl
theorem f_Ub_draws_19 : fetch 108 19 = some (.istore_n 2) := by decide +kernel
theorem e_Ub_draws_19 (a0 a2 a3 a4 a5 a6 a7 : AV) (σ : aM) (x : Int) (l1 : Int) (r : List AV)  : ev 108 19 [a0, aI l1, a2, a3, a4, a5, a6, a7] (aI x :: r) σ = ev 108 20 [a0, aI l1, aI x, a3, a4, a5, a6, a7] (r) σ := ev_go f_Ub_draws_19 rfl
theorem f_Ub_draws_20 : fetch 108 20 = some (.iconst 0) := by decide +kernel
theorem e_Ub_draws_20 (a0 a1 a2 a3 a4 a5 a6 a7 : AV) (σ : aM) (r : List AV)  : ev 108 20 [a0, a1, a2, a3, a4, a5, a6, a7] (r) σ = ev 108 21 [a0, a1, a2, a3, a4, a5, a6, a7] (aI 0 :: r) σ := ev_go f_Ub_draws_20 rfl
theorem f_Ub_draws_21 : fetch 108 21 = some (.istore_n 3) := by decide +kernel
theorem e_Ub_draws_21 (a0 a1 a3 a4 a5 a6 a7 : AV) (σ : aM) (x : Int) (l2 : Int) (r : List AV)  : ev 108 21 [a0, a1, aI l2, a3, a4, a5, a6, a7] (aI x :: r) σ = ev 108 22 [a0, a1, aI l2, aI x, a4, a5, a6, a7] (r) σ := ev_go f_Ub_draws_21 rfl
theorem f_Ub_draws_22 : fetch 108 22 = some (.iload_n 3) := by decide +kernel
theorem e_Ub_draws_22 (a0 a1 a2 a4 a5 a6 a7 : AV) (σ : aM) (l3 : Int) (r : List AV)  : ev 108 22 [a0, a1, a2, aI l3, a4, a5, a6, a7] (r) σ = ev 108 23 [a0, a1, a2, aI l3, a4, a5, a6, a7] (aI l3 :: r) σ := ev_go f_Ub_draws_22 rfl
theorem f_Ub_draws_23 : fetch 108 23 = some (.iload_n 1) := by decide +kernel
theorem e_Ub_draws_23 (a0 a2 a3 a4 a5 a6 a7 : AV) (σ : aM) (l1 : Int) (r : List AV)  : ev 108 23 [a0, aI l1, a2, a3, a4, a5, a6, a7] (r) σ = ev 108 24 [a0, aI l1, a2, a3, a4, a5, a6, a7] (aI l1 :: r) σ := ev_go f_Ub_draws_23 rfl
theorem f_Ub_draws_24 : fetch 108 24 = some (.if_icmp .ge 83) := by decide +kernel
theorem e_Ub_draws_24 (a0 a1 a2 a3 a4 a5 a6 a7 : AV) (σ : aM) (x z : Int) (r : List AV) : ev 108 24 [a0, a1, a2, a3, a4, a5, a6, a7] (aI z :: aI x :: r) σ = if z ≤ x then ev 108 107 [a0, a1, a2, a3, a4, a5, a6, a7] r σ else ev 108 27 [a0, a1, a2, a3, a4, a5, a6, a7] r σ := ev_br f_Ub_draws_24 rfl bc_ge
theorem f_Ub_draws_27 : fetch 108 27 = some (.aload_n 0) := by decide +kernel
theorem e_Ub_draws_27 (a1 a2 a3 a4 a5 a6 a7 : AV) (σ : aM) (l0 : Option (Nat × Int)) (r : List AV)  : ev 108 27 [aQ l0, a1, a2, a3, a4, a5, a6, a7] (r) σ = ev 108 28 [aQ l0, a1, a2, a3, a4, a5, a6, a7] (aQ l0 :: r) σ := ev_go f_Ub_draws_27 rfl
theorem f_Ub_draws_28 : fetch 108 28 = some (.getfield 30) := by decide +kernel
theorem e_Ub_draws_28 (a0 a1 a2 a3 a4 a5 a6 a7 : AV) (σ : aM) (i : Int) (r : List AV)  : ev 108 28 [a0, a1, a2, a3, a4, a5, a6, a7] (aR 0 i :: r) σ = ev 108 31 [a0, a1, a2, a3, a4, a5, a6, a7] (aR 6 0 :: r) σ := ev_go f_Ub_draws_28 rfl
theorem f_Ub_draws_31 : fetch 108 31 = some (.bipush 8) := by decide +kernel
theorem e_Ub_draws_31 (a0 a1 a2 a3 a4 a5 a6 a7 : AV) (σ : aM) (r : List AV)  : ev 108 31 [a0, a1, a2, a3, a4, a5, a6, a7] (r) σ = ev 108 33 [a0, a1, a2, a3, a4, a5, a6, a7] (aI 8 :: r) σ := ev_go f_Ub_draws_31 rfl
theorem f_Ub_draws_33 : fetch 108 33 = some (.invokevirtual 287) := by decide +kernel
theorem e_Ub_draws_33 (a0 a1 a2 a3 a4 a5 a6 a7 : AV) (σ : aM) (s0 : Int) (s1 : Int) : ev 108 33 [a0, a1, a2, a3, a4, a5, a6, a7] [aI s1, aR 6 s0] σ = evK 108 36 [a0, a1, a2, a3, a4, a5, a6, a7] [] (ev 12 0 [aR 6 s0, aI s1] [] σ) := ev_call f_Ub_draws_33 rfl rfl
theorem f_Ub_draws_36 : fetch 108 36 = some (.istore 4) := by decide +kernel
theorem e_Ub_draws_36 (a0 a1 a2 a4 a5 a6 a7 : AV) (σ : aM) (x : Int) (l3 : Int) (r : List AV)  : ev 108 36 [a0, a1, a2, aI l3, a4, a5, a6, a7] (aI x :: r) σ = ev 108 38 [a0, a1, a2, aI l3, aI x, a5, a6, a7] (r) σ := ev_go f_Ub_draws_36 rfl
theorem f_Ub_draws_38 : fetch 108 38 = some (.aload_n 0) := by decide +kernel
theorem e_Ub_draws_38 (a1 a2 a3 a4 a5 a6 a7 : AV) (σ : aM) (l0 : Option (Nat × Int)) (r : List AV)  : ev 108 38 [aQ l0, a1, a2, a3, a4, a5, a6, a7] (r) σ = ev 108 39 [aQ l0, a1, a2, a3, a4, a5, a6, a7] (aQ l0 :: r) σ := ev_go f_Ub_draws_38 rfl
theorem f_Ub_draws_39 : fetch 108 39 = some (.getfield 30) := by decide +kernel
theorem e_Ub_draws_39 (a0 a1 a2 a3 a4 a5 a6 a7 : AV) (σ : aM) (i : Int) (r : List AV)  : ev 108 39 [a0, a1, a2, a3, a4, a5, a6, a7] (aR 0 i :: r) σ = ev 108 42 [a0, a1, a2, a3, a4, a5, a6, a7] (aR 6 0 :: r) σ := ev_go f_Ub_draws_39 rfl
theorem f_Ub_draws_42 : fetch 108 42 = some (.iconst 2) := by decide +kernel
theorem e_Ub_draws_42 (a0 a1 a2 a3 a4 a5 a6 a7 : AV) (σ : aM) (r : List AV)  : ev 108 42 [a0, a1, a2, a3, a4, a5, a6, a7] (r) σ = ev 108 43 [a0, a1, a2, a3, a4, a5, a6, a7] (aI 2 :: r) σ := ev_go f_Ub_draws_42 rfl
theorem f_Ub_draws_43 : fetch 108 43 = some (.invokevirtual 287) := by decide +kernel
theorem e_Ub_draws_43 (a0 a1 a2 a3 a4 a5 a6 a7 : AV) (σ : aM) (s0 : Int) (s1 : Int) : ev 108 43 [a0, a1, a2, a3, a4, a5, a6, a7] [aI s1, aR 6 s0] σ = evK 108 46 [a0, a1, a2, a3, a4, a5, a6, a7] [] (ev 12 0 [aR 6 s0, aI s1] [] σ) := ev_call f_Ub_draws_43 rfl rfl
theorem f_Ub_draws_46 : fetch 108 46 = some (.istore 5) := by decide +kernel
theorem e_Ub_draws_46 (a0 a1 a2 a3 a5 a6 a7 : AV) (σ : aM) (x : Int) (l4 : Int) (r : List AV)  : ev 108 46 [a0, a1, a2, a3, aI l4, a5, a6, a7] (aI x :: r) σ = ev 108 48 [a0, a1, a2, a3, aI l4, aI x, a6, a7] (r) σ := ev_go f_Ub_draws_46 rfl
theorem f_Ub_draws_48 : fetch 108 48 = some (.aload_n 0) := by decide +kernel
theorem e_Ub_draws_48 (a1 a2 a3 a4 a5 a6 a7 : AV) (σ : aM) (l0 : Option (Nat × Int)) (r : List AV)  : ev 108 48 [aQ l0, a1, a2, a3, a4, a5, a6, a7] (r) σ = ev 108 49 [aQ l0, a1, a2, a3, a4, a5, a6, a7] (aQ l0 :: r) σ := ev_go f_Ub_draws_48 rfl
theorem f_Ub_draws_49 : fetch 108 49 = some (.getfield 30) := by decide +kernel
theorem e_Ub_draws_49 (a0 a1 a2 a3 a4 a5 a6 a7 : AV) (σ : aM) (i : Int) (r : List AV)  : ev 108 49 [a0, a1, a2, a3, a4, a5, a6, a7] (aR 0 i :: r) σ = ev 108 52 [a0, a1, a2, a3, a4, a5, a6, a7] (aR 6 0 :: r) σ := ev_go f_Ub_draws_49 rfl
theorem f_Ub_draws_52 : fetch 108 52 = some (.bipush 20) := by decide +kernel
theorem e_Ub_draws_52 (a0 a1 a2 a3 a4 a5 a6 a7 : AV) (σ : aM) (r : List AV)  : ev 108 52 [a0, a1, a2, a3, a4, a5, a6, a7] (r) σ = ev 108 54 [a0, a1, a2, a3, a4, a5, a6, a7] (aI 20 :: r) σ := ev_go f_Ub_draws_52 rfl
theorem f_Ub_draws_54 : fetch 108 54 = some (.invokevirtual 287) := by decide +kernel
theorem e_Ub_draws_54 (a0 a1 a2 a3 a4 a5 a6 a7 : AV) (σ : aM) (s0 : Int) (s1 : Int) : ev 108 54 [a0, a1, a2, a3, a4, a5, a6, a7] [aI s1, aR 6 s0] σ = evK 108 57 [a0, a1, a2, a3, a4, a5, a6, a7] [] (ev 12 0 [aR 6 s0, aI s1] [] σ) := ev_call f_Ub_draws_54 rfl rfl
theorem f_Ub_draws_57 : fetch 108 57 = some (.iconst 1) := by decide +kernel
theorem e_Ub_draws_57 (a0 a1 a2 a3 a4 a5 a6 a7 : AV) (σ : aM) (r : List AV)  : ev 108 57 [a0, a1, a2, a3, a4, a5, a6, a7] (r) σ = ev 108 58 [a0, a1, a2, a3, a4, a5, a6, a7] (aI 1 :: r) σ := ev_go f_Ub_draws_57 rfl
theorem f_Ub_draws_58 : fetch 108 58 = some (.iadd) := by decide +kernel
theorem e_Ub_draws_58 (a0 a1 a2 a3 a4 a5 a6 a7 : AV) (σ : aM) (x z : Int) (r : List AV)  : ev 108 58 [a0, a1, a2, a3, a4, a5, a6, a7] (aI z :: aI x :: r) σ = ev 108 59 [a0, a1, a2, a3, a4, a5, a6, a7] (aI (wr (x + z)) :: r) σ := ev_go f_Ub_draws_58 rfl
theorem f_Ub_draws_59 : fetch 108 59 = some (.istore 6) := by decide +kernel
theorem e_Ub_draws_59 (a0 a1 a2 a3 a4 a6 a7 : AV) (σ : aM) (x : Int) (l5 : Int) (r : List AV)  : ev 108 59 [a0, a1, a2, a3, a4, aI l5, a6, a7] (aI x :: r) σ = ev 108 61 [a0, a1, a2, a3, a4, aI l5, aI x, a7] (r) σ := ev_go f_Ub_draws_59 rfl
theorem f_Ub_draws_61 : fetch 108 61 = some (.aload_n 0) := by decide +kernel
theorem e_Ub_draws_61 (a1 a2 a3 a4 a5 a6 a7 : AV) (σ : aM) (l0 : Option (Nat × Int)) (r : List AV)  : ev 108 61 [aQ l0, a1, a2, a3, a4, a5, a6, a7] (r) σ = ev 108 62 [aQ l0, a1, a2, a3, a4, a5, a6, a7] (aQ l0 :: r) σ := ev_go f_Ub_draws_61 rfl
theorem f_Ub_draws_62 : fetch 108 62 = some (.getfield 30) := by decide +kernel
theorem e_Ub_draws_62 (a0 a1 a2 a3 a4 a5 a6 a7 : AV) (σ : aM) (i : Int) (r : List AV)  : ev 108 62 [a0, a1, a2, a3, a4, a5, a6, a7] (aR 0 i :: r) σ = ev 108 65 [a0, a1, a2, a3, a4, a5, a6, a7] (aR 6 0 :: r) σ := ev_go f_Ub_draws_62 rfl
theorem f_Ub_draws_65 : fetch 108 65 = some (.bipush 21) := by decide +kernel
theorem e_Ub_draws_65 (a0 a1 a2 a3 a4 a5 a6 a7 : AV) (σ : aM) (r : List AV)  : ev 108 65 [a0, a1, a2, a3, a4, a5, a6, a7] (r) σ = ev 108 67 [a0, a1, a2, a3, a4, a5, a6, a7] (aI 21 :: r) σ := ev_go f_Ub_draws_65 rfl
theorem f_Ub_draws_67 : fetch 108 67 = some (.invokevirtual 287) := by decide +kernel
theorem e_Ub_draws_67 (a0 a1 a2 a3 a4 a5 a6 a7 : AV) (σ : aM) (s0 : Int) (s1 : Int) : ev 108 67 [a0, a1, a2, a3, a4, a5, a6, a7] [aI s1, aR 6 s0] σ = evK 108 70 [a0, a1, a2, a3, a4, a5, a6, a7] [] (ev 12 0 [aR 6 s0, aI s1] [] σ) := ev_call f_Ub_draws_67 rfl rfl
theorem f_Ub_draws_70 : fetch 108 70 = some (.sipush 490) := by decide +kernel
theorem e_Ub_draws_70 (a0 a1 a2 a3 a4 a5 a6 a7 : AV) (σ : aM) (r : List AV)  : ev 108 70 [a0, a1, a2, a3, a4, a5, a6, a7] (r) σ = ev 108 73 [a0, a1, a2, a3, a4, a5, a6, a7] (aI 490 :: r) σ := ev_go f_Ub_draws_70 rfl
theorem f_Ub_draws_73 : fetch 108 73 = some (.iadd) := by decide +kernel
theorem e_Ub_draws_73 (a0 a1 a2 a3 a4 a5 a6 a7 : AV) (σ : aM) (x z : Int) (r : List AV)  : ev 108 73 [a0, a1, a2, a3, a4, a5, a6, a7] (aI z :: aI x :: r) σ = ev 108 74 [a0, a1, a2, a3, a4, a5, a6, a7] (aI (wr (x + z)) :: r) σ := ev_go f_Ub_draws_73 rfl
theorem f_Ub_draws_74 : fetch 108 74 = some (.istore 7) := by decide +kernel
theorem e_Ub_draws_74 (a0 a1 a2 a3 a4 a5 a7 : AV) (σ : aM) (x : Int) (l6 : Int) (r : List AV)  : ev 108 74 [a0, a1, a2, a3, a4, a5, aI l6, a7] (aI x :: r) σ = ev 108 76 [a0, a1, a2, a3, a4, a5, aI l6, aI x] (r) σ := ev_go f_Ub_draws_74 rfl
theorem f_Ub_draws_76 : fetch 108 76 = some (.aload_n 0) := by decide +kernel
theorem e_Ub_draws_76 (a1 a2 a3 a4 a5 a6 a7 : AV) (σ : aM) (l0 : Option (Nat × Int)) (r : List AV)  : ev 108 76 [aQ l0, a1, a2, a3, a4, a5, a6, a7] (r) σ = ev 108 77 [aQ l0, a1, a2, a3, a4, a5, a6, a7] (aQ l0 :: r) σ := ev_go f_Ub_draws_76 rfl
theorem f_Ub_draws_77 : fetch 108 77 = some (.getfield 22) := by decide +kernel
theorem e_Ub_draws_77 (a0 a1 a2 a3 a4 a5 a6 a7 : AV) (σ : aM) (i : Int) (r : List AV)  : ev 108 77 [a0, a1, a2, a3, a4, a5, a6, a7] (aR 0 i :: r) σ = ev 108 80 [a0, a1, a2, a3, a4, a5, a6, a7] (aR 5 0 :: r) σ := ev_go f_Ub_draws_77 rfl
theorem f_Ub_draws_80 : fetch 108 80 = some (.iconst 1) := by decide +kernel
theorem e_Ub_draws_80 (a0 a1 a2 a3 a4 a5 a6 a7 : AV) (σ : aM) (r : List AV)  : ev 108 80 [a0, a1, a2, a3, a4, a5, a6, a7] (r) σ = ev 108 81 [a0, a1, a2, a3, a4, a5, a6, a7] (aI 1 :: r) σ := ev_go f_Ub_draws_80 rfl
theorem f_Ub_draws_81 : fetch 108 81 = some (.iload 4) := by decide +kernel
theorem e_Ub_draws_81 (a0 a1 a2 a3 a5 a6 a7 : AV) (σ : aM) (l4 : Int) (r : List AV)  : ev 108 81 [a0, a1, a2, a3, aI l4, a5, a6, a7] (r) σ = ev 108 83 [a0, a1, a2, a3, aI l4, a5, a6, a7] (aI l4 :: r) σ := ev_go f_Ub_draws_81 rfl
theorem f_Ub_draws_83 : fetch 108 83 = some (.iload 5) := by decide +kernel
theorem e_Ub_draws_83 (a0 a1 a2 a3 a4 a6 a7 : AV) (σ : aM) (l5 : Int) (r : List AV)  : ev 108 83 [a0, a1, a2, a3, a4, aI l5, a6, a7] (r) σ = ev 108 85 [a0, a1, a2, a3, a4, aI l5, a6, a7] (aI l5 :: r) σ := ev_go f_Ub_draws_83 rfl
theorem f_Ub_draws_85 : fetch 108 85 = some (.iload 6) := by decide +kernel
theorem e_Ub_draws_85 (a0 a1 a2 a3 a4 a5 a7 : AV) (σ : aM) (l6 : Int) (r : List AV)  : ev 108 85 [a0, a1, a2, a3, a4, a5, aI l6, a7] (r) σ = ev 108 87 [a0, a1, a2, a3, a4, a5, aI l6, a7] (aI l6 :: r) σ := ev_go f_Ub_draws_85 rfl
theorem f_Ub_draws_87 : fetch 108 87 = some (.iload 7) := by decide +kernel
theorem e_Ub_draws_87 (a0 a1 a2 a3 a4 a5 a6 : AV) (σ : aM) (l7 : Int) (r : List AV)  : ev 108 87 [a0, a1, a2, a3, a4, a5, a6, aI l7] (r) σ = ev 108 89 [a0, a1, a2, a3, a4, a5, a6, aI l7] (aI l7 :: r) σ := ev_go f_Ub_draws_87 rfl
theorem f_Ub_draws_89 : fetch 108 89 = some (.iconst 0) := by decide +kernel
theorem e_Ub_draws_89 (a0 a1 a2 a3 a4 a5 a6 a7 : AV) (σ : aM) (r : List AV)  : ev 108 89 [a0, a1, a2, a3, a4, a5, a6, a7] (r) σ = ev 108 90 [a0, a1, a2, a3, a4, a5, a6, a7] (aI 0 :: r) σ := ev_go f_Ub_draws_89 rfl
theorem f_Ub_draws_90 : fetch 108 90 = some (.iconst 0) := by decide +kernel
theorem e_Ub_draws_90 (a0 a1 a2 a3 a4 a5 a6 a7 : AV) (σ : aM) (r : List AV)  : ev 108 90 [a0, a1, a2, a3, a4, a5, a6, a7] (r) σ = ev 108 91 [a0, a1, a2, a3, a4, a5, a6, a7] (aI 0 :: r) σ := ev_go f_Ub_draws_90 rfl
theorem f_Ub_draws_91 : fetch 108 91 = some (.invokevirtual 150) := by decide +kernel
theorem e_Ub_draws_91 (a0 a1 a2 a3 a4 a5 a6 a7 : AV) (σ : aM) (s0 : Int) (s1 : Int) (s2 : Int) (s3 : Int) (s4 : Int) (s5 : Int) (s6 : Int) (s7 : Int) : ev 108 91 [a0, a1, a2, a3, a4, a5, a6, a7] [aI s7, aI s6, aI s5, aI s4, aI s3, aI s2, aI s1, aR 5 s0] σ = evK 108 94 [a0, a1, a2, a3, a4, a5, a6, a7] [] (ev 14 0 [aR 5 s0, aI s1, aI s2, aI s3, aI s4, aI s5, aI s6, aI s7, aU] [] σ) := ev_call f_Ub_draws_91 rfl rfl
theorem f_Ub_draws_94 : fetch 108 94 = some (.iconst (-1)) := by decide +kernel
theorem e_Ub_draws_94 (a0 a1 a2 a3 a4 a5 a6 a7 : AV) (σ : aM) (r : List AV)  : ev 108 94 [a0, a1, a2, a3, a4, a5, a6, a7] (r) σ = ev 108 95 [a0, a1, a2, a3, a4, a5, a6, a7] (aI (-1) :: r) σ := ev_go f_Ub_draws_94 rfl
theorem f_Ub_draws_95 : fetch 108 95 = some (.if_icmp .eq 6) := by decide +kernel
theorem e_Ub_draws_95 (a0 a1 a2 a3 a4 a5 a6 a7 : AV) (σ : aM) (x z : Int) (r : List AV) : ev 108 95 [a0, a1, a2, a3, a4, a5, a6, a7] (aI z :: aI x :: r) σ = if x = z then ev 108 101 [a0, a1, a2, a3, a4, a5, a6, a7] r σ else ev 108 98 [a0, a1, a2, a3, a4, a5, a6, a7] r σ := ev_br f_Ub_draws_95 rfl bc_eq
theorem f_Ub_draws_98 : fetch 108 98 = some (.iinc 2 1) := by decide +kernel
theorem e_Ub_draws_98 (a0 a3 a4 a5 a6 a7 : AV) (σ : aM) (l2 : Int) (l1 : Int) (r : List AV)  : ev 108 98 [a0, aI l1, aI l2, a3, a4, a5, a6, a7] (r) σ = ev 108 101 [a0, aI l1, aI (wr (l2 + 1)), a3, a4, a5, a6, a7] (r) σ := ev_go f_Ub_draws_98 rfl
theorem f_Ub_draws_101 : fetch 108 101 = some (.iinc 3 1) := by decide +kernel
theorem e_Ub_draws_101 (a0 a1 a4 a5 a6 a7 : AV) (σ : aM) (l3 : Int) (l2 : Int) (r : List AV)  : ev 108 101 [a0, a1, aI l2, aI l3, a4, a5, a6, a7] (r) σ = ev 108 104 [a0, a1, aI l2, aI (wr (l3 + 1)), a4, a5, a6, a7] (r) σ := ev_go f_Ub_draws_101 rfl
theorem f_Ub_draws_104 : fetch 108 104 = some (.goto (-82)) := by decide +kernel
theorem e_Ub_draws_104 (a0 a1 a2 a3 a4 a5 a6 a7 : AV) (σ : aM) (r : List AV)  : ev 108 104 [a0, a1, a2, a3, a4, a5, a6, a7] (r) σ = ev 108 22 [a0, a1, a2, a3, a4, a5, a6, a7] (r) σ := ev_go f_Ub_draws_104 rfl
theorem f_Ub_draws_107 : fetch 108 107 = some (.iload_n 2) := by decide +kernel
theorem e_Ub_draws_107 (a0 a1 a3 a4 a5 a6 a7 : AV) (σ : aM) (l2 : Int) (r : List AV)  : ev 108 107 [a0, a1, aI l2, a3, a4, a5, a6, a7] (r) σ = ev 108 108 [a0, a1, aI l2, a3, a4, a5, a6, a7] (aI l2 :: r) σ := ev_go f_Ub_draws_107 rfl
theorem f_Ub_draws_108 : fetch 108 108 = some (.ireturn) := by decide +kernel
theorem e_Ub_draws_108 (a0 a1 a2 a3 a4 a5 a6 a7 : AV) (σ : aM) (x : Int) : ev 108 108 [a0, a1, a2, a3, a4, a5, a6, a7] [aI x] σ = some ((some (aI x)), σ) := ev_ret f_Ub_draws_108 rfl
theorem f_Ub_seed_0 : fetch 109 0 = some (.aload_n 0) := by decide +kernel
theorem e_Ub_seed_0 (a1 a2 : AV) (σ : aM) (l0 : Option (Nat × Int)) (r : List AV)  : ev 109 0 [aQ l0, a1, a2] (r) σ = ev 109 1 [aQ l0, a1, a2] (aQ l0 :: r) σ := ev_go f_Ub_seed_0 rfl
theorem f_Ub_seed_1 : fetch 109 1 = some (.getfield 30) := by decide +kernel
theorem e_Ub_seed_1 (a0 a1 a2 : AV) (σ : aM) (i : Int) (r : List AV)  : ev 109 1 [a0, a1, a2] (aR 0 i :: r) σ = ev 109 4 [a0, a1, a2] (aR 6 0 :: r) σ := ev_go f_Ub_seed_1 rfl
theorem f_Ub_seed_4 : fetch 109 4 = some (.getfield 290) := by decide +kernel
theorem e_Ub_seed_4 (a0 a1 a2 : AV) (σ : aM) (i : Int) (r : List AV)  : ev 109 4 [a0, a1, a2] (aR 6 i :: r) σ = ev 109 7 [a0, a1, a2] (aI (gI σ 6 i 5) :: r) σ := ev_go f_Ub_seed_4 rfl
theorem f_Ub_seed_7 : fetch 109 7 = some (.istore_n 2) := by decide +kernel
theorem e_Ub_seed_7 (a0 a2 : AV) (σ : aM) (x : Int) (l1 : Int) (r : List AV)  : ev 109 7 [a0, aI l1, a2] (aI x :: r) σ = ev 109 8 [a0, aI l1, aI x] (r) σ := ev_go f_Ub_seed_7 rfl
theorem f_Ub_seed_8 : fetch 109 8 = some (.aload_n 0) := by decide +kernel
theorem e_Ub_seed_8 (a1 a2 : AV) (σ : aM) (l0 : Option (Nat × Int)) (r : List AV)  : ev 109 8 [aQ l0, a1, a2] (r) σ = ev 109 9 [aQ l0, a1, a2] (aQ l0 :: r) σ := ev_go f_Ub_seed_8 rfl
theorem f_Ub_seed_9 : fetch 109 9 = some (.getfield 30) := by decide +kernel
theorem e_Ub_seed_9 (a0 a1 a2 : AV) (σ : aM) (i : Int) (r : List AV)  : ev 109 9 [a0, a1, a2] (aR 0 i :: r) σ = ev 109 12 [a0, a1, a2] (aR 6 0 :: r) σ := ev_go f_Ub_seed_9 rfl
theorem f_Ub_seed_12 : fetch 109 12 = some (.iload_n 1) := by decide +kernel
theorem e_Ub_seed_12 (a0 a2 : AV) (σ : aM) (l1 : Int) (r : List AV)  : ev 109 12 [a0, aI l1, a2] (r) σ = ev 109 13 [a0, aI l1, a2] (aI l1 :: r) σ := ev_go f_Ub_seed_12 rfl
theorem f_Ub_seed_13 : fetch 109 13 = some (.putfield 290) := by decide +kernel
theorem e_Ub_seed_13 (a0 a1 a2 : AV) (σ : aM) (i : Int) (x : Int) (r : List AV)  : ev 109 13 [a0, a1, a2] (aI x :: aR 6 i :: r) σ = ev 109 16 [a0, a1, a2] (r) (uI σ 6 i 5 x) := ev_go f_Ub_seed_13 rfl
theorem f_Ub_seed_16 : fetch 109 16 = some (.iload_n 2) := by decide +kernel
theorem e_Ub_seed_16 (a0 a1 : AV) (σ : aM) (l2 : Int) (r : List AV)  : ev 109 16 [a0, a1, aI l2] (r) σ = ev 109 17 [a0, a1, aI l2] (aI l2 :: r) σ := ev_go f_Ub_seed_16 rfl
theorem f_Ub_seed_17 : fetch 109 17 = some (.ireturn) := by decide +kernel
theorem e_Ub_seed_17 (a0 a1 a2 : AV) (σ : aM) (x : Int) : ev 109 17 [a0, a1, a2] [aI x] σ = some ((some (aI x)), σ) := ev_ret f_Ub_seed_17 rfl
theorem f_Ub_image_0 : fetch 110 0 = some (.aload_n 0) := by decide +kernel
theorem e_Ub_image_0 (σ : aM) (l0 : Option (Nat × Int)) (r : List AV)  : ev 110 0 [aQ l0] (r) σ = ev 110 1 [aQ l0] (aQ l0 :: r) σ := ev_go f_Ub_image_0 rfl
theorem f_Ub_image_1 : fetch 110 1 = some (.getfield 55) := by decide +kernel
theorem e_Ub_image_1 (a0 : AV) (σ : aM) (i : Int) (r : List AV)  : ev 110 1 [a0] (aR 0 i :: r) σ = ev 110 4 [a0] (aR 6 1 :: r) σ := ev_go f_Ub_image_1 rfl
theorem f_Ub_image_4 : fetch 110 4 = some (.aload_n 0) := by decide +kernel
theorem e_Ub_image_4 (σ : aM) (l0 : Option (Nat × Int)) (r : List AV)  : ev 110 4 [aQ l0] (r) σ = ev 110 5 [aQ l0] (aQ l0 :: r) σ := ev_go f_Ub_image_4 rfl
theorem f_Ub_image_5 : fetch 110 5 = some (.getfield 30) := by decide +kernel
theorem e_Ub_image_5 (a0 : AV) (σ : aM) (i : Int) (r : List AV)  : ev 110 5 [a0] (aR 0 i :: r) σ = ev 110 8 [a0] (aR 6 0 :: r) σ := ev_go f_Ub_image_5 rfl
theorem f_Ub_image_8 : fetch 110 8 = some (.invokevirtual 293) := by decide +kernel
theorem e_Ub_image_8 (a0 : AV) (σ : aM) (s0 : Int) (s1 : Option (Nat × Int)) : ev 110 8 [a0] [aQ s1, aR 6 s0] σ = evK 110 11 [a0] [] (ev 4 0 [aR 6 s0, aQ s1, aU] [] σ) := ev_call f_Ub_image_8 rfl rfl
theorem f_Ub_image_11 : fetch 110 11 = some (.aload_n 0) := by decide +kernel
theorem e_Ub_image_11 (σ : aM) (l0 : Option (Nat × Int)) (r : List AV)  : ev 110 11 [aQ l0] (r) σ = ev 110 12 [aQ l0] (aQ l0 :: r) σ := ev_go f_Ub_image_11 rfl
theorem f_Ub_image_12 : fetch 110 12 = some (.iconst 1) := by decide +kernel
theorem e_Ub_image_12 (a0 : AV) (σ : aM) (r : List AV)  : ev 110 12 [a0] (r) σ = ev 110 13 [a0] (aI 1 :: r) σ := ev_go f_Ub_image_12 rfl
theorem f_Ub_image_13 : fetch 110 13 = some (.putfield 58) := by decide +kernel
theorem e_Ub_image_13 (a0 : AV) (σ : aM) (i : Int) (x : Int) (r : List AV) (h : x = 0 ∨ x = 1) : ev 110 13 [a0] (aI x :: aR 0 i :: r) σ = ev 110 16 [a0] (r) (uI σ 0 i 8 x) := ev_cd (c := isB x = true) f_Ub_image_13 rfl (isB_of h)
theorem f_Ub_image_16 : fetch 110 16 = some (.aload_n 0) := by decide +kernel
theorem e_Ub_image_16 (σ : aM) (l0 : Option (Nat × Int)) (r : List AV)  : ev 110 16 [aQ l0] (r) σ = ev 110 17 [aQ l0] (aQ l0 :: r) σ := ev_go f_Ub_image_16 rfl
theorem f_Ub_image_17 : fetch 110 17 = some (.getfield 55) := by decide +kernel
theorem e_Ub_image_17 (a0 : AV) (σ : aM) (i : Int) (r : List AV)  : ev 110 17 [a0] (aR 0 i :: r) σ = ev 110 20 [a0] (aR 6 1 :: r) σ := ev_go f_Ub_image_17 rfl
theorem f_Ub_image_20 : fetch 110 20 = some (.getfield 174) := by decide +kernel
theorem e_Ub_image_20 (a0 : AV) (σ : aM) (i : Int) (r : List AV)  : ev 110 20 [a0] (aR 6 i :: r) σ = ev 110 23 [a0] (aI (gI σ 6 i 2) :: r) σ := ev_go f_Ub_image_20 rfl
theorem f_Ub_image_23 : fetch 110 23 = some (.ireturn) := by decide +kernel
theorem e_Ub_image_23 (a0 : AV) (σ : aM) (x : Int) : ev 110 23 [a0] [aI x] σ = some ((some (aI x)), σ) := ev_ret f_Ub_image_23 rfl
theorem f_Ub_restore_0 : fetch 111 0 = some (.aload_n 0) := by decide +kernel
theorem e_Ub_restore_0 (a1 : AV) (σ : aM) (l0 : Option (Nat × Int)) (r : List AV)  : ev 111 0 [aQ l0, a1] (r) σ = ev 111 1 [aQ l0, a1] (aQ l0 :: r) σ := ev_go f_Ub_restore_0 rfl
theorem f_Ub_restore_1 : fetch 111 1 = some (.getfield 58) := by decide +kernel
theorem e_Ub_restore_1 (a0 a1 : AV) (σ : aM) (i : Int) (r : List AV)  : ev 111 1 [a0, a1] (aR 0 i :: r) σ = ev 111 4 [a0, a1] (aI (gI σ 0 i 8) :: r) σ := ev_go f_Ub_restore_1 rfl
theorem f_Ub_restore_4 : fetch 111 4 = some (.ifCond .ne 10) := by decide +kernel
theorem e_Ub_restore_4 (a0 a1 : AV) (σ : aM) (x : Int) (r : List AV) : ev 111 4 [a0, a1] (aI x :: r) σ = if ¬ x = 0 then ev 111 14 [a0, a1] r σ else ev 111 7 [a0, a1] r σ := ev_br f_Ub_restore_4 rfl bc_ne
theorem f_Ub_restore_7 : fetch 111 7 = some (.aload_n 0) := by decide +kernel
theorem e_Ub_restore_7 (a1 : AV) (σ : aM) (l0 : Option (Nat × Int)) (r : List AV)  : ev 111 7 [aQ l0, a1] (r) σ = ev 111 8 [aQ l0, a1] (aQ l0 :: r) σ := ev_go f_Ub_restore_7 rfl
theorem f_Ub_restore_8 : fetch 111 8 = some (.bipush (-6)) := by decide +kernel
theorem e_Ub_restore_8 (a0 a1 : AV) (σ : aM) (r : List AV)  : ev 111 8 [a0, a1] (r) σ = ev 111 10 [a0, a1] (aI (-6) :: r) σ := ev_go f_Ub_restore_8 rfl
theorem f_Ub_restore_10 : fetch 111 10 = some (.invokevirtual 71) := by decide +kernel
theorem e_Ub_restore_10 (a0 a1 : AV) (σ : aM) (s0 : Int) (s1 : Int) : ev 111 10 [a0, a1] [aI s1, aR 0 s0] σ = evK 111 13 [a0, a1] [] (ev 113 0 [aR 0 s0, aI s1] [] σ) := ev_call f_Ub_restore_10 rfl rfl
theorem f_Ub_restore_13 : fetch 111 13 = some (.ireturn) := by decide +kernel
theorem e_Ub_restore_13 (a0 a1 : AV) (σ : aM) (x : Int) : ev 111 13 [a0, a1] [aI x] σ = some ((some (aI x)), σ) := ev_ret f_Ub_restore_13 rfl
theorem f_Ub_restore_14 : fetch 111 14 = some (.aload_n 0) := by decide +kernel
theorem e_Ub_restore_14 (a1 : AV) (σ : aM) (l0 : Option (Nat × Int)) (r : List AV)  : ev 111 14 [aQ l0, a1] (r) σ = ev 111 15 [aQ l0, a1] (aQ l0 :: r) σ := ev_go f_Ub_restore_14 rfl
theorem f_Ub_restore_15 : fetch 111 15 = some (.getfield 30) := by decide +kernel
theorem e_Ub_restore_15 (a0 a1 : AV) (σ : aM) (i : Int) (r : List AV)  : ev 111 15 [a0, a1] (aR 0 i :: r) σ = ev 111 18 [a0, a1] (aR 6 0 :: r) σ := ev_go f_Ub_restore_15 rfl
theorem f_Ub_restore_18 : fetch 111 18 = some (.aload_n 0) := by decide +kernel
theorem e_Ub_restore_18 (a1 : AV) (σ : aM) (l0 : Option (Nat × Int)) (r : List AV)  : ev 111 18 [aQ l0, a1] (r) σ = ev 111 19 [aQ l0, a1] (aQ l0 :: r) σ := ev_go f_Ub_restore_18 rfl
theorem f_Ub_restore_19 : fetch 111 19 = some (.getfield 55) := by decide +kernel
theorem e_Ub_restore_19 (a0 a1 : AV) (σ : aM) (i : Int) (r : List AV)  : ev 111 19 [a0, a1] (aR 0 i :: r) σ = ev 111 22 [a0, a1] (aR 6 1 :: r) σ := ev_go f_Ub_restore_19 rfl
theorem f_Ub_restore_22 : fetch 111 22 = some (.invokevirtual 293) := by decide +kernel
theorem e_Ub_restore_22 (a0 a1 : AV) (σ : aM) (s0 : Int) (s1 : Option (Nat × Int)) : ev 111 22 [a0, a1] [aQ s1, aR 6 s0] σ = evK 111 25 [a0, a1] [] (ev 4 0 [aR 6 s0, aQ s1, aU] [] σ) := ev_call f_Ub_restore_22 rfl rfl
theorem f_Ub_restore_25 : fetch 111 25 = some (.iconst 0) := by decide +kernel
theorem e_Ub_restore_25 (a0 a1 : AV) (σ : aM) (r : List AV)  : ev 111 25 [a0, a1] (r) σ = ev 111 26 [a0, a1] (aI 0 :: r) σ := ev_go f_Ub_restore_25 rfl
theorem f_Ub_restore_26 : fetch 111 26 = some (.istore_n 1) := by decide +kernel
theorem e_Ub_restore_26 (a1 : AV) (σ : aM) (x : Int) (l0 : Option (Nat × Int)) (r : List AV)  : ev 111 26 [aQ l0, a1] (aI x :: r) σ = ev 111 27 [aQ l0, aI x] (r) σ := ev_go f_Ub_restore_26 rfl
theorem f_Ub_restore_27 : fetch 111 27 = some (.iload_n 1) := by decide +kernel
theorem e_Ub_restore_27 (a0 : AV) (σ : aM) (l1 : Int) (r : List AV)  : ev 111 27 [a0, aI l1] (r) σ = ev 111 28 [a0, aI l1] (aI l1 :: r) σ := ev_go f_Ub_restore_27 rfl
theorem f_Ub_restore_28 : fetch 111 28 = some (.bipush 8) := by decide +kernel
theorem e_Ub_restore_28 (a0 a1 : AV) (σ : aM) (r : List AV)  : ev 111 28 [a0, a1] (r) σ = ev 111 30 [a0, a1] (aI 8 :: r) σ := ev_go f_Ub_restore_28 rfl
theorem f_Ub_restore_30 : fetch 111 30 = some (.if_icmp .ge 37) := by decide +kernel
theorem e_Ub_restore_30 (a0 a1 : AV) (σ : aM) (x z : Int) (r : List AV) : ev 111 30 [a0, a1] (aI z :: aI x :: r) σ = if z ≤ x then ev 111 67 [a0, a1] r σ else ev 111 33 [a0, a1] r σ := ev_br f_Ub_restore_30 rfl bc_ge
theorem f_Ub_restore_33 : fetch 111 33 = some (.aload_n 0) := by decide +kernel
theorem e_Ub_restore_33 (a1 : AV) (σ : aM) (l0 : Option (Nat × Int)) (r : List AV)  : ev 111 33 [aQ l0, a1] (r) σ = ev 111 34 [aQ l0, a1] (aQ l0 :: r) σ := ev_go f_Ub_restore_33 rfl
theorem f_Ub_restore_34 : fetch 111 34 = some (.getfield 11) := by decide +kernel
theorem e_Ub_restore_34 (a0 a1 : AV) (σ : aM) (i : Int) (r : List AV)  : ev 111 34 [a0, a1] (aR 0 i :: r) σ = ev 111 37 [a0, a1] (aR 1 0 :: r) σ := ev_go f_Ub_restore_34 rfl
theorem f_Ub_restore_37 : fetch 111 37 = some (.iload_n 1) := by decide +kernel
theorem e_Ub_restore_37 (a0 : AV) (σ : aM) (l1 : Int) (r : List AV)  : ev 111 37 [a0, aI l1] (r) σ = ev 111 38 [a0, aI l1] (aI l1 :: r) σ := ev_go f_Ub_restore_37 rfl
theorem f_Ub_restore_38 : fetch 111 38 = some (.aaload) := by decide +kernel
theorem e_Ub_restore_38 (a0 a1 : AV) (σ : aM) (x : Int) (i : Int) (r : List AV) (h : 0 ≤ x ∧ x < 8) : ev 111 38 [a0, a1] (aI x :: aR 1 i :: r) σ = ev 111 39 [a0, a1] (aR 2 x :: r) σ := ev_cd f_Ub_restore_38 rfl ⟨by decide, by decide, h.1, by rw [aLen_n (by decide) rfl]; exact h.2⟩
theorem f_Ub_restore_39 : fetch 111 39 = some (.getfield 124) := by decide +kernel
theorem e_Ub_restore_39 (a0 a1 : AV) (σ : aM) (i : Int) (r : List AV)  : ev 111 39 [a0, a1] (aR 2 i :: r) σ = ev 111 42 [a0, a1] (aI (gI σ 2 i 3) :: r) σ := ev_go f_Ub_restore_39 rfl
theorem f_Ub_restore_42 : fetch 111 42 = some (.aload_n 0) := by decide +kernel
theorem e_Ub_restore_42 (a1 : AV) (σ : aM) (l0 : Option (Nat × Int)) (r : List AV)  : ev 111 42 [aQ l0, a1] (r) σ = ev 111 43 [aQ l0, a1] (aQ l0 :: r) σ := ev_go f_Ub_restore_42 rfl
theorem f_Ub_restore_43 : fetch 111 43 = some (.getfield 30) := by decide +kernel
theorem e_Ub_restore_43 (a0 a1 : AV) (σ : aM) (i : Int) (r : List AV)  : ev 111 43 [a0, a1] (aR 0 i :: r) σ = ev 111 46 [a0, a1] (aR 6 0 :: r) σ := ev_go f_Ub_restore_43 rfl
theorem f_Ub_restore_46 : fetch 111 46 = some (.getfield 174) := by decide +kernel
theorem e_Ub_restore_46 (a0 a1 : AV) (σ : aM) (i : Int) (r : List AV)  : ev 111 46 [a0, a1] (aR 6 i :: r) σ = ev 111 49 [a0, a1] (aI (gI σ 6 i 2) :: r) σ := ev_go f_Ub_restore_46 rfl
theorem f_Ub_restore_49 : fetch 111 49 = some (.if_icmp .lt 12) := by decide +kernel
theorem e_Ub_restore_49 (a0 a1 : AV) (σ : aM) (x z : Int) (r : List AV) : ev 111 49 [a0, a1] (aI z :: aI x :: r) σ = if x < z then ev 111 61 [a0, a1] r σ else ev 111 52 [a0, a1] r σ := ev_br f_Ub_restore_49 rfl bc_lt
theorem f_Ub_restore_52 : fetch 111 52 = some (.aload_n 0) := by decide +kernel
theorem e_Ub_restore_52 (a1 : AV) (σ : aM) (l0 : Option (Nat × Int)) (r : List AV)  : ev 111 52 [aQ l0, a1] (r) σ = ev 111 53 [aQ l0, a1] (aQ l0 :: r) σ := ev_go f_Ub_restore_52 rfl
theorem f_Ub_restore_53 : fetch 111 53 = some (.getfield 11) := by decide +kernel
theorem e_Ub_restore_53 (a0 a1 : AV) (σ : aM) (i : Int) (r : List AV)  : ev 111 53 [a0, a1] (aR 0 i :: r) σ = ev 111 56 [a0, a1] (aR 1 0 :: r) σ := ev_go f_Ub_restore_53 rfl
theorem f_Ub_restore_56 : fetch 111 56 = some (.iload_n 1) := by decide +kernel
theorem e_Ub_restore_56 (a0 : AV) (σ : aM) (l1 : Int) (r : List AV)  : ev 111 56 [a0, aI l1] (r) σ = ev 111 57 [a0, aI l1] (aI l1 :: r) σ := ev_go f_Ub_restore_56 rfl
theorem f_Ub_restore_57 : fetch 111 57 = some (.aaload) := by decide +kernel
theorem e_Ub_restore_57 (a0 a1 : AV) (σ : aM) (x : Int) (i : Int) (r : List AV) (h : 0 ≤ x ∧ x < 8) : ev 111 57 [a0, a1] (aI x :: aR 1 i :: r) σ = ev 111 58 [a0, a1] (aR 2 x :: r) σ := ev_cd f_Ub_restore_57 rfl ⟨by decide, by decide, h.1, by rw [aLen_n (by decide) rfl]; exact h.2⟩
theorem f_Ub_restore_58 : fetch 111 58 = some (.invokevirtual 113) := by decide +kernel
theorem e_Ub_restore_58 (a0 a1 : AV) (σ : aM) (s0 : Int) : ev 111 58 [a0, a1] [aR 2 s0] σ = evK 111 61 [a0, a1] [] (ev 54 0 [aR 2 s0] [] σ) := ev_call f_Ub_restore_58 rfl rfl
theorem f_Ub_restore_61 : fetch 111 61 = some (.iinc 1 1) := by decide +kernel
theorem e_Ub_restore_61 (σ : aM) (l1 : Int) (l0 : Option (Nat × Int)) (r : List AV)  : ev 111 61 [aQ l0, aI l1] (r) σ = ev 111 64 [aQ l0, aI (wr (l1 + 1))] (r) σ := ev_go f_Ub_restore_61 rfl
theorem f_Ub_restore_64 : fetch 111 64 = some (.goto (-37)) := by decide +kernel
theorem e_Ub_restore_64 (a0 a1 : AV) (σ : aM) (r : List AV)  : ev 111 64 [a0, a1] (r) σ = ev 111 27 [a0, a1] (r) σ := ev_go f_Ub_restore_64 rfl
theorem f_Ub_restore_67 : fetch 111 67 = some (.aload_n 0) := by decide +kernel
theorem e_Ub_restore_67 (a1 : AV) (σ : aM) (l0 : Option (Nat × Int)) (r : List AV)  : ev 111 67 [aQ l0, a1] (r) σ = ev 111 68 [aQ l0, a1] (aQ l0 :: r) σ := ev_go f_Ub_restore_67 rfl
theorem f_Ub_restore_68 : fetch 111 68 = some (.getfield 30) := by decide +kernel
theorem e_Ub_restore_68 (a0 a1 : AV) (σ : aM) (i : Int) (r : List AV)  : ev 111 68 [a0, a1] (aR 0 i :: r) σ = ev 111 71 [a0, a1] (aR 6 0 :: r) σ := ev_go f_Ub_restore_68 rfl
theorem f_Ub_restore_71 : fetch 111 71 = some (.getfield 174) := by decide +kernel
theorem e_Ub_restore_71 (a0 a1 : AV) (σ : aM) (i : Int) (r : List AV)  : ev 111 71 [a0, a1] (aR 6 i :: r) σ = ev 111 74 [a0, a1] (aI (gI σ 6 i 2) :: r) σ := ev_go f_Ub_restore_71 rfl
theorem f_Ub_restore_74 : fetch 111 74 = some (.ireturn) := by decide +kernel
theorem e_Ub_restore_74 (a0 a1 : AV) (σ : aM) (x : Int) : ev 111 74 [a0, a1] [aI x] σ = some ((some (aI x)), σ) := ev_ret f_Ub_restore_74 rfl
theorem f_Ub_status_0 : fetch 112 0 = some (.iload_n 1) := by decide +kernel
theorem e_Ub_status_0 (a0 : AV) (σ : aM) (l1 : Int) (r : List AV)  : ev 112 0 [a0, aI l1] (r) σ = ev 112 1 [a0, aI l1] (aI l1 :: r) σ := ev_go f_Ub_status_0 rfl
theorem f_Ub_status_1 : fetch 112 1 = some (.bipush 10) := by decide +kernel
theorem e_Ub_status_1 (a0 a1 : AV) (σ : aM) (r : List AV)  : ev 112 1 [a0, a1] (r) σ = ev 112 3 [a0, a1] (aI 10 :: r) σ := ev_go f_Ub_status_1 rfl
theorem f_Ub_status_3 : fetch 112 3 = some (.if_icmp .le 19) := by decide +kernel
theorem e_Ub_status_3 (a0 a1 : AV) (σ : aM) (x z : Int) (r : List AV) : ev 112 3 [a0, a1] (aI z :: aI x :: r) σ = if x ≤ z then ev 112 22 [a0, a1] r σ else ev 112 6 [a0, a1] r σ := ev_br f_Ub_status_3 rfl bc_le
theorem f_Ub_status_6 : fetch 112 6 = some (.iload_n 1) := by decide +kernel
theorem e_Ub_status_6 (a0 : AV) (σ : aM) (l1 : Int) (r : List AV)  : ev 112 6 [a0, aI l1] (r) σ = ev 112 7 [a0, aI l1] (aI l1 :: r) σ := ev_go f_Ub_status_6 rfl
theorem f_Ub_status_7 : fetch 112 7 = some (.bipush 17) := by decide +kernel
theorem e_Ub_status_7 (a0 a1 : AV) (σ : aM) (r : List AV)  : ev 112 7 [a0, a1] (r) σ = ev 112 9 [a0, a1] (aI 17 :: r) σ := ev_go f_Ub_status_7 rfl
theorem f_Ub_status_9 : fetch 112 9 = some (.if_icmp .gt 13) := by decide +kernel
theorem e_Ub_status_9 (a0 a1 : AV) (σ : aM) (x z : Int) (r : List AV) : ev 112 9 [a0, a1] (aI z :: aI x :: r) σ = if z < x then ev 112 22 [a0, a1] r σ else ev 112 12 [a0, a1] r σ := ev_br f_Ub_status_9 rfl bc_gt
theorem f_Ub_status_12 : fetch 112 12 = some (.aload_n 0) := by decide +kernel
theorem e_Ub_status_12 (a1 : AV) (σ : aM) (l0 : Option (Nat × Int)) (r : List AV)  : ev 112 12 [aQ l0, a1] (r) σ = ev 112 13 [aQ l0, a1] (aQ l0 :: r) σ := ev_go f_Ub_status_12 rfl
theorem f_Ub_status_13 : fetch 112 13 = some (.getfield 15) := by decide +kernel
theorem e_Ub_status_13 (a0 a1 : AV) (σ : aM) (i : Int) (r : List AV)  : ev 112 13 [a0, a1] (aR 0 i :: r) σ = ev 112 16 [a0, a1] (aR 4 0 :: r) σ := ev_go f_Ub_status_13 rfl
theorem f_Ub_status_16 : fetch 112 16 = some (.iload_n 1) := by decide +kernel
theorem e_Ub_status_16 (a0 : AV) (σ : aM) (l1 : Int) (r : List AV)  : ev 112 16 [a0, aI l1] (r) σ = ev 112 17 [a0, aI l1] (aI l1 :: r) σ := ev_go f_Ub_status_16 rfl
theorem f_Ub_status_17 : fetch 112 17 = some (.bipush 10) := by decide +kernel
theorem e_Ub_status_17 (a0 a1 : AV) (σ : aM) (r : List AV)  : ev 112 17 [a0, a1] (r) σ = ev 112 19 [a0, a1] (aI 10 :: r) σ := ev_go f_Ub_status_17 rfl
theorem f_Ub_status_19 : fetch 112 19 = some (.isub) := by decide +kernel
theorem e_Ub_status_19 (a0 a1 : AV) (σ : aM) (x z : Int) (r : List AV)  : ev 112 19 [a0, a1] (aI z :: aI x :: r) σ = ev 112 20 [a0, a1] (aI (wr (x - z)) :: r) σ := ev_go f_Ub_status_19 rfl
theorem f_Ub_status_20 : fetch 112 20 = some (.iaload) := by decide +kernel
theorem e_Ub_status_20 (a0 a1 : AV) (σ : aM) (x : Int) (i : Int) (r : List AV) (h : 0 ≤ x ∧ x < 8) : ev 112 20 [a0, a1] (aI x :: aR 4 i :: r) σ = ev 112 21 [a0, a1] (aI (gI σ 4 i x) :: r) σ := ev_ld (j := i) f_Ub_status_20 rfl rfl (by decide) rfl h
theorem f_Ub_status_21 : fetch 112 21 = some (.ireturn) := by decide +kernel
theorem e_Ub_status_21 (a0 a1 : AV) (σ : aM) (x : Int) : ev 112 21 [a0, a1] [aI x] σ = some ((some (aI x)), σ) := ev_ret f_Ub_status_21 rfl
theorem f_Ub_status_22 : fetch 112 22 = some (.iload_n 1) := by decide +kernel
theorem e_Ub_status_22 (a0 : AV) (σ : aM) (l1 : Int) (r : List AV)  : ev 112 22 [a0, aI l1] (r) σ = ev 112 23 [a0, aI l1] (aI l1 :: r) σ := ev_go f_Ub_status_22 rfl
theorem f_Ub_status_23 : fetch 112 23 = some (.tableswitch 102 0 6 #[41, 49, 58, 67, 75, 83, 94]) := by decide +kernel
theorem e_Ub_status_23 (a0 a1 : AV) (σ : aM) (r : List AV) (x : Int) (h : x < 0 ∨ 6 < x) : ev 112 23 [a0, a1] (aI x :: r) σ = ev 112 125 [a0, a1] r σ := ev_sw (dflt := 102) (lo := 0) (hi := 6) (offs := #[41, 49, 58, 67, 75, 83, 94]) f_Ub_status_23 rfl h rfl
theorem e_Ub_status_23_0 (a0 a1 : AV) (σ : aM) (r : List AV) : ev 112 23 [a0, a1] (aI 0 :: r) σ = ev 112 64 [a0, a1] r σ := ev_go f_Ub_status_23 rfl
theorem e_Ub_status_23_1 (a0 a1 : AV) (σ : aM) (r : List AV) : ev 112 23 [a0, a1] (aI 1 :: r) σ = ev 112 72 [a0, a1] r σ := ev_go f_Ub_status_23 rfl
theorem e_Ub_status_23_2 (a0 a1 : AV) (σ : aM) (r : List AV) : ev 112 23 [a0, a1] (aI 2 :: r) σ = ev 112 81 [a0, a1] r σ := ev_go f_Ub_status_23 rfl
theorem e_Ub_status_23_3 (a0 a1 : AV) (σ : aM) (r : List AV) : ev 112 23 [a0, a1] (aI 3 :: r) σ = ev 112 90 [a0, a1] r σ := ev_go f_Ub_status_23 rfl
theorem e_Ub_status_23_4 (a0 a1 : AV) (σ : aM) (r : List AV) : ev 112 23 [a0, a1] (aI 4 :: r) σ = ev 112 98 [a0, a1] r σ := ev_go f_Ub_status_23 rfl
theorem e_Ub_status_23_5 (a0 a1 : AV) (σ : aM) (r : List AV) : ev 112 23 [a0, a1] (aI 5 :: r) σ = ev 112 106 [a0, a1] r σ := ev_go f_Ub_status_23 rfl
theorem e_Ub_status_23_6 (a0 a1 : AV) (σ : aM) (r : List AV) : ev 112 23 [a0, a1] (aI 6 :: r) σ = ev 112 117 [a0, a1] r σ := ev_go f_Ub_status_23 rfl
theorem f_Ub_status_64 : fetch 112 64 = some (.aload_n 0) := by decide +kernel
theorem e_Ub_status_64 (a1 : AV) (σ : aM) (l0 : Option (Nat × Int)) (r : List AV)  : ev 112 64 [aQ l0, a1] (r) σ = ev 112 65 [aQ l0, a1] (aQ l0 :: r) σ := ev_go f_Ub_status_64 rfl
theorem f_Ub_status_65 : fetch 112 65 = some (.getfield 30) := by decide +kernel
theorem e_Ub_status_65 (a0 a1 : AV) (σ : aM) (i : Int) (r : List AV)  : ev 112 65 [a0, a1] (aR 0 i :: r) σ = ev 112 68 [a0, a1] (aR 6 0 :: r) σ := ev_go f_Ub_status_65 rfl
theorem f_Ub_status_68 : fetch 112 68 = some (.getfield 174) := by decide +kernel
theorem e_Ub_status_68 (a0 a1 : AV) (σ : aM) (i : Int) (r : List AV)  : ev 112 68 [a0, a1] (aR 6 i :: r) σ = ev 112 71 [a0, a1] (aI (gI σ 6 i 2) :: r) σ := ev_go f_Ub_status_68 rfl
theorem f_Ub_status_71 : fetch 112 71 = some (.ireturn) := by decide +kernel
theorem e_Ub_status_71 (a0 a1 : AV) (σ : aM) (x : Int) : ev 112 71 [a0, a1] [aI x] σ = some ((some (aI x)), σ) := ev_ret f_Ub_status_71 rfl
theorem f_Ub_status_72 : fetch 112 72 = some (.aload_n 0) := by decide +kernel
theorem e_Ub_status_72 (a1 : AV) (σ : aM) (l0 : Option (Nat × Int)) (r : List AV)  : ev 112 72 [aQ l0, a1] (r) σ = ev 112 73 [aQ l0, a1] (aQ l0 :: r) σ := ev_go f_Ub_status_72 rfl
theorem f_Ub_status_73 : fetch 112 73 = some (.getfield 30) := by decide +kernel
theorem e_Ub_status_73 (a0 a1 : AV) (σ : aM) (i : Int) (r : List AV)  : ev 112 73 [a0, a1] (aR 0 i :: r) σ = ev 112 76 [a0, a1] (aR 6 0 :: r) σ := ev_go f_Ub_status_73 rfl
theorem f_Ub_status_76 : fetch 112 76 = some (.iconst 1) := by decide +kernel
theorem e_Ub_status_76 (a0 a1 : AV) (σ : aM) (r : List AV)  : ev 112 76 [a0, a1] (r) σ = ev 112 77 [a0, a1] (aI 1 :: r) σ := ev_go f_Ub_status_76 rfl
theorem f_Ub_status_77 : fetch 112 77 = some (.invokevirtual 219) := by decide +kernel
theorem e_Ub_status_77 (a0 a1 : AV) (σ : aM) (s0 : Int) (s1 : Int) : ev 112 77 [a0, a1] [aI s1, aR 6 s0] σ = evK 112 80 [a0, a1] [] (ev 11 0 [aR 6 s0, aI s1, aU, aU] [] σ) := ev_call f_Ub_status_77 rfl rfl
theorem f_Ub_status_80 : fetch 112 80 = some (.ireturn) := by decide +kernel
theorem e_Ub_status_80 (a0 a1 : AV) (σ : aM) (x : Int) : ev 112 80 [a0, a1] [aI x] σ = some ((some (aI x)), σ) := ev_ret f_Ub_status_80 rfl
theorem f_Ub_status_81 : fetch 112 81 = some (.aload_n 0) := by decide +kernel
theorem e_Ub_status_81 (a1 : AV) (σ : aM) (l0 : Option (Nat × Int)) (r : List AV)  : ev 112 81 [aQ l0, a1] (r) σ = ev 112 82 [aQ l0, a1] (aQ l0 :: r) σ := ev_go f_Ub_status_81 rfl
theorem f_Ub_status_82 : fetch 112 82 = some (.getfield 30) := by decide +kernel
theorem e_Ub_status_82 (a0 a1 : AV) (σ : aM) (i : Int) (r : List AV)  : ev 112 82 [a0, a1] (aR 0 i :: r) σ = ev 112 85 [a0, a1] (aR 6 0 :: r) σ := ev_go f_Ub_status_82 rfl
theorem f_Ub_status_85 : fetch 112 85 = some (.iconst 0) := by decide +kernel
theorem e_Ub_status_85 (a0 a1 : AV) (σ : aM) (r : List AV)  : ev 112 85 [a0, a1] (r) σ = ev 112 86 [a0, a1] (aI 0 :: r) σ := ev_go f_Ub_status_85 rfl
theorem f_Ub_status_86 : fetch 112 86 = some (.invokevirtual 219) := by decide +kernel
theorem e_Ub_status_86 (a0 a1 : AV) (σ : aM) (s0 : Int) (s1 : Int) : ev 112 86 [a0, a1] [aI s1, aR 6 s0] σ = evK 112 89 [a0, a1] [] (ev 11 0 [aR 6 s0, aI s1, aU, aU] [] σ) := ev_call f_Ub_status_86 rfl rfl
theorem f_Ub_status_89 : fetch 112 89 = some (.ireturn) := by decide +kernel
theorem e_Ub_status_89 (a0 a1 : AV) (σ : aM) (x : Int) : ev 112 89 [a0, a1] [aI x] σ = some ((some (aI x)), σ) := ev_ret f_Ub_status_89 rfl
theorem f_Ub_status_90 : fetch 112 90 = some (.aload_n 0) := by decide +kernel
theorem e_Ub_status_90 (a1 : AV) (σ : aM) (l0 : Option (Nat × Int)) (r : List AV)  : ev 112 90 [aQ l0, a1] (r) σ = ev 112 91 [aQ l0, a1] (aQ l0 :: r) σ := ev_go f_Ub_status_90 rfl
theorem f_Ub_status_91 : fetch 112 91 = some (.getfield 30) := by decide +kernel
theorem e_Ub_status_91 (a0 a1 : AV) (σ : aM) (i : Int) (r : List AV)  : ev 112 91 [a0, a1] (aR 0 i :: r) σ = ev 112 94 [a0, a1] (aR 6 0 :: r) σ := ev_go f_Ub_status_91 rfl
theorem f_Ub_status_94 : fetch 112 94 = some (.getfield 160) := by decide +kernel
theorem e_Ub_status_94 (a0 a1 : AV) (σ : aM) (i : Int) (r : List AV)  : ev 112 94 [a0, a1] (aR 6 i :: r) σ = ev 112 97 [a0, a1] (aI (gI σ 6 i 3) :: r) σ := ev_go f_Ub_status_94 rfl
theorem f_Ub_status_97 : fetch 112 97 = some (.ireturn) := by decide +kernel
theorem e_Ub_status_97 (a0 a1 : AV) (σ : aM) (x : Int) : ev 112 97 [a0, a1] [aI x] σ = some ((some (aI x)), σ) := ev_ret f_Ub_status_97 rfl
theorem f_Ub_status_98 : fetch 112 98 = some (.aload_n 0) := by decide +kernel
theorem e_Ub_status_98 (a1 : AV) (σ : aM) (l0 : Option (Nat × Int)) (r : List AV)  : ev 112 98 [aQ l0, a1] (r) σ = ev 112 99 [aQ l0, a1] (aQ l0 :: r) σ := ev_go f_Ub_status_98 rfl
theorem f_Ub_status_99 : fetch 112 99 = some (.getfield 30) := by decide +kernel
theorem e_Ub_status_99 (a0 a1 : AV) (σ : aM) (i : Int) (r : List AV)  : ev 112 99 [a0, a1] (aR 0 i :: r) σ = ev 112 102 [a0, a1] (aR 6 0 :: r) σ := ev_go f_Ub_status_99 rfl
theorem f_Ub_status_102 : fetch 112 102 = some (.getfield 203) := by decide +kernel
theorem e_Ub_status_102 (a0 a1 : AV) (σ : aM) (i : Int) (r : List AV)  : ev 112 102 [a0, a1] (aR 6 i :: r) σ = ev 112 105 [a0, a1] (aI (gI σ 6 i 4) :: r) σ := ev_go f_Ub_status_102 rfl
theorem f_Ub_status_105 : fetch 112 105 = some (.ireturn) := by decide +kernel
theorem e_Ub_status_105 (a0 a1 : AV) (σ : aM) (x : Int) : ev 112 105 [a0, a1] [aI x] σ = some ((some (aI x)), σ) := ev_ret f_Ub_status_105 rfl
theorem f_Ub_status_106 : fetch 112 106 = some (.aload_n 0) := by decide +kernel
theorem e_Ub_status_106 (a1 : AV) (σ : aM) (l0 : Option (Nat × Int)) (r : List AV)  : ev 112 106 [aQ l0, a1] (r) σ = ev 112 107 [aQ l0, a1] (aQ l0 :: r) σ := ev_go f_Ub_status_106 rfl
theorem f_Ub_status_107 : fetch 112 107 = some (.getfield 30) := by decide +kernel
theorem e_Ub_status_107 (a0 a1 : AV) (σ : aM) (i : Int) (r : List AV)  : ev 112 107 [a0, a1] (aR 0 i :: r) σ = ev 112 110 [a0, a1] (aR 6 0 :: r) σ := ev_go f_Ub_status_107 rfl
theorem f_Ub_status_110 : fetch 112 110 = some (.getfield 258) := by decide +kernel
theorem e_Ub_status_110 (a0 a1 : AV) (σ : aM) (i : Int) (r : List AV)  : ev 112 110 [a0, a1] (aR 6 i :: r) σ = ev 112 113 [a0, a1] (aR 9 i :: r) σ := ev_go f_Ub_status_110 rfl
theorem f_Ub_status_113 : fetch 112 113 = some (.getfield 296) := by decide +kernel
theorem e_Ub_status_113 (a0 a1 : AV) (σ : aM) (i : Int) (r : List AV)  : ev 112 113 [a0, a1] (aR 9 i :: r) σ = ev 112 116 [a0, a1] (aI (gI σ 9 i 4) :: r) σ := ev_go f_Ub_status_113 rfl
theorem f_Ub_status_116 : fetch 112 116 = some (.ireturn) := by decide +kernel
theorem e_Ub_status_116 (a0 a1 : AV) (σ : aM) (x : Int) : ev 112 116 [a0, a1] [aI x] σ = some ((some (aI x)), σ) := ev_ret f_Ub_status_116 rfl
theorem f_Ub_status_117 : fetch 112 117 = some (.aload_n 0) := by decide +kernel
theorem e_Ub_status_117 (a1 : AV) (σ : aM) (l0 : Option (Nat × Int)) (r : List AV)  : ev 112 117 [aQ l0, a1] (r) σ = ev 112 118 [aQ l0, a1] (aQ l0 :: r) σ := ev_go f_Ub_status_117 rfl
theorem f_Ub_status_118 : fetch 112 118 = some (.getfield 30) := by decide +kernel
theorem e_Ub_status_118 (a0 a1 : AV) (σ : aM) (i : Int) (r : List AV)  : ev 112 118 [a0, a1] (aR 0 i :: r) σ = ev 112 121 [a0, a1] (aR 6 0 :: r) σ := ev_go f_Ub_status_118 rfl
theorem f_Ub_status_121 : fetch 112 121 = some (.getfield 290) := by decide +kernel
theorem e_Ub_status_121 (a0 a1 : AV) (σ : aM) (i : Int) (r : List AV)  : ev 112 121 [a0, a1] (aR 6 i :: r) σ = ev 112 124 [a0, a1] (aI (gI σ 6 i 5) :: r) σ := ev_go f_Ub_status_121 rfl
theorem f_Ub_status_124 : fetch 112 124 = some (.ireturn) := by decide +kernel
theorem e_Ub_status_124 (a0 a1 : AV) (σ : aM) (x : Int) : ev 112 124 [a0, a1] [aI x] σ = some ((some (aI x)), σ) := ev_ret f_Ub_status_124 rfl
theorem f_Ub_status_125 : fetch 112 125 = some (.iconst (-1)) := by decide +kernel
theorem e_Ub_status_125 (a0 a1 : AV) (σ : aM) (r : List AV)  : ev 112 125 [a0, a1] (r) σ = ev 112 126 [a0, a1] (aI (-1) :: r) σ := ev_go f_Ub_status_125 rfl
theorem f_Ub_status_126 : fetch 112 126 = some (.ireturn) := by decide +kernel
theorem e_Ub_status_126 (a0 a1 : AV) (σ : aM) (x : Int) : ev 112 126 [a0, a1] [aI x] σ = some ((some (aI x)), σ) := ev_ret f_Ub_status_126 rfl
theorem f_Ub_refuse_0 : fetch 113 0 = some (.iload_n 1) := by decide +kernel
theorem e_Ub_refuse_0 (a0 : AV) (σ : aM) (l1 : Int) (r : List AV)  : ev 113 0 [a0, aI l1] (r) σ = ev 113 1 [a0, aI l1] (aI l1 :: r) σ := ev_go f_Ub_refuse_0 rfl
theorem f_Ub_refuse_1 : fetch 113 1 = some (.ifCond .ge 20) := by decide +kernel
theorem e_Ub_refuse_1 (a0 a1 : AV) (σ : aM) (x : Int) (r : List AV) : ev 113 1 [a0, a1] (aI x :: r) σ = if 0 ≤ x then ev 113 21 [a0, a1] r σ else ev 113 4 [a0, a1] r σ := ev_br f_Ub_refuse_1 rfl bc_ge
theorem f_Ub_refuse_4 : fetch 113 4 = some (.iload_n 1) := by decide +kernel
theorem e_Ub_refuse_4 (a0 : AV) (σ : aM) (l1 : Int) (r : List AV)  : ev 113 4 [a0, aI l1] (r) σ = ev 113 5 [a0, aI l1] (aI l1 :: r) σ := ev_go f_Ub_refuse_4 rfl
theorem f_Ub_refuse_5 : fetch 113 5 = some (.bipush (-7)) := by decide +kernel
theorem e_Ub_refuse_5 (a0 a1 : AV) (σ : aM) (r : List AV)  : ev 113 5 [a0, a1] (r) σ = ev 113 7 [a0, a1] (aI (-7) :: r) σ := ev_go f_Ub_refuse_5 rfl
theorem f_Ub_refuse_7 : fetch 113 7 = some (.if_icmp .lt 14) := by decide +kernel
theorem e_Ub_refuse_7 (a0 a1 : AV) (σ : aM) (x z : Int) (r : List AV) : ev 113 7 [a0, a1] (aI z :: aI x :: r) σ = if x < z then ev 113 21 [a0, a1] r σ else ev 113 10 [a0, a1] r σ := ev_br f_Ub_refuse_7 rfl bc_lt
theorem f_Ub_refuse_10 : fetch 113 10 = some (.aload_n 0) := by decide +kernel
theorem e_Ub_refuse_10 (a1 : AV) (σ : aM) (l0 : Option (Nat × Int)) (r : List AV)  : ev 113 10 [aQ l0, a1] (r) σ = ev 113 11 [aQ l0, a1] (aQ l0 :: r) σ := ev_go f_Ub_refuse_10 rfl
theorem f_Ub_refuse_11 : fetch 113 11 = some (.getfield 15) := by decide +kernel
theorem e_Ub_refuse_11 (a0 a1 : AV) (σ : aM) (i : Int) (r : List AV)  : ev 113 11 [a0, a1] (aR 0 i :: r) σ = ev 113 14 [a0, a1] (aR 4 0 :: r) σ := ev_go f_Ub_refuse_11 rfl
theorem f_Ub_refuse_14 : fetch 113 14 = some (.iload_n 1) := by decide +kernel
theorem e_Ub_refuse_14 (a0 : AV) (σ : aM) (l1 : Int) (r : List AV)  : ev 113 14 [a0, aI l1] (r) σ = ev 113 15 [a0, aI l1] (aI l1 :: r) σ := ev_go f_Ub_refuse_14 rfl
theorem f_Ub_refuse_15 : fetch 113 15 = some (.ineg) := by decide +kernel
theorem e_Ub_refuse_15 (a0 a1 : AV) (σ : aM) (x : Int) (r : List AV)  : ev 113 15 [a0, a1] (aI x :: r) σ = ev 113 16 [a0, a1] (aI (wr (-x)) :: r) σ := ev_go f_Ub_refuse_15 rfl
theorem f_Ub_refuse_16 : fetch 113 16 = some (.dup2) := by decide +kernel
theorem e_Ub_refuse_16 (a0 a1 : AV) (σ : aM) (x : Int) (z : Option (Nat × Int)) (r : List AV)  : ev 113 16 [a0, a1] (aI x :: aQ z :: r) σ = ev 113 17 [a0, a1] (aI x :: aQ z :: aI x :: aQ z :: r) σ := ev_go f_Ub_refuse_16 rfl
theorem f_Ub_refuse_17 : fetch 113 17 = some (.iaload) := by decide +kernel
theorem e_Ub_refuse_17 (a0 a1 : AV) (σ : aM) (x : Int) (i : Int) (r : List AV) (h : 0 ≤ x ∧ x < 8) : ev 113 17 [a0, a1] (aI x :: aR 4 i :: r) σ = ev 113 18 [a0, a1] (aI (gI σ 4 i x) :: r) σ := ev_ld (j := i) f_Ub_refuse_17 rfl rfl (by decide) rfl h
theorem f_Ub_refuse_18 : fetch 113 18 = some (.iconst 1) := by decide +kernel
theorem e_Ub_refuse_18 (a0 a1 : AV) (σ : aM) (r : List AV)  : ev 113 18 [a0, a1] (r) σ = ev 113 19 [a0, a1] (aI 1 :: r) σ := ev_go f_Ub_refuse_18 rfl
theorem f_Ub_refuse_19 : fetch 113 19 = some (.iadd) := by decide +kernel
theorem e_Ub_refuse_19 (a0 a1 : AV) (σ : aM) (x z : Int) (r : List AV)  : ev 113 19 [a0, a1] (aI z :: aI x :: r) σ = ev 113 20 [a0, a1] (aI (wr (x + z)) :: r) σ := ev_go f_Ub_refuse_19 rfl
theorem f_Ub_refuse_20 : fetch 113 20 = some (.iastore) := by decide +kernel
theorem e_Ub_refuse_20 (a0 a1 : AV) (σ : aM) (x : Int) (i : Int) (v : Int) (r : List AV) (h : 0 ≤ x ∧ x < 8) : ev 113 20 [a0, a1] (aI v :: aI x :: aR 4 i :: r) σ = ev 113 21 [a0, a1] (r) (uI σ 4 i x v) := ev_st f_Ub_refuse_20 rfl rfl (by decide) (by decide) rfl h
theorem f_Ub_refuse_21 : fetch 113 21 = some (.iload_n 1) := by decide +kernel
theorem e_Ub_refuse_21 (a0 : AV) (σ : aM) (l1 : Int) (r : List AV)  : ev 113 21 [a0, aI l1] (r) σ = ev 113 22 [a0, aI l1] (aI l1 :: r) σ := ev_go f_Ub_refuse_21 rfl
theorem f_Ub_refuse_22 : fetch 113 22 = some (.ireturn) := by decide +kernel
theorem e_Ub_refuse_22 (a0 a1 : AV) (σ : aM) (x : Int) : ev 113 22 [a0, a1] [aI x] σ = some ((some (aI x)), σ) := ev_ret f_Ub_refuse_22 rfl
theorem f_Ub_refuseApart_0 : fetch 114 0 = some (.aload_n 0) := by decide +kernel
theorem e_Ub_refuseApart_0 (a1 : AV) (σ : aM) (l0 : Option (Nat × Int)) (r : List AV)  : ev 114 0 [aQ l0, a1] (r) σ = ev 114 1 [aQ l0, a1] (aQ l0 :: r) σ := ev_go f_Ub_refuseApart_0 rfl
theorem f_Ub_refuseApart_1 : fetch 114 1 = some (.iload_n 1) := by decide +kernel
theorem e_Ub_refuseApart_1 (a0 : AV) (σ : aM) (l1 : Int) (r : List AV)  : ev 114 1 [a0, aI l1] (r) σ = ev 114 2 [a0, aI l1] (aI l1 :: r) σ := ev_go f_Ub_refuseApart_1 rfl
theorem f_Ub_refuseApart_2 : fetch 114 2 = some (.invokevirtual 71) := by decide +kernel
theorem e_Ub_refuseApart_2 (a0 a1 : AV) (σ : aM) (s0 : Int) (s1 : Int) : ev 114 2 [a0, a1] [aI s1, aR 0 s0] σ = evK 114 5 [a0, a1] [] (ev 113 0 [aR 0 s0, aI s1] [] σ) := ev_call f_Ub_refuseApart_2 rfl rfl
theorem f_Ub_refuseApart_5 : fetch 114 5 = some (.bipush 10) := by decide +kernel
theorem e_Ub_refuseApart_5 (a0 a1 : AV) (σ : aM) (r : List AV)  : ev 114 5 [a0, a1] (r) σ = ev 114 7 [a0, a1] (aI 10 :: r) σ := ev_go f_Ub_refuseApart_5 rfl
theorem f_Ub_refuseApart_7 : fetch 114 7 = some (.isub) := by decide +kernel
theorem e_Ub_refuseApart_7 (a0 a1 : AV) (σ : aM) (x z : Int) (r : List AV)  : ev 114 7 [a0, a1] (aI z :: aI x :: r) σ = ev 114 8 [a0, a1] (aI (wr (x - z)) :: r) σ := ev_go f_Ub_refuseApart_7 rfl
theorem f_Ub_refuseApart_8 : fetch 114 8 = some (.ireturn) := by decide +kernel
theorem e_Ub_refuseApart_8 (a0 a1 : AV) (σ : aM) (x : Int) : ev 114 8 [a0, a1] [aI x] σ = some ((some (aI x)), σ) := ev_ret f_Ub_refuseApart_8 rfl
theorem f_Ub_reasonAgainstRow_0 : fetch 115 0 = some (.iload_n 1) := by decide +kernel
theorem e_Ub_reasonAgainstRow_0 (a0 : AV) (σ : aM) (l1 : Int) (r : List AV)  : ev 115 0 [a0, aI l1] (r) σ = ev 115 1 [a0, aI l1] (aI l1 :: r) σ := ev_go f_Ub_reasonAgainstRow_0 rfl
theorem f_Ub_reasonAgainstRow_1 : fetch 115 1 = some (.invokestatic 67) := by decide +kernel
theorem e_Ub_reasonAgainstRow_1 (a0 a1 : AV) (σ : aM) (s0 : Int) : ev 115 1 [a0, a1] [aI s0] σ = evK 115 4 [a0, a1] [] (ev 117 0 [aI s0] [] σ) := ev_call f_Ub_reasonAgainstRow_1 rfl rfl
theorem f_Ub_reasonAgainstRow_4 : fetch 115 4 = some (.ifCond .ne 5) := by decide +kernel
theorem e_Ub_reasonAgainstRow_4 (a0 a1 : AV) (σ : aM) (x : Int) (r : List AV) : ev 115 4 [a0, a1] (aI x :: r) σ = if ¬ x = 0 then ev 115 9 [a0, a1] r σ else ev 115 7 [a0, a1] r σ := ev_br f_Ub_reasonAgainstRow_4 rfl bc_ne
theorem f_Ub_reasonAgainstRow_7 : fetch 115 7 = some (.iconst (-1)) := by decide +kernel
theorem e_Ub_reasonAgainstRow_7 (a0 a1 : AV) (σ : aM) (r : List AV)  : ev 115 7 [a0, a1] (r) σ = ev 115 8 [a0, a1] (aI (-1) :: r) σ := ev_go f_Ub_reasonAgainstRow_7 rfl
theorem f_Ub_reasonAgainstRow_8 : fetch 115 8 = some (.ireturn) := by decide +kernel
theorem e_Ub_reasonAgainstRow_8 (a0 a1 : AV) (σ : aM) (x : Int) : ev 115 8 [a0, a1] [aI x] σ = some ((some (aI x)), σ) := ev_ret f_Ub_reasonAgainstRow_8 rfl
theorem f_Ub_reasonAgainstRow_9 : fetch 115 9 = some (.aload_n 0) := by decide +kernel
theorem e_Ub_reasonAgainstRow_9 (a1 : AV) (σ : aM) (l0 : Option (Nat × Int)) (r : List AV)  : ev 115 9 [aQ l0, a1] (r) σ = ev 115 10 [aQ l0, a1] (aQ l0 :: r) σ := ev_go f_Ub_reasonAgainstRow_9 rfl
theorem f_Ub_reasonAgainstRow_10 : fetch 115 10 = some (.getfield 11) := by decide +kernel
theorem e_Ub_reasonAgainstRow_10 (a0 a1 : AV) (σ : aM) (i : Int) (r : List AV)  : ev 115 10 [a0, a1] (aR 0 i :: r) σ = ev 115 13 [a0, a1] (aR 1 0 :: r) σ := ev_go f_Ub_reasonAgainstRow_10 rfl
theorem f_Ub_reasonAgainstRow_13 : fetch 115 13 = some (.iload_n 1) := by decide +kernel
theorem e_Ub_reasonAgainstRow_13 (a0 : AV) (σ : aM) (l1 : Int) (r : List AV)  : ev 115 13 [a0, aI l1] (r) σ = ev 115 14 [a0, aI l1] (aI l1 :: r) σ := ev_go f_Ub_reasonAgainstRow_13 rfl
theorem f_Ub_reasonAgainstRow_14 : fetch 115 14 = some (.aaload) := by decide +kernel
theorem e_Ub_reasonAgainstRow_14 (a0 a1 : AV) (σ : aM) (x : Int) (i : Int) (r : List AV) (h : 0 ≤ x ∧ x < 8) : ev 115 14 [a0, a1] (aI x :: aR 1 i :: r) σ = ev 115 15 [a0, a1] (aR 2 x :: r) σ := ev_cd f_Ub_reasonAgainstRow_14 rfl ⟨by decide, by decide, h.1, by rw [aLen_n (by decide) rfl]; exact h.2⟩
theorem f_Ub_reasonAgainstRow_15 : fetch 115 15 = some (.invokevirtual 89) := by decide +kernel
theorem e_Ub_reasonAgainstRow_15 (a0 a1 : AV) (σ : aM) (s0 : Int) : ev 115 15 [a0, a1] [aR 2 s0] σ = evK 115 18 [a0, a1] [] (ev 58 0 [aR 2 s0] [] σ) := ev_call f_Ub_reasonAgainstRow_15 rfl rfl
theorem f_Ub_reasonAgainstRow_18 : fetch 115 18 = some (.ifCond .eq 6) := by decide +kernel
theorem e_Ub_reasonAgainstRow_18 (a0 a1 : AV) (σ : aM) (x : Int) (r : List AV) : ev 115 18 [a0, a1] (aI x :: r) σ = if x = 0 then ev 115 24 [a0, a1] r σ else ev 115 21 [a0, a1] r σ := ev_br f_Ub_reasonAgainstRow_18 rfl bc_eq
theorem f_Ub_reasonAgainstRow_21 : fetch 115 21 = some (.bipush (-2)) := by decide +kernel
theorem e_Ub_reasonAgainstRow_21 (a0 a1 : AV) (σ : aM) (r : List AV)  : ev 115 21 [a0, a1] (r) σ = ev 115 23 [a0, a1] (aI (-2) :: r) σ := ev_go f_Ub_reasonAgainstRow_21 rfl
theorem f_Ub_reasonAgainstRow_23 : fetch 115 23 = some (.ireturn) := by decide +kernel
theorem e_Ub_reasonAgainstRow_23 (a0 a1 : AV) (σ : aM) (x : Int) : ev 115 23 [a0, a1] [aI x] σ = some ((some (aI x)), σ) := ev_ret f_Ub_reasonAgainstRow_23 rfl
theorem f_Ub_reasonAgainstRow_24 : fetch 115 24 = some (.aload_n 0) := by decide +kernel
theorem e_Ub_reasonAgainstRow_24 (a1 : AV) (σ : aM) (l0 : Option (Nat × Int)) (r : List AV)  : ev 115 24 [aQ l0, a1] (r) σ = ev 115 25 [aQ l0, a1] (aQ l0 :: r) σ := ev_go f_Ub_reasonAgainstRow_24 rfl
theorem f_Ub_reasonAgainstRow_25 : fetch 115 25 = some (.getfield 11) := by decide +kernel
theorem e_Ub_reasonAgainstRow_25 (a0 a1 : AV) (σ : aM) (i : Int) (r : List AV)  : ev 115 25 [a0, a1] (aR 0 i :: r) σ = ev 115 28 [a0, a1] (aR 1 0 :: r) σ := ev_go f_Ub_reasonAgainstRow_25 rfl
theorem f_Ub_reasonAgainstRow_28 : fetch 115 28 = some (.iload_n 1) := by decide +kernel
theorem e_Ub_reasonAgainstRow_28 (a0 : AV) (σ : aM) (l1 : Int) (r : List AV)  : ev 115 28 [a0, aI l1] (r) σ = ev 115 29 [a0, aI l1] (aI l1 :: r) σ := ev_go f_Ub_reasonAgainstRow_28 rfl
theorem f_Ub_reasonAgainstRow_29 : fetch 115 29 = some (.aaload) := by decide +kernel
theorem e_Ub_reasonAgainstRow_29 (a0 a1 : AV) (σ : aM) (x : Int) (i : Int) (r : List AV) (h : 0 ≤ x ∧ x < 8) : ev 115 29 [a0, a1] (aI x :: aR 1 i :: r) σ = ev 115 30 [a0, a1] (aR 2 x :: r) σ := ev_cd f_Ub_reasonAgainstRow_29 rfl ⟨by decide, by decide, h.1, by rw [aLen_n (by decide) rfl]; exact h.2⟩
theorem f_Ub_reasonAgainstRow_30 : fetch 115 30 = some (.invokevirtual 93) := by decide +kernel
theorem e_Ub_reasonAgainstRow_30 (a0 a1 : AV) (σ : aM) (s0 : Int) : ev 115 30 [a0, a1] [aR 2 s0] σ = evK 115 33 [a0, a1] [] (ev 57 0 [aR 2 s0] [] σ) := ev_call f_Ub_reasonAgainstRow_30 rfl rfl
theorem f_Ub_reasonAgainstRow_33 : fetch 115 33 = some (.ifCond .eq 7) := by decide +kernel
theorem e_Ub_reasonAgainstRow_33 (a0 a1 : AV) (σ : aM) (x : Int) (r : List AV) : ev 115 33 [a0, a1] (aI x :: r) σ = if x = 0 then ev 115 40 [a0, a1] r σ else ev 115 36 [a0, a1] r σ := ev_br f_Ub_reasonAgainstRow_33 rfl bc_eq
theorem f_Ub_reasonAgainstRow_36 : fetch 115 36 = some (.iconst 0) := by decide +kernel
theorem e_Ub_reasonAgainstRow_36 (a0 a1 : AV) (σ : aM) (r : List AV)  : ev 115 36 [a0, a1] (r) σ = ev 115 37 [a0, a1] (aI 0 :: r) σ := ev_go f_Ub_reasonAgainstRow_36 rfl
theorem f_Ub_reasonAgainstRow_37 : fetch 115 37 = some (.goto 5) := by decide +kernel
theorem e_Ub_reasonAgainstRow_37 (a0 a1 : AV) (σ : aM) (r : List AV)  : ev 115 37 [a0, a1] (r) σ = ev 115 42 [a0, a1] (r) σ := ev_go f_Ub_reasonAgainstRow_37 rfl
theorem f_Ub_reasonAgainstRow_40 : fetch 115 40 = some (.bipush (-3)) := by decide +kernel
theorem e_Ub_reasonAgainstRow_40 (a0 a1 : AV) (σ : aM) (r : List AV)  : ev 115 40 [a0, a1] (r) σ = ev 115 42 [a0, a1] (aI (-3) :: r) σ := ev_go f_Ub_reasonAgainstRow_40 rfl
theorem f_Ub_reasonAgainstRow_42 : fetch 115 42 = some (.ireturn) := by decide +kernel
theorem e_Ub_reasonAgainstRow_42 (a0 a1 : AV) (σ : aM) (x : Int) : ev 115 42 [a0, a1] [aI x] σ = some ((some (aI x)), σ) := ev_ret f_Ub_reasonAgainstRow_42 rfl
theorem f_Ub_reasonAgainstComer_0 : fetch 116 0 = some (.iload_n 1) := by decide +kernel
theorem e_Ub_reasonAgainstComer_0 (a0 a2 a3 : AV) (σ : aM) (l1 : Int) (r : List AV)  : ev 116 0 [a0, aI l1, a2, a3] (r) σ = ev 116 1 [a0, aI l1, a2, a3] (aI l1 :: r) σ := ev_go f_Ub_reasonAgainstComer_0 rfl
theorem f_Ub_reasonAgainstComer_1 : fetch 116 1 = some (.invokestatic 154) := by decide +kernel
theorem e_Ub_reasonAgainstComer_1 (a0 a1 a2 a3 : AV) (σ : aM) (s0 : Int) : ev 116 1 [a0, a1, a2, a3] [aI s0] σ = evK 116 4 [a0, a1, a2, a3] [] (ev 118 0 [aI s0] [] σ) := ev_call f_Ub_reasonAgainstComer_1 rfl rfl
theorem f_Ub_reasonAgainstComer_4 : fetch 116 4 = some (.ifCond .eq 10) := by decide +kernel
theorem e_Ub_reasonAgainstComer_4 (a0 a1 a2 a3 : AV) (σ : aM) (x : Int) (r : List AV) : ev 116 4 [a0, a1, a2, a3] (aI x :: r) σ = if x = 0 then ev 116 14 [a0, a1, a2, a3] r σ else ev 116 7 [a0, a1, a2, a3] r σ := ev_br f_Ub_reasonAgainstComer_4 rfl bc_eq
theorem f_Ub_reasonAgainstComer_7 : fetch 116 7 = some (.iload_n 2) := by decide +kernel
theorem e_Ub_reasonAgainstComer_7 (a0 a1 a3 : AV) (σ : aM) (l2 : Int) (r : List AV)  : ev 116 7 [a0, a1, aI l2, a3] (r) σ = ev 116 8 [a0, a1, aI l2, a3] (aI l2 :: r) σ := ev_go f_Ub_reasonAgainstComer_7 rfl
theorem f_Ub_reasonAgainstComer_8 : fetch 116 8 = some (.invokestatic 157) := by decide +kernel
theorem e_Ub_reasonAgainstComer_8 (a0 a1 a2 a3 : AV) (σ : aM) (s0 : Int) : ev 116 8 [a0, a1, a2, a3] [aI s0] σ = evK 116 11 [a0, a1, a2, a3] [] (ev 119 0 [aI s0] [] σ) := ev_call f_Ub_reasonAgainstComer_8 rfl rfl
theorem f_Ub_reasonAgainstComer_11 : fetch 116 11 = some (.ifCond .ne 5) := by decide +kernel
theorem e_Ub_reasonAgainstComer_11 (a0 a1 a2 a3 : AV) (σ : aM) (x : Int) (r : List AV) : ev 116 11 [a0, a1, a2, a3] (aI x :: r) σ = if ¬ x = 0 then ev 116 16 [a0, a1, a2, a3] r σ else ev 116 14 [a0, a1, a2, a3] r σ := ev_br f_Ub_reasonAgainstComer_11 rfl bc_ne
theorem f_Ub_reasonAgainstComer_14 : fetch 116 14 = some (.iconst (-1)) := by decide +kernel
theorem e_Ub_reasonAgainstComer_14 (a0 a1 a2 a3 : AV) (σ : aM) (r : List AV)  : ev 116 14 [a0, a1, a2, a3] (r) σ = ev 116 15 [a0, a1, a2, a3] (aI (-1) :: r) σ := ev_go f_Ub_reasonAgainstComer_14 rfl
theorem f_Ub_reasonAgainstComer_15 : fetch 116 15 = some (.ireturn) := by decide +kernel
theorem e_Ub_reasonAgainstComer_15 (a0 a1 a2 a3 : AV) (σ : aM) (x : Int) : ev 116 15 [a0, a1, a2, a3] [aI x] σ = some ((some (aI x)), σ) := ev_ret f_Ub_reasonAgainstComer_15 rfl
theorem f_Ub_reasonAgainstComer_16 : fetch 116 16 = some (.iload_n 3) := by decide +kernel
theorem e_Ub_reasonAgainstComer_16 (a0 a1 a2 : AV) (σ : aM) (l3 : Int) (r : List AV)  : ev 116 16 [a0, a1, a2, aI l3] (r) σ = ev 116 17 [a0, a1, a2, aI l3] (aI l3 :: r) σ := ev_go f_Ub_reasonAgainstComer_16 rfl
theorem f_Ub_reasonAgainstComer_17 : fetch 116 17 = some (.ifCond .ne 6) := by decide +kernel
theorem e_Ub_reasonAgainstComer_17 (a0 a1 a2 a3 : AV) (σ : aM) (x : Int) (r : List AV) : ev 116 17 [a0, a1, a2, a3] (aI x :: r) σ = if ¬ x = 0 then ev 116 23 [a0, a1, a2, a3] r σ else ev 116 20 [a0, a1, a2, a3] r σ := ev_br f_Ub_reasonAgainstComer_17 rfl bc_ne
theorem f_Ub_reasonAgainstComer_20 : fetch 116 20 = some (.bipush (-6)) := by decide +kernel
theorem e_Ub_reasonAgainstComer_20 (a0 a1 a2 a3 : AV) (σ : aM) (r : List AV)  : ev 116 20 [a0, a1, a2, a3] (r) σ = ev 116 22 [a0, a1, a2, a3] (aI (-6) :: r) σ := ev_go f_Ub_reasonAgainstComer_20 rfl
theorem f_Ub_reasonAgainstComer_22 : fetch 116 22 = some (.ireturn) := by decide +kernel
theorem e_Ub_reasonAgainstComer_22 (a0 a1 a2 a3 : AV) (σ : aM) (x : Int) : ev 116 22 [a0, a1, a2, a3] [aI x] σ = some ((some (aI x)), σ) := ev_ret f_Ub_reasonAgainstComer_22 rfl
theorem f_Ub_reasonAgainstComer_23 : fetch 116 23 = some (.aload_n 0) := by decide +kernel
theorem e_Ub_reasonAgainstComer_23 (a1 a2 a3 : AV) (σ : aM) (l0 : Option (Nat × Int)) (r : List AV)  : ev 116 23 [aQ l0, a1, a2, a3] (r) σ = ev 116 24 [aQ l0, a1, a2, a3] (aQ l0 :: r) σ := ev_go f_Ub_reasonAgainstComer_23 rfl
theorem f_Ub_reasonAgainstComer_24 : fetch 116 24 = some (.getfield 30) := by decide +kernel
theorem e_Ub_reasonAgainstComer_24 (a0 a1 a2 a3 : AV) (σ : aM) (i : Int) (r : List AV)  : ev 116 24 [a0, a1, a2, a3] (aR 0 i :: r) σ = ev 116 27 [a0, a1, a2, a3] (aR 6 0 :: r) σ := ev_go f_Ub_reasonAgainstComer_24 rfl
theorem f_Ub_reasonAgainstComer_27 : fetch 116 27 = some (.getfield 174) := by decide +kernel
theorem e_Ub_reasonAgainstComer_27 (a0 a1 a2 a3 : AV) (σ : aM) (i : Int) (r : List AV)  : ev 116 27 [a0, a1, a2, a3] (aR 6 i :: r) σ = ev 116 30 [a0, a1, a2, a3] (aI (gI σ 6 i 2) :: r) σ := ev_go f_Ub_reasonAgainstComer_27 rfl
theorem f_Ub_reasonAgainstComer_30 : fetch 116 30 = some (.bipush 60) := by decide +kernel
theorem e_Ub_reasonAgainstComer_30 (a0 a1 a2 a3 : AV) (σ : aM) (r : List AV)  : ev 116 30 [a0, a1, a2, a3] (r) σ = ev 116 32 [a0, a1, a2, a3] (aI 60 :: r) σ := ev_go f_Ub_reasonAgainstComer_30 rfl
theorem f_Ub_reasonAgainstComer_32 : fetch 116 32 = some (.if_icmp .ge 7) := by decide +kernel
theorem e_Ub_reasonAgainstComer_32 (a0 a1 a2 a3 : AV) (σ : aM) (x z : Int) (r : List AV) : ev 116 32 [a0, a1, a2, a3] (aI z :: aI x :: r) σ = if z ≤ x then ev 116 39 [a0, a1, a2, a3] r σ else ev 116 35 [a0, a1, a2, a3] r σ := ev_br f_Ub_reasonAgainstComer_32 rfl bc_ge
theorem f_Ub_reasonAgainstComer_35 : fetch 116 35 = some (.iconst 0) := by decide +kernel
theorem e_Ub_reasonAgainstComer_35 (a0 a1 a2 a3 : AV) (σ : aM) (r : List AV)  : ev 116 35 [a0, a1, a2, a3] (r) σ = ev 116 36 [a0, a1, a2, a3] (aI 0 :: r) σ := ev_go f_Ub_reasonAgainstComer_35 rfl
theorem f_Ub_reasonAgainstComer_36 : fetch 116 36 = some (.goto 5) := by decide +kernel
theorem e_Ub_reasonAgainstComer_36 (a0 a1 a2 a3 : AV) (σ : aM) (r : List AV)  : ev 116 36 [a0, a1, a2, a3] (r) σ = ev 116 41 [a0, a1, a2, a3] (r) σ := ev_go f_Ub_reasonAgainstComer_36 rfl
theorem f_Ub_reasonAgainstComer_39 : fetch 116 39 = some (.bipush (-7)) := by decide +kernel
theorem e_Ub_reasonAgainstComer_39 (a0 a1 a2 a3 : AV) (σ : aM) (r : List AV)  : ev 116 39 [a0, a1, a2, a3] (r) σ = ev 116 41 [a0, a1, a2, a3] (aI (-7) :: r) σ := ev_go f_Ub_reasonAgainstComer_39 rfl
theorem f_Ub_reasonAgainstComer_41 : fetch 116 41 = some (.ireturn) := by decide +kernel
theorem e_Ub_reasonAgainstComer_41 (a0 a1 a2 a3 : AV) (σ : aM) (x : Int) : ev 116 41 [a0, a1, a2, a3] [aI x] σ = some ((some (aI x)), σ) := ev_ret f_Ub_reasonAgainstComer_41 rfl
theorem f_Ub_isShelf_0 : fetch 117 0 = some (.iload_n 0) := by decide +kernel
theorem e_Ub_isShelf_0 (σ : aM) (l0 : Int) (r : List AV)  : ev 117 0 [aI l0] (r) σ = ev 117 1 [aI l0] (aI l0 :: r) σ := ev_go f_Ub_isShelf_0 rfl
theorem f_Ub_isShelf_1 : fetch 117 1 = some (.ifCond .lt 13) := by decide +kernel
theorem e_Ub_isShelf_1 (a0 : AV) (σ : aM) (x : Int) (r : List AV) : ev 117 1 [a0] (aI x :: r) σ = if x < 0 then ev 117 14 [a0] r σ else ev 117 4 [a0] r σ := ev_br f_Ub_isShelf_1 rfl bc_lt
theorem f_Ub_isShelf_4 : fetch 117 4 = some (.iload_n 0) := by decide +kernel
theorem e_Ub_isShelf_4 (σ : aM) (l0 : Int) (r : List AV)  : ev 117 4 [aI l0] (r) σ = ev 117 5 [aI l0] (aI l0 :: r) σ := ev_go f_Ub_isShelf_4 rfl
theorem f_Ub_isShelf_5 : fetch 117 5 = some (.bipush 8) := by decide +kernel
theorem e_Ub_isShelf_5 (a0 : AV) (σ : aM) (r : List AV)  : ev 117 5 [a0] (r) σ = ev 117 7 [a0] (aI 8 :: r) σ := ev_go f_Ub_isShelf_5 rfl
theorem f_Ub_isShelf_7 : fetch 117 7 = some (.if_icmp .ge 7) := by decide +kernel
theorem e_Ub_isShelf_7 (a0 : AV) (σ : aM) (x z : Int) (r : List AV) : ev 117 7 [a0] (aI z :: aI x :: r) σ = if z ≤ x then ev 117 14 [a0] r σ else ev 117 10 [a0] r σ := ev_br f_Ub_isShelf_7 rfl bc_ge
theorem f_Ub_isShelf_10 : fetch 117 10 = some (.iconst 1) := by decide +kernel
theorem e_Ub_isShelf_10 (a0 : AV) (σ : aM) (r : List AV)  : ev 117 10 [a0] (r) σ = ev 117 11 [a0] (aI 1 :: r) σ := ev_go f_Ub_isShelf_10 rfl
theorem f_Ub_isShelf_11 : fetch 117 11 = some (.goto 4) := by decide +kernel
theorem e_Ub_isShelf_11 (a0 : AV) (σ : aM) (r : List AV)  : ev 117 11 [a0] (r) σ = ev 117 15 [a0] (r) σ := ev_go f_Ub_isShelf_11 rfl
theorem f_Ub_isShelf_14 : fetch 117 14 = some (.iconst 0) := by decide +kernel
theorem e_Ub_isShelf_14 (a0 : AV) (σ : aM) (r : List AV)  : ev 117 14 [a0] (r) σ = ev 117 15 [a0] (aI 0 :: r) σ := ev_go f_Ub_isShelf_14 rfl
theorem f_Ub_isShelf_15 : fetch 117 15 = some (.ireturn) := by decide +kernel
theorem e_Ub_isShelf_15 (a0 : AV) (σ : aM) (x : Int) (h : x = 0 ∨ x = 1) : ev 117 15 [a0] [aI x] σ = some ((some (aI x)), σ) := ev_rB f_Ub_isShelf_15 rfl h
theorem f_Ub_isOwner_0 : fetch 118 0 = some (.iload_n 0) := by decide +kernel
theorem e_Ub_isOwner_0 (σ : aM) (l0 : Int) (r : List AV)  : ev 118 0 [aI l0] (r) σ = ev 118 1 [aI l0] (aI l0 :: r) σ := ev_go f_Ub_isOwner_0 rfl
theorem f_Ub_isOwner_1 : fetch 118 1 = some (.ifCond .lt 13) := by decide +kernel
theorem e_Ub_isOwner_1 (a0 : AV) (σ : aM) (x : Int) (r : List AV) : ev 118 1 [a0] (aI x :: r) σ = if x < 0 then ev 118 14 [a0] r σ else ev 118 4 [a0] r σ := ev_br f_Ub_isOwner_1 rfl bc_lt
theorem f_Ub_isOwner_4 : fetch 118 4 = some (.iload_n 0) := by decide +kernel
theorem e_Ub_isOwner_4 (σ : aM) (l0 : Int) (r : List AV)  : ev 118 4 [aI l0] (r) σ = ev 118 5 [aI l0] (aI l0 :: r) σ := ev_go f_Ub_isOwner_4 rfl
theorem f_Ub_isOwner_5 : fetch 118 5 = some (.bipush 8) := by decide +kernel
theorem e_Ub_isOwner_5 (a0 : AV) (σ : aM) (r : List AV)  : ev 118 5 [a0] (r) σ = ev 118 7 [a0] (aI 8 :: r) σ := ev_go f_Ub_isOwner_5 rfl
theorem f_Ub_isOwner_7 : fetch 118 7 = some (.if_icmp .ge 7) := by decide +kernel
theorem e_Ub_isOwner_7 (a0 : AV) (σ : aM) (x z : Int) (r : List AV) : ev 118 7 [a0] (aI z :: aI x :: r) σ = if z ≤ x then ev 118 14 [a0] r σ else ev 118 10 [a0] r σ := ev_br f_Ub_isOwner_7 rfl bc_ge
theorem f_Ub_isOwner_10 : fetch 118 10 = some (.iconst 1) := by decide +kernel
theorem e_Ub_isOwner_10 (a0 : AV) (σ : aM) (r : List AV)  : ev 118 10 [a0] (r) σ = ev 118 11 [a0] (aI 1 :: r) σ := ev_go f_Ub_isOwner_10 rfl
theorem f_Ub_isOwner_11 : fetch 118 11 = some (.goto 4) := by decide +kernel
theorem e_Ub_isOwner_11 (a0 : AV) (σ : aM) (r : List AV)  : ev 118 11 [a0] (r) σ = ev 118 15 [a0] (r) σ := ev_go f_Ub_isOwner_11 rfl
theorem f_Ub_isOwner_14 : fetch 118 14 = some (.iconst 0) := by decide +kernel
theorem e_Ub_isOwner_14 (a0 : AV) (σ : aM) (r : List AV)  : ev 118 14 [a0] (r) σ = ev 118 15 [a0] (aI 0 :: r) σ := ev_go f_Ub_isOwner_14 rfl
theorem f_Ub_isOwner_15 : fetch 118 15 = some (.ireturn) := by decide +kernel
theorem e_Ub_isOwner_15 (a0 : AV) (σ : aM) (x : Int) (h : x = 0 ∨ x = 1) : ev 118 15 [a0] [aI x] σ = some ((some (aI x)), σ) := ev_rB f_Ub_isOwner_15 rfl h
theorem f_Ub_isSide_0 : fetch 119 0 = some (.iload_n 0) := by decide +kernel
theorem e_Ub_isSide_0 (σ : aM) (l0 : Int) (r : List AV)  : ev 119 0 [aI l0] (r) σ = ev 119 1 [aI l0] (aI l0 :: r) σ := ev_go f_Ub_isSide_0 rfl
theorem f_Ub_isSide_1 : fetch 119 1 = some (.ifCond .eq 8) := by decide +kernel
theorem e_Ub_isSide_1 (a0 : AV) (σ : aM) (x : Int) (r : List AV) : ev 119 1 [a0] (aI x :: r) σ = if x = 0 then ev 119 9 [a0] r σ else ev 119 4 [a0] r σ := ev_br f_Ub_isSide_1 rfl bc_eq
theorem f_Ub_isSide_4 : fetch 119 4 = some (.iload_n 0) := by decide +kernel
theorem e_Ub_isSide_4 (σ : aM) (l0 : Int) (r : List AV)  : ev 119 4 [aI l0] (r) σ = ev 119 5 [aI l0] (aI l0 :: r) σ := ev_go f_Ub_isSide_4 rfl
theorem f_Ub_isSide_5 : fetch 119 5 = some (.iconst 1) := by decide +kernel
theorem e_Ub_isSide_5 (a0 : AV) (σ : aM) (r : List AV)  : ev 119 5 [a0] (r) σ = ev 119 6 [a0] (aI 1 :: r) σ := ev_go f_Ub_isSide_5 rfl
theorem f_Ub_isSide_6 : fetch 119 6 = some (.if_icmp .ne 7) := by decide +kernel
theorem e_Ub_isSide_6 (a0 : AV) (σ : aM) (x z : Int) (r : List AV) : ev 119 6 [a0] (aI z :: aI x :: r) σ = if ¬ x = z then ev 119 13 [a0] r σ else ev 119 9 [a0] r σ := ev_br f_Ub_isSide_6 rfl bc_ne
theorem f_Ub_isSide_9 : fetch 119 9 = some (.iconst 1) := by decide +kernel
theorem e_Ub_isSide_9 (a0 : AV) (σ : aM) (r : List AV)  : ev 119 9 [a0] (r) σ = ev 119 10 [a0] (aI 1 :: r) σ := ev_go f_Ub_isSide_9 rfl
theorem f_Ub_isSide_10 : fetch 119 10 = some (.goto 4) := by decide +kernel
theorem e_Ub_isSide_10 (a0 : AV) (σ : aM) (r : List AV)  : ev 119 10 [a0] (r) σ = ev 119 14 [a0] (r) σ := ev_go f_Ub_isSide_10 rfl
theorem f_Ub_isSide_13 : fetch 119 13 = some (.iconst 0) := by decide +kernel
theorem e_Ub_isSide_13 (a0 : AV) (σ : aM) (r : List AV)  : ev 119 13 [a0] (r) σ = ev 119 14 [a0] (aI 0 :: r) σ := ev_go f_Ub_isSide_13 rfl
theorem f_Ub_isSide_14 : fetch 119 14 = some (.ireturn) := by decide +kernel
theorem e_Ub_isSide_14 (a0 : AV) (σ : aM) (x : Int) (h : x = 0 ∨ x = 1) : ev 119 14 [a0] [aI x] σ = some ((some (aI x)), σ) := ev_rB f_Ub_isSide_14 rfl h
theorem f_Ub_isMeasure_0 : fetch 120 0 = some (.iload_n 0) := by decide +kernel
theorem e_Ub_isMeasure_0 (σ : aM) (l0 : Int) (r : List AV)  : ev 120 0 [aI l0] (r) σ = ev 120 1 [aI l0] (aI l0 :: r) σ := ev_go f_Ub_isMeasure_0 rfl
theorem f_Ub_isMeasure_1 : fetch 120 1 = some (.iconst 1) := by decide +kernel
theorem e_Ub_isMeasure_1 (a0 : AV) (σ : aM) (r : List AV)  : ev 120 1 [a0] (r) σ = ev 120 2 [a0] (aI 1 :: r) σ := ev_go f_Ub_isMeasure_1 rfl
theorem f_Ub_isMeasure_2 : fetch 120 2 = some (.if_icmp .lt 14) := by decide +kernel
theorem e_Ub_isMeasure_2 (a0 : AV) (σ : aM) (x z : Int) (r : List AV) : ev 120 2 [a0] (aI z :: aI x :: r) σ = if x < z then ev 120 16 [a0] r σ else ev 120 5 [a0] r σ := ev_br f_Ub_isMeasure_2 rfl bc_lt
theorem f_Ub_isMeasure_5 : fetch 120 5 = some (.iload_n 0) := by decide +kernel
theorem e_Ub_isMeasure_5 (σ : aM) (l0 : Int) (r : List AV)  : ev 120 5 [aI l0] (r) σ = ev 120 6 [aI l0] (aI l0 :: r) σ := ev_go f_Ub_isMeasure_5 rfl
theorem f_Ub_isMeasure_6 : fetch 120 6 = some (.sipush 999) := by decide +kernel
theorem e_Ub_isMeasure_6 (a0 : AV) (σ : aM) (r : List AV)  : ev 120 6 [a0] (r) σ = ev 120 9 [a0] (aI 999 :: r) σ := ev_go f_Ub_isMeasure_6 rfl
theorem f_Ub_isMeasure_9 : fetch 120 9 = some (.if_icmp .gt 7) := by decide +kernel
theorem e_Ub_isMeasure_9 (a0 : AV) (σ : aM) (x z : Int) (r : List AV) : ev 120 9 [a0] (aI z :: aI x :: r) σ = if z < x then ev 120 16 [a0] r σ else ev 120 12 [a0] r σ := ev_br f_Ub_isMeasure_9 rfl bc_gt
theorem f_Ub_isMeasure_12 : fetch 120 12 = some (.iconst 1) := by decide +kernel
theorem e_Ub_isMeasure_12 (a0 : AV) (σ : aM) (r : List AV)  : ev 120 12 [a0] (r) σ = ev 120 13 [a0] (aI 1 :: r) σ := ev_go f_Ub_isMeasure_12 rfl
theorem f_Ub_isMeasure_13 : fetch 120 13 = some (.goto 4) := by decide +kernel
theorem e_Ub_isMeasure_13 (a0 : AV) (σ : aM) (r : List AV)  : ev 120 13 [a0] (r) σ = ev 120 17 [a0] (r) σ := ev_go f_Ub_isMeasure_13 rfl
theorem f_Ub_isMeasure_16 : fetch 120 16 = some (.iconst 0) := by decide +kernel
theorem e_Ub_isMeasure_16 (a0 : AV) (σ : aM) (r : List AV)  : ev 120 16 [a0] (r) σ = ev 120 17 [a0] (aI 0 :: r) σ := ev_go f_Ub_isMeasure_16 rfl
theorem f_Ub_isMeasure_17 : fetch 120 17 = some (.ireturn) := by decide +kernel
theorem e_Ub_isMeasure_17 (a0 : AV) (σ : aM) (x : Int) (h : x = 0 ∨ x = 1) : ev 120 17 [a0] [aI x] σ = some ((some (aI x)), σ) := ev_rB f_Ub_isMeasure_17 rfl h
theorem f_Ub_otherSide_0 : fetch 121 0 = some (.iload_n 0) := by decide +kernel
theorem e_Ub_otherSide_0 (σ : aM) (l0 : Int) (r : List AV)  : ev 121 0 [aI l0] (r) σ = ev 121 1 [aI l0] (aI l0 :: r) σ := ev_go f_Ub_otherSide_0 rfl
theorem f_Ub_otherSide_1 : fetch 121 1 = some (.ifCond .ne 7) := by decide +kernel
theorem e_Ub_otherSide_1 (a0 : AV) (σ : aM) (x : Int) (r : List AV) : ev 121 1 [a0] (aI x :: r) σ = if ¬ x = 0 then ev 121 8 [a0] r σ else ev 121 4 [a0] r σ := ev_br f_Ub_otherSide_1 rfl bc_ne
theorem f_Ub_otherSide_4 : fetch 121 4 = some (.iconst 1) := by decide +kernel
theorem e_Ub_otherSide_4 (a0 : AV) (σ : aM) (r : List AV)  : ev 121 4 [a0] (r) σ = ev 121 5 [a0] (aI 1 :: r) σ := ev_go f_Ub_otherSide_4 rfl
theorem f_Ub_otherSide_5 : fetch 121 5 = some (.goto 4) := by decide +kernel
theorem e_Ub_otherSide_5 (a0 : AV) (σ : aM) (r : List AV)  : ev 121 5 [a0] (r) σ = ev 121 9 [a0] (r) σ := ev_go f_Ub_otherSide_5 rfl
theorem f_Ub_otherSide_8 : fetch 121 8 = some (.iconst 0) := by decide +kernel
theorem e_Ub_otherSide_8 (a0 : AV) (σ : aM) (r : List AV)  : ev 121 8 [a0] (r) σ = ev 121 9 [a0] (aI 0 :: r) σ := ev_go f_Ub_otherSide_8 rfl
theorem f_Ub_otherSide_9 : fetch 121 9 = some (.ireturn) := by decide +kernel
theorem e_Ub_otherSide_9 (a0 : AV) (σ : aM) (x : Int) : ev 121 9 [a0] [aI x] σ = some ((some (aI x)), σ) := ev_ret f_Ub_otherSide_9 rfl
